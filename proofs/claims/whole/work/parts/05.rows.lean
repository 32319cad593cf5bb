section WR
variable {l : Launch} {E : wg_E} {S : wg_S} {own : String} {cc : ByteArray} {nL : Nat} {rt : Option FieldType} {R : Room} {r : Option Int32} {σ' : wg_M} {pc : Nat} {L : List (Option Value)} {st : List Value} {σ : wg_M} {z : Int32 × wg_M}
/-- a class's table: its number, name, fields, their types -/
def wg_C (ci : Nat) (C : String) (T : u_T) (N : Nat) (ty : Nat → FieldType) : Prop := vwCl[ci]? = some (C, T, N) ∧ (∀ w ∈ u_ws C T N, w ∈ wg_T) ∧ (∀ k, k < N → parseFieldDescriptor (T k).2.2.1 = some (ty k)) ∧ (∀ a, a < N → ∀ b, b < N → a ≠ b → (T a).2.1 ≠ (T b).2.1) ∧ ci ≠ 998
/-- entry idx of class own names field i of class ci; its kind t -/
def wg_F (own : String) (idx ci i t : Nat) : Prop := ∃ (C : String) (T : u_T) (N : Nat) (ty : Nat → FieldType), wg_C ci C T N ty ∧ i < N ∧ Cond.fieldLink own idx (T i).1 (T i).2.1 (T i).2.2.1 ∈ wg_T ∧ (wg_pt ci)[i]? = some t
/-- .. and may be written -/
def wg_FP (own : String) (idx ci i : Nat) (fty : FieldType) : Prop := ∃ (C : String) (T : u_T) (N : Nat) (ty : Nat → FieldType), wg_C ci C T N ty ∧ i < N ∧ Cond.fieldLink own idx (T i).1 (T i).2.1 (T i).2.2.1 ∈ wg_T ∧ (wg_pt ci)[i]? = some 0 ∧ (T i).2.2.2 = false ∧ parseFieldDescriptor (T i).2.2.1 = some fty
theorem wg_w_obj {ci k : Nat} (hO : wg_OK E S) (hk : wg_t S k = ci + 2) (hc : ci ≠ 998) : (wg_w E S σ)[k]? = some (E.1 k, .inr (ci, (wg_f S k).mapIdx (wg_fv E (σ k)))) := by
  rw [wg_w_get (wg_lt hk (by omega)), (wg_fields hO.2.1 hk hc).1]
  rfl
theorem wg_w_arr {k : Nat} (hk : wg_t S k = 0) : (wg_w E S σ)[k]? = some (E.1 k, .inl (E.2.2.1, wg_n S k, .inl (σ k))) := by
  have e : wg_c S k = (0, wg_n S k, wg_f S k) := by rw [← hk]; rfl
  rw [wg_w_get (wg_lt hk (by omega)), e]
  rfl
theorem wg_w_rar {k : Nat} (hk : wg_t S k = 1) : (wg_w E S σ)[k]? = some (E.1 k, .inl (E.2.2.2.1, wg_n S k, .inr (.inr (.inr (.inr (fun i => ((wg_f S k).getD i none).map E.1)))))) := by
  have e : wg_c S k = (1, wg_n S k, wg_f S k) := by rw [← hk]; rfl
  rw [wg_w_get (wg_lt hk (by omega)), e]
  rfl
theorem wr_getI {idx ci i k : Nat} (hF : wg_F own idx ci i 0) (hd : decode cc pc = .ok (.getfield idx, 3)) (hk : wg_t S k = ci + 2) (kk : wg_G l E S own cc nL rt R r σ' (pc + 3) L (.int (σ k i) :: st) σ) : wg_G l E S own cc nL rt R r σ' pc L (.ref k :: st) σ := by
  intro p e s m args below meth c H locs ls hx hb hml hr hlk ho hts hK hO hP hS hL
  obtain ⟨C, T, N, ty, ⟨h1, h2, h3, h4, h5⟩, hi, hw, hp⟩ := hF
  refine va_get (D := E.2.1) (cl := vwCl) (tys := wg_ys E) (ws := wg_w E S σ) (C := C) (T := T) (N := N) (ci := ci) (v := .int (σ k i)) hx hb hts h2 ho hK.1 hP k (wg_w_obj hO hk h5) h1 i hi (hts _ hw) (fun _ h9 => h9) ?_ hd (kk p e s m args below meth c H locs ls hx hb hml hr hlk ho hts hK hO hP hS hL)
  rw [List.getElem?_mapIdx, wg_ti hO.2.1 hk hp h5]
  rfl
theorem wr_getR {idx ci i k t : Nat} (hF : wg_F own idx ci i (t + 1)) (hd : decode cc pc = .ok (.getfield idx, 3)) (hk : wg_t S k = ci + 2) (kk : wg_G l E S own cc nL rt R r σ' (pc + 3) L (.ref (wg_r S k i) :: st) σ) : wg_G l E S own cc nL rt R r σ' pc L (.ref k :: st) σ := by
  intro p e s m args below meth c H locs ls hx hb hml hr hlk ho hts hK hO hP hS hL
  obtain ⟨C, T, N, ty, ⟨h1, h2, h3, h4, h5⟩, hi, hw, hp⟩ := hF
  refine va_get (D := E.2.1) (cl := vwCl) (tys := wg_ys E) (ws := wg_w E S σ) (C := C) (T := T) (N := N) (ci := ci) (v := .ref (E.1 (wg_r S k i))) hx hb hts h2 ho hK.1 hP k (wg_w_obj hO hk h5) h1 i hi (hts _ hw) (fun _ h9 => h9) ?_ hd (kk p e s m args below meth c H locs ls hx hb hml hr hlk ho hts hK hO hP hS hL)
  rw [List.getElem?_mapIdx, (wg_ty hO.2.1 ci i t hk hp h5).1]
  rfl
def wg_st {α : Type} (σ : wg_M) (k i : Nat) (v : Int32) (κ : wg_M → Option α) : Option α := κ (wg_u σ k i v)
theorem wg_u_ne {k i j : Nat} {v : Int32} (h : j ≠ k) : σ j = wg_u σ k i v j := by simp [wg_u, h]
theorem wg_u_eq {k i : Nat} {v : Int32} : wg_u σ k i v k = upd (σ k) i v := by simp [wg_u]
theorem wg_put_obj {ci k i : Nat} {v : Int32} (hO : wg_OK E S) (hk : wg_t S k = ci + 2) (hc : ci ≠ 998) (hf : (wg_f S k)[i]? = some none) : (wg_w E S σ).set k (E.1 k, .inr (ci, ((wg_f S k).mapIdx (wg_fv E (σ k))).set i (.int v))) = wg_w E S (wg_u σ k i v) := by
  refine wg_w_set (wg_lt hk (by omega)) ?_ (fun j hj => wg_u_ne hj)
  rw [(wg_fields hO.2.1 hk hc).1, wg_u_eq]
  show _ = Sum.inr (ci, (wg_f S k).mapIdx (wg_fv E (upd (σ k) i v)))
  congr 2
  apply List.ext_getElem?
  intro j
  have hl : i < ((wg_f S k).mapIdx (wg_fv E (σ k))).length := by
    rw [List.length_mapIdx]; exact (List.getElem?_eq_some_iff.mp hf).1
  by_cases hj : j = i
  · subst hj
    rw [List.getElem?_set_self hl, List.getElem?_mapIdx, hf]
    simp [wg_fv, upd]
  · rw [List.getElem?_set_ne (Ne.symm hj), List.getElem?_mapIdx, List.getElem?_mapIdx]
    cases (wg_f S k)[j]? with
    | none => rfl
    | some o => cases o <;> simp [wg_fv, upd, hj]
theorem wr_putI {idx ci i k : Nat} {v : Int32} {κ : wg_M → Option (Int32 × wg_M)} (hF : wg_FP own idx ci i .int) (hd : decode cc pc = .ok (.putfield idx, 3)) (hk : wg_t S k = ci + 2) (h : wg_st σ k i v κ = some z) (kk : ∀ σ1, κ σ1 = some z → wg_G l E S own cc nL rt R r σ' (pc + 3) L st σ1) : wg_G l E S own cc nL rt R r σ' pc L (.int v :: .ref k :: st) σ := by
  intro p e s m args below meth c H locs ls hx hb hml hr hlk ho hts hK hO hP hS hL
  obtain ⟨C, T, N, ty, ⟨h1, h2, h3, h4, h5⟩, hi, hw, hp, hfin, hdsc⟩ := hF
  have hf := wg_ti hO.2.1 hk hp h5
  refine va_put (D := E.2.1) (cl := vwCl) (tys := wg_ys E) (ws := wg_w E S σ) (C := C) (T := T) (N := N) (ci := ci) (v := .int v) (ty := .int) hx hb hts h2 ty h3 h4 ho hK.1 hP (wg_D hO) hS k (wg_w_obj hO hk h5) h1 i hi (hts _ hw) (fun _ h9 => h9) hfin hdsc rfl rfl (by rw [List.length_mapIdx]; exact (List.getElem?_eq_some_iff.mp hf).1) hd (fun H1 locs1 hP1 hD1 hS1 => ?_)
  rw [wg_put_obj hO hk h5 hf] at hP1
  exact kk _ h p e s m args below meth c H1 locs1 ls hx hb hml hr hlk ho hts hK hO hP1 hS1 hL
theorem wr_putZ {idx ci i k : Nat} {v : Int32} {κ : wg_M → Option (Int32 × wg_M)} (hF : wg_FP own idx ci i .boolean) (hd : decode cc pc = .ok (.putfield idx, 3)) (hk : wg_t S k = ci + 2) (h : wg_bz v (wg_st σ k i v κ) = some z) (kk : ∀ σ1, κ σ1 = some z → wg_G l E S own cc nL rt R r σ' (pc + 3) L st σ1) : wg_G l E S own cc nL rt R r σ' pc L (.int v :: .ref k :: st) σ := by
  intro p e s m args below meth c H locs ls hx hb hml hr hlk ho hts hK hO hP hS hL
  obtain ⟨C, T, N, ty, ⟨h1, h2, h3, h4, h5⟩, hi, hw, hp, hfin, hdsc⟩ := hF
  obtain ⟨hbz, h⟩ := wg_bz_of h
  have hf := wg_ti hO.2.1 hk hp h5
  refine va_put (D := E.2.1) (cl := vwCl) (tys := wg_ys E) (ws := wg_w E S σ) (C := C) (T := T) (N := N) (ci := ci) (v := .int v) (ty := .boolean) hx hb hts h2 ty h3 h4 ho hK.1 hP (wg_D hO) hS k (wg_w_obj hO hk h5) h1 i hi (hts _ hw) (fun _ h9 => h9) hfin hdsc (wg_nar hbz) (by rcases hbz with rfl | rfl <;> rfl) (by rw [List.length_mapIdx]; exact (List.getElem?_eq_some_iff.mp hf).1) hd (fun H1 locs1 hP1 hD1 hS1 => ?_)
  rw [wg_put_obj hO hk h5 hf] at hP1
  exact kk _ h p e s m args below meth c H1 locs1 ls hx hb hml hr hlk ho hts hK hO hP1 hS1 hL
def wg_ga {α : Type} (n : Nat) (f : Nat → Int32) (j : Int32) (κ : Int32 → Option α) : Option α := if 0 ≤ j.toInt ∧ j.toInt < n then κ (f j.toNatClampNeg) else none
def wg_sa {α : Type} (n : Nat) (σ : wg_M) (a : Nat) (j v : Int32) (κ : wg_M → Option α) : Option α := if 0 ≤ j.toInt ∧ j.toInt < n then κ (wg_u σ a j.toNatClampNeg v) else none
def wg_gr {α : Type} (S : wg_S) (a : Nat) (j : Int32) (κ : Nat → Option α) : Option α := if 0 ≤ j.toInt ∧ j.toInt < wg_n S a then κ (wg_r S a j.toNatClampNeg) else none
theorem wg_if {α : Type} {c : Prop} [Decidable c] {A : Option α} {q : α} (h : (if c then A else none) = some q) : c ∧ A = some q := by
  split at h
  · next g => exact ⟨g, h⟩
  · cases h
theorem wr_iald {a : Nat} {j : Int32} {κ : Int32 → Option (Int32 × wg_M)} (hd : decode cc pc = .ok (.iaload, 1)) (ha : wg_t S a = 0) (h : wg_ga (wg_n S a) (σ a) j κ = some z) (kk : ∀ v, κ v = some z → wg_G l E S own cc nL rt R r σ' (pc + 1) L (.int v :: st) σ) : wg_G l E S own cc nL rt R r σ' pc L (.int j :: .ref a :: st) σ := by
  intro p e s m args below meth c H locs ls hx hb hml hr hlk ho hts hK hO hP hS hL
  obtain ⟨hj, h⟩ := wg_if h
  exact va_iald (D := E.2.1) (cl := vwCl) (tys := wg_ys E) (ws := wg_w E S σ) hx hb hK.1 hP a 0 (wg_w_arr ha) rfl (vp_in_iff.mpr hj) hd (kk _ h p e s m args below meth c H locs ls hx hb hml hr hlk ho hts hK hO hP hS hL)
theorem wr_iast {a : Nat} {j v : Int32} {κ : wg_M → Option (Int32 × wg_M)} (hd : decode cc pc = .ok (.iastore, 1)) (ha : wg_t S a = 0) (h : wg_sa (wg_n S a) σ a j v κ = some z) (kk : ∀ σ1, κ σ1 = some z → wg_G l E S own cc nL rt R r σ' (pc + 1) L st σ1) : wg_G l E S own cc nL rt R r σ' pc L (.int v :: .int j :: .ref a :: st) σ := by
  intro p e s m args below meth c H locs ls hx hb hml hr hlk ho hts hK hO hP hS hL
  obtain ⟨hj, h⟩ := wg_if h
  refine va_iast (D := E.2.1) (cl := vwCl) (tys := wg_ys E) (ws := wg_w E S σ) hx hb hK.1 hP (wg_D hO) hS a 0 (wg_w_arr ha) rfl (vp_in_iff.mpr hj) hd (fun H1 locs1 hP1 hD1 hS1 => ?_)
  have e0 : (wg_w E S σ).set a (E.1 a, .inl (E.2.2.1, wg_n S a, .inl (upd (σ a) j.toNatClampNeg v))) = wg_w E S (wg_u σ a j.toNatClampNeg v) := by
    refine wg_w_set (wg_lt ha (by omega)) ?_ (fun q hq => wg_u_ne hq)
    have e2 : wg_c S a = (0, wg_n S a, wg_f S a) := by rw [← ha]; rfl
    rw [e2, wg_u_eq]
    rfl
  rw [e0] at hP1
  exact kk _ h p e s m args below meth c H1 locs1 ls hx hb hml hr hlk ho hts hK hO hP1 hS1 hL
theorem wr_alen {a : Nat} (v : Int32) (hd : decode cc pc = .ok (.arraylength, 1)) (ha : wg_t S a = 0) (hv : Int32.ofNat (wg_n S a) = v) (kk : wg_G l E S own cc nL rt R r σ' (pc + 1) L (.int v :: st) σ) : wg_G l E S own cc nL rt R r σ' pc L (.ref a :: st) σ := by
  intro p e s m args below meth c H locs ls hx hb hml hr hlk ho hts hK hO hP hS hL
  exact va_alen (D := E.2.1) (cl := vwCl) (tys := wg_ys E) (ws := wg_w E S σ) (ty := .int) hx hb hK.1 hP a 0 (wg_w_arr ha) rfl hv hd (kk p e s m args below meth c H locs ls hx hb hml hr hlk ho hts hK hO hP hS hL)
theorem wr_aald {a : Nat} {j : Int32} {κ : Nat → Option (Int32 × wg_M)} (hS0 : wg_ok S = true) (hd : decode cc pc = .ok (.aaload, 1)) (ha : wg_t S a = 1) (h : wg_gr S a j κ = some z) (kk : ∀ b, wg_t S b = 2 → κ b = some z → wg_G l E S own cc nL rt R r σ' (pc + 1) L (.ref b :: st) σ) : wg_G l E S own cc nL rt R r σ' pc L (.int j :: .ref a :: st) σ := by
  intro p e s m args below meth c H locs ls hx hb hml hr hlk ho hts hK hO hP hS hL
  obtain ⟨hj, h⟩ := wg_if h
  have hin : j.toNatClampNeg < wg_n S a := by
    have : j.toNatClampNeg = j.toInt.toNat := rfl
    omega
  obtain ⟨h1, h2⟩ := wg_ta hS0 ha hin
  refine va_aldq (D := E.2.1) (cl := vwCl) (tys := wg_ys E) (ws := wg_w E S σ) hx hb hK.1 hP a 1 (wg_w_rar ha) rfl (vp_in_iff.mpr hj) hd ?_
  have e0 : ((wg_f S a).getD j.toNatClampNeg none).map E.1 = some (E.1 (wg_r S a j.toNatClampNeg)) := by
    rw [List.getD_eq_getElem?_getD, h1]; rfl
  rw [e0]
  exact kk _ h2 h p e s m args below meth c H locs ls hx hb hml hr hlk ho hts hK hO hP hS hL
def wg_sw {α : Type} (x : Int32) (lo : Int) (cs : List (Option α)) (D : Option α) : Option α := if x.toInt < lo ∨ lo + cs.length ≤ x.toInt then D else cs.getD (x.toInt - lo).toNat D
def wg_all {α : Type} : List Nat → List (Option α) → (Nat → Option α → Prop) → Prop
  | t :: ts, A :: cs, P => P t A ∧ wg_all ts cs P
  | _, _, _ => True
theorem wg_all_at {α : Type} {P : Nat → Option α → Prop} : ∀ {ts : List Nat} {cs : List (Option α)} {i t : Nat} {A : Option α}, wg_all ts cs P → ts[i]? = some t → cs[i]? = some A → P t A
  | [], _, i, _, _, _, h, _ => by simp at h
  | _ :: _, [], i, _, _, _, _, h => by simp at h
  | t :: ts, A :: cs, 0, _, _, h, h1, h2 => by
    simp at h1 h2
    subst h1; subst h2
    exact h.1
  | t :: ts, A :: cs, i + 1, _, _, h, h1, h2 => wg_all_at h.2 (by simpa using h1) (by simpa using h2)
theorem wr_tsw {x : Int32} {dflt lo hi : Int} {offs : Array Int} {len : Nat} {cs : List (Option (Int32 × wg_M))} {D : Option (Int32 × wg_M)} (tg : List Nat) (dt : Nat) (hd : decode cc pc = .ok (.tableswitch dflt lo hi offs, len)) (hh : hi + 1 = lo + cs.length) (hl : tg.length = cs.length) (hof : offs.toList = tg.map (fun (t : Nat) => (t : Int) - (pc : Int))) (hdt : (pc : Int) + dflt = (dt : Int)) (h : wg_sw x lo cs D = some z) (K : wg_all tg cs (fun t A => A = some z → wg_G l E S own cc nL rt R r σ' t L st σ)) (KD : D = some z → wg_G l E S own cc nL rt R r σ' dt L st σ) : wg_G l E S own cc nL rt R r σ' pc L (.int x :: st) σ := by
  intro p e s m args below meth c H locs ls hx hb hml hr hlk ho hts hK hO hP hS hL
  by_cases hc : x.toInt < lo ∨ lo + cs.length ≤ x.toInt
  · rw [wg_sw, if_pos hc] at h
    exact lv_tableOut hx hb hd (by omega) hdt (KD h p e s m args below meth c H locs ls hx hb hml hr hlk ho hts hK hO hP hS hL)
  · rw [wg_sw, if_neg hc] at h
    have hi1 : (x.toInt - lo).toNat < cs.length := by omega
    have hi2 : (x.toInt - lo).toNat < tg.length := by omega
    rw [List.getD_eq_getElem?_getD, List.getElem?_eq_getElem hi1] at h
    have ho1 : offs[(x.toInt - lo).toNat]? = some ((tg[(x.toInt - lo).toNat] : Int) - (pc : Int)) := by
      rw [← Array.getElem?_toList, hof, List.getElem?_map, List.getElem?_eq_getElem hi2]
      rfl
    exact lv_tableIn hx hb hd (by omega) (by omega) ho1 (by omega) (wg_all_at K (List.getElem?_eq_getElem hi2) (List.getElem?_eq_getElem hi1) h p e s m args below meth c H locs ls hx hb hml hr hlk ho hts hK hO hP hS hL)
def wg_ls {α : Type} (x : Int32) : List (Int32 × Option α) → Option α → Option α
  | [], D => D
  | (k, A) :: cs, D => if x = k then A else wg_ls x cs D
end WR

/-! the relation between the class's memory σ and the reference's τ: the bench at b against a row r of 295 ints -/
def wJ (nw : Nat) (σ : wg_M) (b : Nat) (r : Nat → Int32) (τ : wg_M) (j : Nat) : Prop :=
  σ (b + 11) j = r (3 + j) ∧ σ (b + 12) j = τ 5 j ∧ σ (b + 13) j = r (13 + j) - nI 1 ∧ (r (13 + j) = nI 0 ∨ ∃ w, w < nw ∧ r (13 + j) = nI (w + 1)) ∧ σ (b + 14) j = r (23 + j) ∧ (r (23 + j) = nI 0 ∨ r (23 + j) = nI 1) ∧ σ (b + 15) j = r (33 + j)
def wU (σ : wg_M) (b : Nat) (r : Nat → Int32) (w i : Nat) : Prop :=
  σ (b + 7) (w * 8 + i) = r (75 + 24 * w + 3 * i) ∧ σ (b + 8) (w * 8 + i) = r (75 + 24 * w + 3 * i + 1) ∧ σ (b + 9) (w * 8 + i) = r (75 + 24 * w + 3 * i + 2) ∧ (∃ c, c < 8 ∧ r (75 + 24 * w + 3 * i) = nI c) ∧ (-9 ≤ (r (75 + 24 * w + 3 * i + 1)).toInt ∧ (r (75 + 24 * w + 3 * i + 1)).toInt ≤ 9) ∧ ∃ g, 1 ≤ g ∧ g ≤ 99 ∧ r (75 + 24 * w + 3 * i + 2) = nI g
def wW (σ : wg_M) (b : Nat) (r : Nat → Int32) (τ : wg_M) (w : Nat) : Prop :=
  σ (b + 2) w = τ 4 w ∧ σ (b + 3) w = r (43 + w) ∧ σ (b + 4) w = r (51 + w) ∧ σ (b + 5) w = r (59 + w) ∧ σ (b + 6) w = r (67 + w) ∧ ∃ k, k ≤ 8 ∧ r (67 + w) = nI k ∧ ∀ i, i < k → wU σ b r w i
def wV (x y : Int32) : Prop := (y = nI 0 ∧ x = -nI 10000) ∨ ∃ n, 1 ≤ n ∧ n ≤ 1999 ∧ y = nI n ∧ x = nI n - nI 1000
def wC (σ : wg_M) (b : Nat) (r : Nat → Int32) (τ : wg_M) (c : Nat) : Prop :=
  σ (b + 16) c = τ 6 c ∧ σ (b + 17) c = τ 7 c ∧ wV (σ (b + 18) c) (r (267 + c)) ∧ σ (b + 19) c = r (281 + c) - nI 1 ∧ ∃ g, g < 8 ∧ τ 6 c = nI g
def wI (nj : Nat) (r : Nat → Int32) : Prop := ∀ j k, j < nj → k < nj → r (13 + j) = r (13 + k) → r (13 + j) = nI 0 ∨ j = k
def wB (nw nj nc : Nat) (σ : wg_M) (b : Nat) (r : Nat → Int32) (τ : wg_M) : Prop :=
  (σ (b + 1) 8 = nI nw ∧ σ (b + 10) 5 = nI nj ∧ σ b 6 = nI nc ∧ σ b 7 = r 0 ∧ σ b 8 = r 1 ∧ σ b 9 = r 2 ∧ ∃ l, l ≤ 150 ∧ r 2 = nI l) ∧ (∀ j, j < nj → wJ nw σ b r τ j) ∧ (∀ w, w < nw → wW σ b r τ w) ∧ (∀ c, c < nc → wC σ b r τ c) ∧ wI nj r
def wN (nw nj nc : Nat) (τ : wg_M) : Prop := nw ≤ 8 ∧ nj ≤ 10 ∧ nc ≤ 14 ∧ τ 0 6 = nI nw ∧ τ 0 7 = nI nj ∧ τ 0 8 = nI nc
def wY (r : Nat → Int32) : Prop := ∃ y, y ≤ 9999 ∧ r 0 = nI y
def wPg (σ : wg_M) (b : Nat) (τ : wg_M) : Prop := ∀ i, i < 150 → σ (b + 22) i = τ 8 (4 * i) ∧ σ (b + 23) i = τ 8 (4 * i + 1) ∧ σ (b + 24) i = τ 8 (4 * i + 2) ∧ σ (b + 25) i = τ 8 (4 * i + 3)
def wDk (nj nc : Nat) (σ : wg_M) (b : Nat) (τ : wg_M) : Prop := ∃ n, n ≤ 16 ∧ σ (b + 34) 4 = nI n ∧ τ 0 37 = nI n ∧ ∀ i, i < n → σ (b + 35) i = τ 19 (3 * i) ∧ σ (b + 37) i = τ 19 (3 * i + 1) ∧ σ (b + 38) i = τ 19 (3 * i + 2) ∧ (∃ c, c < nc ∧ τ 19 (3 * i + 1) = nI c) ∧ ∃ j, j < nj ∧ τ 19 (3 * i + 2) = nI j
def wLn (nw nj : Nat) (σ : wg_M) (b : Nat) (τ : wg_M) : Prop := ∃ n, n ≤ 16 ∧ σ (b + 39) 4 = nI n ∧ τ 0 39 = nI n ∧ ∀ i, i < n → σ (b + 40) i = τ 20 (4 * i) ∧ σ (b + 41) i = τ 20 (4 * i + 1) ∧ σ (b + 42) i = τ 20 (4 * i + 2) ∧ σ (b + 43) i = τ 20 (4 * i + 3) ∧ (∃ w, w < nw ∧ τ 20 (4 * i + 2) = nI w) ∧ ((τ 20 (4 * i + 1) = nI 0 ∧ ∃ j, j < nj ∧ τ 20 (4 * i + 3) = nI j) ∨ τ 20 (4 * i + 1) = nI 1 ∨ (τ 20 (4 * i + 1) = nI 2 ∧ ∃ c, c < 8 ∧ τ 20 (4 * i + 3) = nI c) ∨ (τ 20 (4 * i + 1) = nI 3 ∧ ∃ g, 1 ≤ g ∧ g ≤ 99 ∧ τ 20 (4 * i + 3) = nI g))
def wKn (σ : wg_M) (b : Nat) (τ : wg_M) : Prop := ∃ n, n ≤ 16 ∧ σ (b + 44) 4 = nI n ∧ τ 0 41 = nI n ∧ (∀ i, i < n → (∃ a, a < 8 ∧ σ (b + 47) i = nI a) ∧ ∃ a, a < 8 ∧ σ (b + 48) i = nI a) ∧ ∀ w, w < 8 → (∃ i, i < n ∧ σ (b + 47) i = nI w ∧ (∀ k, k < i → σ (b + 47) k ≠ nI w) ∧ τ 21 w = σ (b + 48) i + nI 1) ∨ ((∀ i, i < n → σ (b + 47) i ≠ nI w) ∧ τ 21 w = nI 0)
def wTr (σ : wg_M) (b : Nat) (τ : wg_M) : Prop := ∃ n, n ≤ 8 ∧ σ (b + 49) 3 = nI n ∧ τ 0 45 = nI n ∧ ∀ i, i < n → σ (b + 50) i = τ 24 i ∧ σ (b + 51) i = τ 25 i ∧ σ (b + 52) i = τ 26 i ∧ (∃ k, k < 4 ∧ τ 24 i = nI k) ∧ (τ 26 i = nI 0 ∨ τ 26 i = nI 1)
def wCt (σ : wg_M) (b : Nat) (τ : wg_M) : Prop := ∃ n, n ≤ 16 ∧ σ (b + 49) 6 = nI n ∧ τ 0 49 = nI n ∧ (∀ i, i < n → (∃ a, a < 14 ∧ σ (b + 53) i = nI a) ∧ ∃ a, a < 14 ∧ σ (b + 54) i = nI a) ∧ ∀ a, a < 14 → ∃ m, m < 16384 ∧ τ 27 a = nI m ∧ ∀ c, c < 14 → (m.testBit c = true ↔ ∃ i, i < n ∧ σ (b + 53) i = nI a ∧ σ (b + 54) i = nI c)
def wPa (σ : wg_M) (b : Nat) (τ : wg_M) : Prop := ∀ i, i < 20 → σ (b + 55) i = τ 29 i ∧ ∃ v, v ≤ 99 ∧ τ 29 i = nI v
def wHd (σ : wg_M) (b : Nat) (τ : wg_M) : Prop := ∃ n, n ≤ 7 ∧ σ (b + 49) 10 = nI n ∧ τ 0 53 = nI n ∧ ∀ i, i < n → σ (b + 56) i = τ 30 i ∧ σ (b + 57) i = τ 31 i ∧ (∃ h, 1 ≤ h ∧ h ≤ 24 ∧ τ 30 i = nI h) ∧ ∃ d, d ≤ 99 ∧ τ 31 i = nI d
/-! THE LAW's code: rows (kind, number): 0 a number, 1 a fact, 2 + 3 - 4 * 5 / (by a number) 6 < 7 = 8 > 9 not 10 and 11 or -/
def wo_s : Nat → Nat
  | 0 => 2 | 1 => 3 | 2 => 43 | 3 => 45 | 4 => 42 | 5 => 47 | 6 => 60 | 7 => 61 | 8 => 62 | 9 => 272 | 10 => 271 | _ => 270
def wo_C (sg vl : Nat → Int32) : Nat → List (Nat × Int32) → Prop
  | _, [] => True
  | p, (k, v) :: cs => sg p = nI (wo_s k) ∧ vl p = v ∧ wo_C sg vl (p + 1) cs
def wo_M (op ar : Nat → Int32) : Nat → List (Nat × Int32) → Prop
  | _, [] => True
  | p, (k, v) :: cs => (k = 5 ∧ op p = nI 0 ∧ ar p = v ∧ op (p + 1) = nI 5 ∧ wo_M op ar (p + 2) cs) ∨ (k ≠ 5 ∧ k ≤ 11 ∧ op p = nI k ∧ (k ≤ 1 → ar p = v) ∧ wo_M op ar (p + 1) cs)
def wo_l : List (Nat × Int32) → Nat
  | [] => 0
  | (k, _) :: cs => (if k = 5 then 2 else 1) + wo_l cs
/-- kinds of what stands on the stack: true a truth; none where the code can't run -/
def wo_t : List (Nat × Int32) → List Bool → Option (List Bool)
  | [], st => some st
  | (0, _) :: cs, st => if st.length < 30 then wo_t cs (false :: st) else none
  | (1, v) :: cs, st => if st.length < 30 ∧ 0 ≤ v.toInt ∧ v.toInt < 10 then wo_t cs (false :: st) else none
  | (5, v) :: cs, _ :: st => if 1 ≤ v.toInt then wo_t cs (false :: st) else none
  | (9, _) :: cs, true :: st => wo_t cs (true :: st)
  | (k, _) :: cs, b :: a :: st => if k ≤ 4 then wo_t cs (false :: st) else if k ≤ 8 then wo_t cs (true :: st) else if a && b && (k == 10 || k == 11) then wo_t cs (true :: st) else none
  | _, _ => none
def wLl (σ : wg_M) (b : Nat) (τ : wg_M) (cf l : Nat) (c1 c2 : List (Nat × Int32)) : Prop :=
  (∃ k, k < 3 ∧ σ (b + 29) l = nI (266 + k) ∧ τ 12 l = nI k) ∧ σ (b + 30) l = nI (cf + c1.length) ∧ σ (b + 31) l = nI (cf + c1.length + c2.length) ∧ cf + c1.length + c2.length ≤ 400 ∧ (∃ mf, τ 13 l = nI mf ∧ τ 14 l = nI (mf + wo_l c1) ∧ τ 15 l = nI (mf + wo_l c1 + wo_l c2) ∧ mf + wo_l c1 + wo_l c2 ≤ 400 ∧ wo_M (τ 16) (τ 17) mf c1 ∧ wo_M (τ 16) (τ 17) (mf + wo_l c1) c2) ∧ wo_C (σ (b + 27)) (σ (b + 28)) cf c1 ∧ wo_C (σ (b + 27)) (σ (b + 28)) (cf + c1.length) c2 ∧ wo_t c1 [] = some [false] ∧ (c2 = [] ∨ wo_t c2 [] = some [true])
def wLw (σ : wg_M) (b : Nat) (τ : wg_M) : Prop := ∃ n, n ≤ 16 ∧ σ (b + 26) 6 = nI n ∧ τ 11 0 = nI n ∧ ∃ (ct : Nat → Nat) (c1 c2 : Nat → List (Nat × Int32)), ∀ l, l < n → wLl σ b τ (if l = 0 then 0 else ct (l - 1)) l (c1 l) (c2 l) ∧ ct l = (if l = 0 then 0 else ct (l - 1)) + (c1 l).length + (c2 l).length
def wRt (nw nj nc : Nat) (σ : wg_M) (b : Nat) (τ : wg_M) : Prop := wLw σ b τ ∧ wDk nj nc σ b τ ∧ wLn nw nj σ b τ ∧ wKn σ b τ ∧ wTr σ b τ ∧ wCt σ b τ ∧ wPa σ b τ ∧ wHd σ b τ
def wRW (nw nj nc : Nat) (σ : wg_M) (b : Nat) (τ : wg_M) : Prop := wN nw nj nc τ ∧ wB nw nj nc σ (b + 1) (τ 1) τ ∧ wY (τ 1) ∧ wPg σ b τ ∧ wRt nw nj nc σ b τ
def wP (nw nj nc : Nat) (σ τ : wg_M) : Prop := ∃ n nx, n ≤ 6 ∧ nx < 6 ∧ σ 258 2 = nI n ∧ σ 258 1 = nI nx ∧ τ 0 3 = nI n ∧ ∀ k, k < n → wB nw nj nc σ (138 + 20 * ((nx + 6 - n + k) % 6)) (fun i => τ 2 (295 * k + i)) τ ∧ wY (fun i => τ 2 (295 * k + i))
/-- the reference's memory as its image has it -/
def wv (τ : wg_M) : wg_M := fun a i => match a with
  | 0 => if i = 6 then τ 33 295 else if i = 7 then τ 33 296 else if i = 8 then τ 33 297 else if i = 37 then τ 33 298 else if i = 39 then τ 33 299 else if i = 41 then τ 33 300 else if i = 45 then τ 33 301 else if i = 49 then τ 33 302 else τ 33 303
  | 1 => τ 33 i
  | 4 => τ 33 (304 + 5 * i) | 21 => τ 33 (305 + 5 * i) | 24 => τ 33 (306 + 5 * i) | 25 => τ 33 (307 + 5 * i) | 26 => τ 33 (308 + 5 * i)
  | 5 => τ 33 (344 + i)
  | 6 => τ 33 (354 + 3 * i) | 7 => τ 33 (355 + 3 * i) | 27 => τ 33 (356 + 3 * i)
  | 29 => τ 33 (396 + i)
  | 30 => τ 33 (416 + 2 * i) | 31 => τ 33 (417 + 2 * i)
  | 19 => τ 33 (430 + i) | 20 => τ 33 (478 + i) | 8 => τ 33 (542 + i)
  | 11 => τ 33 1142
  | 12 => τ 33 (1143 + 4 * i) | 13 => τ 33 (1144 + 4 * i) | 14 => τ 33 (1145 + 4 * i) | 15 => τ 33 (1146 + 4 * i)
  | 16 => τ 33 (1207 + 2 * i) | 17 => τ 33 (1208 + 2 * i)
  | _ => 0
def wIm (σ τ : wg_M) : Prop := (σ 281 6 = nI 0 ∧ τ 0 58 = nI 0) ∨ (σ 281 6 = nI 1 ∧ τ 0 58 = nI 1 ∧ ∃ nw nj nc, wRW nw nj nc σ 59 (wv τ))
def wRd (σ τ : wg_M) : Prop := (∃ n, n ≤ 400 ∧ σ 260 2 = nI n ∧ τ 0 15 = nI n ∧ ∀ i, i < n → σ 261 i = τ 9 i ∧ ∃ c, c < 256 ∧ τ 9 i = nI c) ∧ σ 260 8 = τ 0 35 ∧ σ 260 9 = τ 0 36 ∧ ∀ i, i < 129 → τ 10 i = wz_m0 10 i
def wFl (σ τ : wg_M) : Prop := σ 279 6 = nI 0 ∧ τ 0 5 = nI 0
def wR (σ τ : wg_M) : Prop := ∃ nw nj nc, wRW nw nj nc σ 0 τ ∧ wP nw nj nc σ τ ∧ wIm σ τ ∧ wRd σ τ ∧ wFl σ τ
/-! what the relation doesn't look at -/
theorem wB_fr {nw nj nc : Nat} {σ σ' : wg_M} {b : Nat} {r r' : Nat → Int32} {τ τ' : wg_M} (hn : nw ≤ 8 ∧ nj ≤ 10 ∧ nc ≤ 14) (hσ : ∀ a, b ≤ a → a < b + 20 → σ' a = σ a) (hr : ∀ i, i < 295 → r' i = r i) (h4 : ∀ i, i < 8 → τ' 4 i = τ 4 i) (h5 : ∀ i, i < 10 → τ' 5 i = τ 5 i) (h6 : ∀ i, i < 14 → τ' 6 i = τ 6 i) (h7 : ∀ i, i < 14 → τ' 7 i = τ 7 i) (h : wB nw nj nc σ b r τ) : wB nw nj nc σ' b r' τ' := by
  obtain ⟨n1, n2, n3⟩ := hn
  obtain ⟨a1, a2, a3, a4, a5⟩ := h
  refine ⟨?_, fun j hj => ?_, fun w hw => ?_, fun c hc => ?_, ?_⟩
  · simp (disch := omega) only [hσ, hr]; exact a1
  · have := a2 j hj
    unfold wJ at this ⊢
    simp (disch := omega) only [hσ, hr, h5]; exact this
  · obtain ⟨c1, c2, c3, c4, c5, k, c6, c7, c8⟩ := a3 w hw
    unfold wW
    simp (disch := omega) only [hσ, hr, h4]
    refine ⟨c1, c2, c3, c4, c5, k, c6, c7, fun i hi => ?_⟩
    have := c8 i hi
    unfold wU at this ⊢
    simp (disch := omega) only [hσ, hr]; exact this
  · have := a4 c hc
    unfold wC at this ⊢
    simp (disch := omega) only [hσ, hr, h6, h7]; exact this
  · intro j k hj hk
    simp (disch := omega) only [hr]
    exact a5 j k hj hk
/-- places of the reference's memory that a world is told by -/
def wLv (a i : Nat) : Bool := match a with
  | 0 => i == 6 || i == 7 || i == 8 || i == 37 || i == 39 || i == 41 || i == 45 || i == 49 || i == 53
  | 1 => decide (i < 295)
  | 4 => decide (i < 8) | 5 => decide (i < 10) | 6 => decide (i < 14) | 7 => decide (i < 14) | 8 => decide (i < 600)
  | 11 => i == 0
  | 12 => decide (i < 16) | 13 => decide (i < 16) | 14 => decide (i < 16) | 15 => decide (i < 16)
  | 16 => decide (i < 400) | 17 => decide (i < 400)
  | 19 => decide (i < 48) | 20 => decide (i < 64) | 21 => decide (i < 8)
  | 24 => decide (i < 8) | 25 => decide (i < 8) | 26 => decide (i < 8)
  | 27 => decide (i < 14) | 29 => decide (i < 20) | 30 => decide (i < 7) | 31 => decide (i < 7)
  | _ => false
theorem wo_C_fr {sg sg' vl vl' : Nat → Int32} : ∀ (cs : List (Nat × Int32)) (p : Nat), (∀ i, p ≤ i → i < p + cs.length → sg' i = sg i ∧ vl' i = vl i) → wo_C sg vl p cs → wo_C sg' vl' p cs
  | [], _, _, _ => trivial
  | (k, v) :: cs, p, h, ⟨h1, h2, h3⟩ => by
    have h0 := h p (Nat.le_refl p) (by simp)
    refine ⟨by rw [h0.1]; exact h1, by rw [h0.2]; exact h2, wo_C_fr cs (p + 1) (fun i hi hi2 => h i (by omega) (by simp only [List.length_cons]; omega)) h3⟩
theorem wo_M_fr {op op' ar ar' : Nat → Int32} : ∀ (cs : List (Nat × Int32)) (p : Nat), (∀ i, p ≤ i → i < p + wo_l cs → op' i = op i ∧ ar' i = ar i) → wo_M op ar p cs → wo_M op' ar' p cs
  | [], _, _, _ => trivial
  | (k, v) :: cs, p, h, hm => by
    rcases hm with ⟨rfl, h1, h2, h3, h4⟩ | ⟨h0, h5, h1, h2, h3⟩
    · have q0 := h p (Nat.le_refl p) (by simp [wo_l]; omega)
      have q1 := h (p + 1) (by omega) (by simp [wo_l]; omega)
      exact Or.inl ⟨rfl, by rw [q0.1]; exact h1, by rw [q0.2]; exact h2, by rw [q1.1]; exact h3, wo_M_fr cs (p + 2) (fun i hi hi2 => h i (by omega) (by simp only [wo_l, if_true]; omega)) h4⟩
    · have q0 := h p (Nat.le_refl p) (by simp only [wo_l, if_neg h0]; omega)
      exact Or.inr ⟨h0, h5, by rw [q0.1]; exact h1, fun hk => by rw [q0.2]; exact h2 hk, wo_M_fr cs (p + 1) (fun i hi hi2 => h i (by omega) (by simp only [wo_l, if_neg h0]; omega)) h3⟩
theorem wLl_fr {σ σ' : wg_M} {b : Nat} {τ τ' : wg_M} {cf l : Nat} {c1 c2 : List (Nat × Int32)} (hl : l < 16) (hσ : ∀ a, b + 27 ≤ a → a < b + 32 → σ' a = σ a) (hτ : ∀ a i, wLv a i = true → 11 ≤ a ∧ a < 18 → τ' a i = τ a i) (h : wLl σ b τ cf l c1 c2) : wLl σ' b τ' cf l c1 c2 := by
  obtain ⟨h1, h2, h3, h4, ⟨mf, m1, m2, m3, m4, m5, m6⟩, h6, h7, h8, h9⟩ := h
  have e12 := hτ 12 l (by simp [wLv]; omega) (by omega)
  have e13 := hτ 13 l (by simp [wLv]; omega) (by omega)
  have e14 := hτ 14 l (by simp [wLv]; omega) (by omega)
  have e15 := hτ 15 l (by simp [wLv]; omega) (by omega)
  unfold wLl
  simp (disch := omega) only [hσ, e12, e13, e14, e15]
  refine ⟨h1, h2, h3, h4, ⟨mf, m1, m2, m3, m4, ?_, ?_⟩, h6, h7, h8, h9⟩
  · exact wo_M_fr c1 mf (fun i _ hi => ⟨hτ 16 i (by simp [wLv]; omega) (by omega), hτ 17 i (by simp [wLv]; omega) (by omega)⟩) m5
  · exact wo_M_fr c2 _ (fun i _ hi => ⟨hτ 16 i (by simp [wLv]; omega) (by omega), hτ 17 i (by simp [wLv]; omega) (by omega)⟩) m6
theorem wLw_fr {σ σ' : wg_M} {b : Nat} {τ τ' : wg_M} (hσ : ∀ a, b + 26 ≤ a → a < b + 32 → σ' a = σ a) (hτ : ∀ a i, wLv a i = true → 11 ≤ a ∧ a < 18 → τ' a i = τ a i) (h : wLw σ b τ) : wLw σ' b τ' := by
  obtain ⟨n, h1, h2, h3, ct, c1, c2, h4⟩ := h
  refine ⟨n, h1, ?_, ?_, ct, c1, c2, fun l hl => ⟨wLl_fr (by omega) (fun a q1 q2 => hσ a (by omega) q2) hτ (h4 l hl).1, (h4 l hl).2⟩⟩
  · rw [hσ _ (by omega) (by omega)]; exact h2
  · rw [hτ 11 0 rfl (by omega)]; exact h3
theorem wN_fr {nw nj nc : Nat} {τ τ' : wg_M} (h6 : τ' 0 6 = τ 0 6) (h7 : τ' 0 7 = τ 0 7) (h8 : τ' 0 8 = τ 0 8) (h : wN nw nj nc τ) : wN nw nj nc τ' := by
  obtain ⟨n1, n2, n3, n4, n5, n6⟩ := h
  exact ⟨n1, n2, n3, h6.trans n4, h7.trans n5, h8.trans n6⟩
theorem wY_fr {r r' : Nat → Int32} (h0 : r' 0 = r 0) (h : wY r) : wY r' := by
  obtain ⟨y, y1, y2⟩ := h
  exact ⟨y, y1, h0.trans y2⟩
theorem wPg_fr {σ σ' : wg_M} {b : Nat} {τ τ' : wg_M} (hσ : ∀ a, b + 22 ≤ a → a < b + 26 → σ' a = σ a) (hτ : ∀ i, i < 600 → τ' 8 i = τ 8 i) (h : wPg σ b τ) : wPg σ' b τ' := by
  intro i hi
  simp (disch := omega) only [hσ, hτ]
  exact h i hi
theorem wDk_fr {nj nc : Nat} {σ σ' : wg_M} {b : Nat} {τ τ' : wg_M} (hσ : ∀ a, b + 34 ≤ a → a < b + 39 → σ' a = σ a) (h0 : τ' 0 37 = τ 0 37) (hτ : ∀ i, i < 48 → τ' 19 i = τ 19 i) (h : wDk nj nc σ b τ) : wDk nj nc σ' b τ' := by
  obtain ⟨n, a1, a2, a3, a4⟩ := h
  refine ⟨n, a1, ?_, h0.trans a3, fun i hi => ?_⟩
  · simp (disch := omega) only [hσ]; exact a2
  · simp (disch := omega) only [hσ, hτ]
    exact a4 i hi
theorem wLn_fr {nw nj : Nat} {σ σ' : wg_M} {b : Nat} {τ τ' : wg_M} (hσ : ∀ a, b + 39 ≤ a → a < b + 44 → σ' a = σ a) (h0 : τ' 0 39 = τ 0 39) (hτ : ∀ i, i < 64 → τ' 20 i = τ 20 i) (h : wLn nw nj σ b τ) : wLn nw nj σ' b τ' := by
  obtain ⟨n, a1, a2, a3, a4⟩ := h
  refine ⟨n, a1, ?_, h0.trans a3, fun i hi => ?_⟩
  · simp (disch := omega) only [hσ]; exact a2
  · simp (disch := omega) only [hσ, hτ]
    exact a4 i hi
theorem wKn_fr {σ σ' : wg_M} {b : Nat} {τ τ' : wg_M} (hσ : ∀ a, b + 44 ≤ a → a < b + 49 → σ' a = σ a) (h0 : τ' 0 41 = τ 0 41) (hτ : ∀ i, i < 8 → τ' 21 i = τ 21 i) (h : wKn σ b τ) : wKn σ' b τ' := by
  obtain ⟨n, a1, a2, a3, a4, a5⟩ := h
  refine ⟨n, a1, ?_, h0.trans a3, fun i hi => ?_, fun w hw => ?_⟩
  · simp (disch := omega) only [hσ]; exact a2
  · simp (disch := omega) only [hσ]; exact a4 i hi
  · simp (disch := omega) only [hσ, hτ]; exact a5 w hw
theorem wTr_fr {σ σ' : wg_M} {b : Nat} {τ τ' : wg_M} (h3 : σ' (b + 49) 3 = σ (b + 49) 3) (hσ : ∀ a, b + 50 ≤ a → a < b + 53 → σ' a = σ a) (h0 : τ' 0 45 = τ 0 45) (hτ : ∀ a i, 24 ≤ a → a < 27 → i < 8 → τ' a i = τ a i) (h : wTr σ b τ) : wTr σ' b τ' := by
  obtain ⟨n, a1, a2, a3, a4⟩ := h
  refine ⟨n, a1, h3.trans a2, h0.trans a3, fun i hi => ?_⟩
  simp (disch := omega) only [hσ, hτ]
  exact a4 i hi
theorem wCt_fr {σ σ' : wg_M} {b : Nat} {τ τ' : wg_M} (h3 : σ' (b + 49) 6 = σ (b + 49) 6) (hσ : ∀ a, b + 53 ≤ a → a < b + 55 → σ' a = σ a) (h0 : τ' 0 49 = τ 0 49) (hτ : ∀ i, i < 14 → τ' 27 i = τ 27 i) (h : wCt σ b τ) : wCt σ' b τ' := by
  obtain ⟨n, a1, a2, a3, a4, a5⟩ := h
  refine ⟨n, a1, h3.trans a2, h0.trans a3, fun i hi => ?_, fun a ha => ?_⟩
  · simp (disch := omega) only [hσ]; exact a4 i hi
  · simp (disch := omega) only [hσ, hτ]; exact a5 a ha
theorem wPa_fr {σ σ' : wg_M} {b : Nat} {τ τ' : wg_M} (hσ : σ' (b + 55) = σ (b + 55)) (hτ : ∀ i, i < 20 → τ' 29 i = τ 29 i) (h : wPa σ b τ) : wPa σ' b τ' := by
  intro i hi
  rw [hσ, hτ i hi]
  exact h i hi
theorem wHd_fr {σ σ' : wg_M} {b : Nat} {τ τ' : wg_M} (h3 : σ' (b + 49) 10 = σ (b + 49) 10) (hσ : ∀ a, b + 56 ≤ a → a < b + 58 → σ' a = σ a) (h0 : τ' 0 53 = τ 0 53) (hτ : ∀ a i, 30 ≤ a → a < 32 → i < 7 → τ' a i = τ a i) (h : wHd σ b τ) : wHd σ' b τ' := by
  obtain ⟨n, a1, a2, a3, a4⟩ := h
  refine ⟨n, a1, h3.trans a2, h0.trans a3, fun i hi => ?_⟩
  simp (disch := omega) only [hσ, hτ]
  exact a4 i hi
theorem wRt_fr {nw nj nc : Nat} {σ σ' : wg_M} {b : Nat} {τ τ' : wg_M} (hσ : ∀ a, b + 26 ≤ a → a < b + 58 → a ≠ b + 32 → a ≠ b + 33 → σ' a = σ a) (hτ : ∀ a i, wLv a i = true → a ≠ 1 → a ≠ 8 → a ≠ 4 → a ≠ 5 → a ≠ 6 → a ≠ 7 → (a = 0 → 9 ≤ i) → τ' a i = τ a i) (h : wRt nw nj nc σ b τ) : wRt nw nj nc σ' b τ' := by
  obtain ⟨h5, h6, h7, h8, h9, h10, h11, h12⟩ := h
  refine ⟨?_, ?_, ?_, ?_, ?_, ?_, ?_, ?_⟩
  · exact wLw_fr (fun a q1 q2 => hσ a (by omega) (by omega) (by omega) (by omega)) (fun a i q q2 => hτ a i q (by omega) (by omega) (by omega) (by omega) (by omega) (by omega) (by omega)) h5
  · exact wDk_fr (fun a q1 q2 => hσ a (by omega) (by omega) (by omega) (by omega)) (hτ 0 37 rfl (by omega) (by omega) (by omega) (by omega) (by omega) (by omega) (by omega)) (fun i hi => hτ 19 i (by simp [wLv]; omega) (by omega) (by omega) (by omega) (by omega) (by omega) (by omega) (by omega)) h6
  · exact wLn_fr (fun a q1 q2 => hσ a (by omega) (by omega) (by omega) (by omega)) (hτ 0 39 rfl (by omega) (by omega) (by omega) (by omega) (by omega) (by omega) (by omega)) (fun i hi => hτ 20 i (by simp [wLv]; omega) (by omega) (by omega) (by omega) (by omega) (by omega) (by omega) (by omega)) h7
  · exact wKn_fr (fun a q1 q2 => hσ a (by omega) (by omega) (by omega) (by omega)) (hτ 0 41 rfl (by omega) (by omega) (by omega) (by omega) (by omega) (by omega) (by omega)) (fun i hi => hτ 21 i (by simp [wLv]; omega) (by omega) (by omega) (by omega) (by omega) (by omega) (by omega) (by omega)) h8
  · exact wTr_fr (by rw [hσ (b + 49) (by omega) (by omega) (by omega) (by omega)]) (fun a q1 q2 => hσ a (by omega) (by omega) (by omega) (by omega)) (hτ 0 45 rfl (by omega) (by omega) (by omega) (by omega) (by omega) (by omega) (by omega)) (fun a i q1 q2 hi => hτ a i (by rcases (show a = 24 ∨ a = 25 ∨ a = 26 by omega) with rfl | rfl | rfl <;> (simp [wLv]; omega)) (by omega) (by omega) (by omega) (by omega) (by omega) (by omega) (by omega)) h9
  · exact wCt_fr (by rw [hσ (b + 49) (by omega) (by omega) (by omega) (by omega)]) (fun a q1 q2 => hσ a (by omega) (by omega) (by omega) (by omega)) (hτ 0 49 rfl (by omega) (by omega) (by omega) (by omega) (by omega) (by omega) (by omega)) (fun i hi => hτ 27 i (by simp [wLv]; omega) (by omega) (by omega) (by omega) (by omega) (by omega) (by omega) (by omega)) h10
  · exact wPa_fr (hσ _ (by omega) (by omega) (by omega) (by omega)) (fun i hi => hτ 29 i (by simp [wLv]; omega) (by omega) (by omega) (by omega) (by omega) (by omega) (by omega) (by omega)) h11
  · exact wHd_fr (by rw [hσ (b + 49) (by omega) (by omega) (by omega) (by omega)]) (fun a q1 q2 => hσ a (by omega) (by omega) (by omega) (by omega)) (hτ 0 53 rfl (by omega) (by omega) (by omega) (by omega) (by omega) (by omega) (by omega)) (fun a i q1 q2 hi => hτ a i (by rcases (show a = 30 ∨ a = 31 by omega) with rfl | rfl <;> (simp [wLv]; omega)) (by omega) (by omega) (by omega) (by omega) (by omega) (by omega) (by omega)) h12
theorem wRW_fr {nw nj nc : Nat} {σ σ' : wg_M} {b : Nat} {τ τ' : wg_M} (hσ : ∀ a, b + 1 ≤ a → a < b + 58 → a ≠ b + 21 → a ≠ b + 32 → a ≠ b + 33 → σ' a = σ a) (hτ : ∀ a i, wLv a i = true → τ' a i = τ a i) (h : wRW nw nj nc σ b τ) : wRW nw nj nc σ' b τ' := by
  obtain ⟨h1, h2, h3, h4, h5⟩ := h
  refine ⟨wN_fr (hτ 0 6 rfl) (hτ 0 7 rfl) (hτ 0 8 rfl) h1, ?_, wY_fr (hτ 1 0 rfl) h3, wPg_fr (fun a q1 q2 => hσ a (by omega) (by omega) (by omega) (by omega) (by omega)) (fun i hi => hτ 8 i (by simp [wLv]; omega)) h4, wRt_fr (fun a q1 q2 q3 q4 => hσ a (by omega) (by omega) (by omega) (by omega) (by omega)) (fun a i q _ _ _ _ _ _ _ => hτ a i q) h5⟩
  exact wB_fr ⟨h1.1, h1.2.1, h1.2.2.1⟩ (fun a q1 q2 => hσ a (by omega) (by omega) (by omega) (by omega) (by omega)) (fun i hi => hτ 1 i (by simp [wLv]; omega)) (fun i hi => hτ 4 i (by simp [wLv]; omega)) (fun i hi => hτ 5 i (by simp [wLv]; omega)) (fun i hi => hτ 6 i (by simp [wLv]; omega)) (fun i hi => hτ 7 i (by simp [wLv]; omega)) h2
theorem wP_fr {nw nj nc : Nat} {σ σ' τ τ' : wg_M} (hn : nw ≤ 8 ∧ nj ≤ 10 ∧ nc ≤ 14) (h1 : σ' 258 1 = σ 258 1) (h2 : σ' 258 2 = σ 258 2) (hσ : ∀ a, 138 ≤ a → a < 258 → σ' a = σ a) (h3 : τ' 0 3 = τ 0 3) (hr : ∀ i, i < 1770 → τ' 2 i = τ 2 i) (h4 : ∀ i, i < 8 → τ' 4 i = τ 4 i) (h5 : ∀ i, i < 10 → τ' 5 i = τ 5 i) (h6 : ∀ i, i < 14 → τ' 6 i = τ 6 i) (h7 : ∀ i, i < 14 → τ' 7 i = τ 7 i) (h : wP nw nj nc σ τ) : wP nw nj nc σ' τ' := by
  obtain ⟨n, nx, a1, a2, a3, a4, a5, a6⟩ := h
  refine ⟨n, nx, a1, a2, h2.trans a3, h1.trans a4, h3.trans a5, fun k hk => ⟨?_, wY_fr (hr _ (by omega)) (a6 k hk).2⟩⟩
  have : (nx + 6 - n + k) % 6 < 6 := Nat.mod_lt _ (by omega)
  exact wB_fr hn (fun a q1 q2 => hσ a (by omega) (by omega)) (fun i hi => hr _ (by omega)) h4 h5 h6 h7 (a6 k hk).1
theorem wP_0 {nw nj nc : Nat} {σ τ : wg_M} {nx : Nat} (hx : nx < 6) (h1 : σ 258 1 = nI nx) (h2 : σ 258 2 = nI 0) (h3 : τ 0 3 = nI 0) : wP nw nj nc σ τ :=
  ⟨0, nx, by omega, hx, h2, h1, h3, fun k hk => by omega⟩
theorem wv_fr {τ τ' : wg_M} (h : τ' 33 = τ 33) : wv τ' = wv τ := by
  funext a i
  simp only [wv, h]
theorem wIm_fr {σ σ' τ τ' : wg_M} (h1 : σ' 281 6 = σ 281 6) (hσ : ∀ a, 60 ≤ a → a < 117 → a ≠ 80 → a ≠ 91 → a ≠ 92 → σ' a = σ a) (h2 : τ' 0 58 = τ 0 58) (h3 : τ' 33 = τ 33) (h : wIm σ τ) : wIm σ' τ' := by
  rcases h with ⟨a1, a2⟩ | ⟨a1, a2, nw, nj, nc, a3⟩
  · exact Or.inl ⟨h1.trans a1, h2.trans a2⟩
  · refine Or.inr ⟨h1.trans a1, h2.trans a2, nw, nj, nc, ?_⟩
    rw [wv_fr h3]
    exact wRW_fr (fun a q1 q2 q3 q4 q5 => hσ a (by omega) (by omega) (by omega) (by omega) (by omega)) (fun _ _ _ => rfl) a3
theorem wRd_fr {σ σ' τ τ' : wg_M} (h1 : σ' 260 2 = σ 260 2) (h2 : σ' 260 8 = σ 260 8) (h3 : σ' 260 9 = σ 260 9) (h4 : σ' 261 = σ 261) (h5 : τ' 0 15 = τ 0 15) (h6 : τ' 0 35 = τ 0 35) (h7 : τ' 0 36 = τ 0 36) (h8 : τ' 9 = τ 9) (h9 : τ' 10 = τ 10) (h : wRd σ τ) : wRd σ' τ' := by
  unfold wRd
  rw [h1, h2, h3, h4, h5, h6, h7, h8, h9]
  exact h
theorem wFl_fr {σ σ' τ τ' : wg_M} (h1 : σ' 279 6 = σ 279 6) (h2 : τ' 0 5 = τ 0 5) (h : wFl σ τ) : wFl σ' τ' := ⟨h1.trans h.1, h2.trans h.2⟩
/-- what a question may change -/
def wLq (a i : Nat) : Bool := wLv a i || a == 2 || a == 33 || a == 9 || a == 10 || (a == 0 && (i == 3 || i == 5 || i == 15 || i == 35 || i == 36 || i == 58))
theorem wR_fr {σ σ' τ τ' : wg_M} (hσ : ∀ a, a ≠ 21 → a ≠ 32 → a ≠ 33 → a ≠ 58 → σ' a = σ a) (hτ : ∀ a i, wLq a i = true → τ' a i = τ a i) (h : wR σ τ) : wR σ' τ' := by
  obtain ⟨nw, nj, nc, hW, hP, hI, hD, hF⟩ := h
  have hv : ∀ a i, wLv a i = true → τ' a i = τ a i := fun a i q => hτ a i (by simp [wLq, q])
  refine ⟨nw, nj, nc, wRW_fr (fun a q1 q2 q3 q4 q5 => hσ a (by omega) (by omega) (by omega) (by omega)) hv hW, ?_, ?_, ?_, ?_⟩
  · exact wP_fr ⟨hW.1.1, hW.1.2.1, hW.1.2.2.1⟩ (by rw [hσ 258 (by omega) (by omega) (by omega) (by omega)]) (by rw [hσ 258 (by omega) (by omega) (by omega) (by omega)]) (fun a q1 q2 => hσ a (by omega) (by omega) (by omega) (by omega)) (hτ 0 3 rfl) (fun i hi => hτ 2 i (by simp [wLq])) (fun i hi => hv 4 i (by simp [wLv]; omega)) (fun i hi => hv 5 i (by simp [wLv]; omega)) (fun i hi => hv 6 i (by simp [wLv]; omega)) (fun i hi => hv 7 i (by simp [wLv]; omega)) hP
  · exact wIm_fr (by rw [hσ 281 (by omega) (by omega) (by omega) (by omega)]) (fun a q1 q2 _ _ _ => hσ a (by omega) (by omega) (by omega) (by omega)) (hτ 0 58 rfl) (funext fun i => hτ 33 i (by simp [wLq])) hI
  · exact wRd_fr (by rw [hσ 260 (by omega) (by omega) (by omega) (by omega)]) (by rw [hσ 260 (by omega) (by omega) (by omega) (by omega)]) (by rw [hσ 260 (by omega) (by omega) (by omega) (by omega)]) (hσ 261 (by omega) (by omega) (by omega) (by omega)) (hτ 0 15 rfl) (hτ 0 35 rfl) (hτ 0 36 rfl) (funext fun i => hτ 9 i (by simp [wLq])) (funext fun i => hτ 10 i (by simp [wLq])) hD
  · exact wFl_fr (by rw [hσ 279 (by omega) (by omega) (by omega) (by omega)]) (hτ 0 5 rfl) hF

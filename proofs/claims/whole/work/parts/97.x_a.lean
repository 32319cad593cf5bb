/-! TEXT: code that is appended -/
set_option maxHeartbeats 1000000 in
theorem wo_t_st (k : Nat) (v : Int32) (cs : List (Nat × Int32)) (ts : List Bool) : wo_t ((k, v) :: cs) ts = (wo_t [(k, v)] ts).bind (wo_t cs) := by
  by_cases h0 : k = 0
  · subst h0
    simp only [wo_t]
    split <;> rfl
  by_cases h1 : k = 1
  · subst h1
    simp only [wo_t]
    split <;> rfl
  by_cases h5 : k = 5
  · subst h5
    rcases ts with _ | ⟨b, ts⟩
    · rfl
    · simp only [wo_t]
      split <;> rfl
  by_cases h9 : k = 9
  · subst h9
    rcases ts with _ | ⟨_ | _, ts⟩
    · rfl
    · rcases ts with _ | ⟨a, ts⟩
      · rfl
      · cases a <;> rfl
    · rfl
  rcases ts with _ | ⟨b, _ | ⟨a, ts⟩⟩
  · unfold wo_t
    split <;> simp_all
  · unfold wo_t
    split <;> simp_all
  · have e : ∀ cs', wo_t ((k, v) :: cs') (b :: a :: ts) = if k ≤ 4 then wo_t cs' (false :: ts) else if k ≤ 8 then wo_t cs' (true :: ts) else if a && b && (k == 10 || k == 11) then wo_t cs' (true :: ts) else none := fun cs' => by
      rw [wo_t]
      all_goals simp_all
    rw [e, e]
    split
    · rfl
    · split
      · rfl
      · split <;> rfl
set_option maxHeartbeats 1000000 in
theorem wo_t_app {E : List (Nat × Int32)} {ts' : List Bool} : ∀ {D : List (Nat × Int32)} {ts : List Bool}, wo_t D ts = some ts' → wo_t (D ++ E) ts = wo_t E ts'
  | [], ts, h => by
    simp only [wo_t] at h
    cases h
    rfl
  | (k, v) :: D, ts, h => by
    rw [wo_t_st] at h
    show wo_t ((k, v) :: (D ++ E)) ts = _
    rw [wo_t_st]
    cases q : wo_t [(k, v)] ts with
    | none => rw [q] at h; cases h
    | some r =>
      rw [q] at h
      exact wo_t_app (D := D) (ts := r) h
set_option maxHeartbeats 1000000 in
theorem wo_l_app : ∀ (C D : List (Nat × Int32)), wo_l (C ++ D) = wo_l C + wo_l D
  | [], D => by simp [wo_l]
  | (k, v) :: C, D => by
    show (if k = 5 then 2 else 1) + wo_l (C ++ D) = (if k = 5 then 2 else 1) + wo_l C + wo_l D
    rw [wo_l_app C D, Nat.add_assoc]
set_option maxHeartbeats 1000000 in
theorem wo_len : ∀ (C : List (Nat × Int32)), C.length ≤ wo_l C
  | [] => Nat.le_refl _
  | (k, v) :: C => by
    have := wo_len C
    show C.length + 1 ≤ (if k = 5 then 2 else 1) + wo_l C
    split <;> omega
set_option maxHeartbeats 1000000 in
theorem wo_C_app {sg vl : Nat → Int32} : ∀ (C D : List (Nat × Int32)) (p : Nat), wo_C sg vl p (C ++ D) ↔ wo_C sg vl p C ∧ wo_C sg vl (p + C.length) D
  | [], D, p => by simp [wo_C]
  | (k, v) :: C, D, p => by
    show sg p = nI (wo_s k) ∧ vl p = v ∧ wo_C sg vl (p + 1) (C ++ D) ↔ (sg p = nI (wo_s k) ∧ vl p = v ∧ wo_C sg vl (p + 1) C) ∧ wo_C sg vl (p + (C.length + 1)) D
    rw [wo_C_app C D (p + 1), show p + 1 + C.length = p + (C.length + 1) by omega]
    exact ⟨fun ⟨a, b, c, d⟩ => ⟨⟨a, b, c⟩, d⟩, fun ⟨⟨a, b, c⟩, d⟩ => ⟨a, b, c, d⟩⟩
set_option maxHeartbeats 1000000 in
theorem wo_M_app {op ar : Nat → Int32} : ∀ (C D : List (Nat × Int32)) (p : Nat), wo_M op ar p (C ++ D) ↔ wo_M op ar p C ∧ wo_M op ar (p + wo_l C) D
  | [], D, p => by simp [wo_M, wo_l]
  | (k, v) :: C, D, p => by
    by_cases h : k = 5
    · subst h
      show ((5 = 5 ∧ op p = nI 0 ∧ ar p = v ∧ op (p + 1) = nI 5 ∧ wo_M op ar (p + 2) (C ++ D)) ∨ (5 ≠ 5 ∧ 5 ≤ 11 ∧ op p = nI 5 ∧ (5 ≤ 1 → ar p = v) ∧ wo_M op ar (p + 1) (C ++ D))) ↔ ((5 = 5 ∧ op p = nI 0 ∧ ar p = v ∧ op (p + 1) = nI 5 ∧ wo_M op ar (p + 2) C) ∨ (5 ≠ 5 ∧ 5 ≤ 11 ∧ op p = nI 5 ∧ (5 ≤ 1 → ar p = v) ∧ wo_M op ar (p + 1) C)) ∧ wo_M op ar (p + (2 + wo_l C)) D
      rw [wo_M_app C D (p + 2), show p + 2 + wo_l C = p + (2 + wo_l C) by omega]
      constructor
      · rintro (⟨a, b, c, d, e, f⟩ | ⟨a, -⟩)
        · exact ⟨Or.inl ⟨a, b, c, d, e⟩, f⟩
        · exact absurd rfl a
      · rintro ⟨⟨a, b, c, d, e⟩ | ⟨a, -⟩, f⟩
        · exact Or.inl ⟨a, b, c, d, e, f⟩
        · exact absurd rfl a
    · have el : wo_l ((k, v) :: C) = 1 + wo_l C := by show (if k = 5 then 2 else 1) + wo_l C = _; rw [if_neg h]
      rw [el]
      show ((k = 5 ∧ op p = nI 0 ∧ ar p = v ∧ op (p + 1) = nI 5 ∧ wo_M op ar (p + 2) (C ++ D)) ∨ (k ≠ 5 ∧ k ≤ 11 ∧ op p = nI k ∧ (k ≤ 1 → ar p = v) ∧ wo_M op ar (p + 1) (C ++ D))) ↔ ((k = 5 ∧ op p = nI 0 ∧ ar p = v ∧ op (p + 1) = nI 5 ∧ wo_M op ar (p + 2) C) ∨ (k ≠ 5 ∧ k ≤ 11 ∧ op p = nI k ∧ (k ≤ 1 → ar p = v) ∧ wo_M op ar (p + 1) C)) ∧ wo_M op ar (p + (1 + wo_l C)) D
      rw [wo_M_app C D (p + 1), show p + 1 + wo_l C = p + (1 + wo_l C) by omega]
      constructor
      · rintro (⟨a, -⟩ | ⟨a, b, c, d, e, f⟩)
        · exact absurd a h
        · exact ⟨Or.inr ⟨a, b, c, d, e⟩, f⟩
      · rintro ⟨⟨a, -⟩ | ⟨a, b, c, d, e⟩, f⟩
        · exact absurd a h
        · exact Or.inr ⟨a, b, c, d, e, f⟩

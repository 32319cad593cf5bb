/-! the whole run of a code, on both sides -/
set_option maxHeartbeats 1000000 in
theorem wo_t_k {k : Nat} {v : Int32} {cs : List (Nat × Int32)} {ts ts' : List Bool} (h : wo_t ((k, v) :: cs) ts = some ts') : k ≤ 11 := by
  rcases Nat.lt_or_ge 11 k with q | q
  · exfalso
    obtain ⟨j, rfl⟩ : ∃ j, k = j + 12 := ⟨k - 12, by omega⟩
    match ts, h with
    | [], h => simp [wo_t] at h
    | [_], h => simp [wo_t] at h
    | b :: a :: ts, h =>
      rw [wo_t] at h
      · rw [if_neg (by omega), if_neg (by omega), if_neg (by simp)] at h
        cases h
      all_goals omega
  · exact q
set_option maxHeartbeats 1000000 in
theorem wo_t_0 {v : Int32} {cs : List (Nat × Int32)} {ts ts' : List Bool} (h : wo_t ((0, v) :: cs) ts = some ts') : ts.length < 30 ∧ wo_t cs (false :: ts) = some ts' := by
  rw [wo_t] at h
  split at h
  · next q => exact ⟨q, h⟩
  · cases h
set_option maxHeartbeats 1000000 in
theorem wo_t_1 {v : Int32} {cs : List (Nat × Int32)} {ts ts' : List Bool} (h : wo_t ((1, v) :: cs) ts = some ts') : ts.length < 30 ∧ (∃ j, j < 10 ∧ v = nI j) ∧ wo_t cs (false :: ts) = some ts' := by
  rw [wo_t] at h
  split at h
  · next q =>
    refine ⟨q.1, ⟨v.toInt.toNat, by omega, ?_⟩, h⟩
    apply Int32.toInt_inj.mp
    rw [nI_toInt (by omega)]
    omega
  · cases h
set_option maxHeartbeats 1000000 in
theorem wo_t_5 {v : Int32} {cs : List (Nat × Int32)} {ts ts' : List Bool} (h : wo_t ((5, v) :: cs) ts = some ts') : ∃ b ts0, ts = b :: ts0 ∧ ¬ v = nI 0 ∧ wo_t cs (false :: ts0) = some ts' := by
  match ts, h with
  | [], h => simp [wo_t] at h
  | b :: ts0, h =>
    rw [wo_t] at h
    split at h
    · next q => exact ⟨b, ts0, rfl, fun e => by rw [e] at q; simp [wo_t0] at q, h⟩
    · cases h
set_option maxHeartbeats 1000000 in
theorem wo_t_9 {v : Int32} {cs : List (Nat × Int32)} {ts ts' : List Bool} (h : wo_t ((9, v) :: cs) ts = some ts') : ∃ ts0, ts = true :: ts0 ∧ wo_t cs (true :: ts0) = some ts' := by
  match ts, h with
  | [], h => simp [wo_t] at h
  | true :: ts0, h => exact ⟨ts0, rfl, by rw [wo_t] at h; exact h⟩
  | [false], h => simp [wo_t] at h
  | false :: a :: ts0, h => simp [wo_t] at h
set_option maxHeartbeats 1000000 in
theorem wo_nz {v x : Int32} (h : x = nI 0 ∨ x = nI 1) : nI 1 - x = nI 0 ∨ nI 1 - x = nI 1 := by
  rcases h with rfl | rfl
  · right; decide
  · left; decide
set_option maxHeartbeats 1000000 in
theorem wo_t_2 {v : Int32} {cs : List (Nat × Int32)} {ts ts' : List Bool} (h : wo_t ((2, v) :: cs) ts = some ts') : ∃ b a ts0, ts = b :: a :: ts0 ∧ wo_t cs (false :: ts0) = some ts' := by
  match ts, h with
  | [], h => simp [wo_t] at h
  | [_], h => simp [wo_t] at h
  | b :: a :: ts0, h =>
    simp only [wo_t, Nat.reduceLeDiff, if_true, if_false] at h
    exact ⟨b, a, ts0, rfl, h⟩
set_option maxHeartbeats 1000000 in
theorem wo_t_3 {v : Int32} {cs : List (Nat × Int32)} {ts ts' : List Bool} (h : wo_t ((3, v) :: cs) ts = some ts') : ∃ b a ts0, ts = b :: a :: ts0 ∧ wo_t cs (false :: ts0) = some ts' := by
  match ts, h with
  | [], h => simp [wo_t] at h
  | [_], h => simp [wo_t] at h
  | b :: a :: ts0, h =>
    simp only [wo_t, Nat.reduceLeDiff, if_true, if_false] at h
    exact ⟨b, a, ts0, rfl, h⟩
set_option maxHeartbeats 1000000 in
theorem wo_t_4 {v : Int32} {cs : List (Nat × Int32)} {ts ts' : List Bool} (h : wo_t ((4, v) :: cs) ts = some ts') : ∃ b a ts0, ts = b :: a :: ts0 ∧ wo_t cs (false :: ts0) = some ts' := by
  match ts, h with
  | [], h => simp [wo_t] at h
  | [_], h => simp [wo_t] at h
  | b :: a :: ts0, h =>
    simp only [wo_t, Nat.reduceLeDiff, if_true, if_false] at h
    exact ⟨b, a, ts0, rfl, h⟩
set_option maxHeartbeats 1000000 in
theorem wo_t_6 {v : Int32} {cs : List (Nat × Int32)} {ts ts' : List Bool} (h : wo_t ((6, v) :: cs) ts = some ts') : ∃ b a ts0, ts = b :: a :: ts0 ∧ wo_t cs (true :: ts0) = some ts' := by
  match ts, h with
  | [], h => simp [wo_t] at h
  | [_], h => simp [wo_t] at h
  | b :: a :: ts0, h =>
    simp only [wo_t, Nat.reduceLeDiff, if_true, if_false] at h
    exact ⟨b, a, ts0, rfl, h⟩
set_option maxHeartbeats 1000000 in
theorem wo_b6 (x y : Int32) : wo_2 6 x y = nI 0 ∨ wo_2 6 x y = nI 1 := by
  simp only [wo_2, Nat.reduceEqDiff, if_true, if_false]
  split
  · first | exact Or.inl rfl | exact Or.inr rfl
  · first | exact Or.inl rfl | exact Or.inr rfl
set_option maxHeartbeats 1000000 in
theorem wo_t_7 {v : Int32} {cs : List (Nat × Int32)} {ts ts' : List Bool} (h : wo_t ((7, v) :: cs) ts = some ts') : ∃ b a ts0, ts = b :: a :: ts0 ∧ wo_t cs (true :: ts0) = some ts' := by
  match ts, h with
  | [], h => simp [wo_t] at h
  | [_], h => simp [wo_t] at h
  | b :: a :: ts0, h =>
    simp only [wo_t, Nat.reduceLeDiff, if_true, if_false] at h
    exact ⟨b, a, ts0, rfl, h⟩
set_option maxHeartbeats 1000000 in
theorem wo_b7 (x y : Int32) : wo_2 7 x y = nI 0 ∨ wo_2 7 x y = nI 1 := by
  simp only [wo_2, Nat.reduceEqDiff, if_true, if_false]
  split
  · first | exact Or.inl rfl | exact Or.inr rfl
  · first | exact Or.inl rfl | exact Or.inr rfl
set_option maxHeartbeats 1000000 in
theorem wo_t_8 {v : Int32} {cs : List (Nat × Int32)} {ts ts' : List Bool} (h : wo_t ((8, v) :: cs) ts = some ts') : ∃ b a ts0, ts = b :: a :: ts0 ∧ wo_t cs (true :: ts0) = some ts' := by
  match ts, h with
  | [], h => simp [wo_t] at h
  | [_], h => simp [wo_t] at h
  | b :: a :: ts0, h =>
    simp only [wo_t, Nat.reduceLeDiff, if_true, if_false] at h
    exact ⟨b, a, ts0, rfl, h⟩
set_option maxHeartbeats 1000000 in
theorem wo_b8 (x y : Int32) : wo_2 8 x y = nI 0 ∨ wo_2 8 x y = nI 1 := by
  simp only [wo_2, Nat.reduceEqDiff, if_true, if_false]
  split
  · first | exact Or.inl rfl | exact Or.inr rfl
  · first | exact Or.inl rfl | exact Or.inr rfl
set_option maxHeartbeats 1000000 in
theorem wo_t_10 {v : Int32} {cs : List (Nat × Int32)} {ts ts' : List Bool} (h : wo_t ((10, v) :: cs) ts = some ts') : ∃ b a ts0, ts = b :: a :: ts0 ∧ wo_t cs (true :: ts0) = some ts' ∧ a = true ∧ b = true := by
  match ts, h with
  | [], h => simp [wo_t] at h
  | [_], h => simp [wo_t] at h
  | b :: a :: ts0, h =>
    simp only [wo_t, Nat.reduceLeDiff, if_false, Nat.reduceBEq, Bool.or_true, Bool.or_false, Bool.true_or, Bool.and_true] at h
    cases a <;> cases b <;> simp at h
    exact ⟨true, true, ts0, rfl, h, rfl, rfl⟩
set_option maxHeartbeats 1000000 in
theorem wo_b10 {x y : Int32} (hx : x = nI 0 ∨ x = nI 1) (hy : y = nI 0 ∨ y = nI 1) : wo_2 10 x y = nI 0 ∨ wo_2 10 x y = nI 1 := by
  rcases hx with rfl | rfl <;> rcases hy with rfl | rfl <;> first | (left; decide) | (right; decide)
set_option maxHeartbeats 1000000 in
theorem wo_t_11 {v : Int32} {cs : List (Nat × Int32)} {ts ts' : List Bool} (h : wo_t ((11, v) :: cs) ts = some ts') : ∃ b a ts0, ts = b :: a :: ts0 ∧ wo_t cs (true :: ts0) = some ts' ∧ a = true ∧ b = true := by
  match ts, h with
  | [], h => simp [wo_t] at h
  | [_], h => simp [wo_t] at h
  | b :: a :: ts0, h =>
    simp only [wo_t, Nat.reduceLeDiff, if_false, Nat.reduceBEq, Bool.or_true, Bool.or_false, Bool.true_or, Bool.and_true] at h
    cases a <;> cases b <;> simp at h
    exact ⟨true, true, ts0, rfl, h, rfl, rfl⟩
set_option maxHeartbeats 1000000 in
theorem wo_b11 {x y : Int32} (hx : x = nI 0 ∨ x = nI 1) (hy : y = nI 0 ∨ y = nI 1) : wo_2 11 x y = nI 0 ∨ wo_2 11 x y = nI 1 := by
  rcases hx with rfl | rfl <;> rcases hy with rfl | rfl <;> first | (left; decide) | (right; decide)
set_option maxHeartbeats 1000000 in
theorem wo_runC : ∀ (cs : List (Nat × Int32)) (p n : Nat) (st : List Int32) (ts ts' : List Bool) (σ : wg_M), wo_C (σ 27) (σ 28) p cs → p + cs.length ≤ 400 → wo_t cs ts = some ts' → ts.length = st.length → ts.length ≤ 30 → wo_S (σ 33) st → cs.length < n → ∃ σ', f_X3_run_5 n 26 (nI (p + cs.length)) (nI st.length) (nI p) σ = some (σ' 33 0, σ') ∧ (∀ a, a ≠ 33 → σ' a = σ a) ∧ wo_S (σ' 33) (wo_e (σ 32) cs st) ∧ (wo_e (σ 32) cs st).length = ts'.length
  | [], p, n, st, ts, ts', σ, hc, hp, ht, hl, h30, hs, hn => by
    obtain ⟨n, rfl⟩ : ∃ k, n = k + 1 := ⟨n - 1, by simp only [List.length_nil] at hn; omega⟩
    simp only [wo_t, Option.some.injEq] at ht
    subst ht
    refine ⟨σ, ?_, fun _ _ => rfl, hs, hl.symm⟩
    exact wo_cE (by simpa using hp)
  | (k, v) :: cs, p, n, st, ts, ts', σ, hc, hp, ht, hl, h30, hs, hn => by
    obtain ⟨n, rfl⟩ : ∃ k, n = k + 1 := ⟨n - 1, by simp only [List.length_cons] at hn; omega⟩
    simp only [List.length_cons] at hp hn
    obtain ⟨c1, c2, c3⟩ := hc
    have fin : ∀ (st1 : List Int32) (ts1 : List Bool) (i : Nat) (w : Int32), wo_t cs ts1 = some ts' → ts1.length = st1.length → ts1.length ≤ 30 → wo_S (upd (σ 33) i w) st1 → wo_e (σ 32) ((k, v) :: cs) st = wo_e (σ 32) cs st1 → f_X3_run_5 (n + 1) 26 (nI (p + 1 + cs.length)) (nI st.length) (nI p) σ = f_X3_run_5 n 26 (nI (p + 1 + cs.length)) (nI st1.length) (nI (p + 1)) (wg_u σ 33 i w) → ∃ σ', f_X3_run_5 (n + 1) 26 (nI (p + ((k, v) :: cs).length)) (nI st.length) (nI p) σ = some (σ' 33 0, σ') ∧ (∀ a, a ≠ 33 → σ' a = σ a) ∧ wo_S (σ' 33) (wo_e (σ 32) ((k, v) :: cs) st) ∧ (wo_e (σ 32) ((k, v) :: cs) st).length = ts'.length := by
      intro st1 ts1 i w q1 q2 q3 q4 q5 q6
      have e27 : wg_u σ 33 i w 27 = σ 27 := wx_un (by omega)
      have e28 : wg_u σ 33 i w 28 = σ 28 := wx_un (by omega)
      have e32 : wg_u σ 33 i w 32 = σ 32 := wx_un (by omega)
      obtain ⟨σ', r1, r2, r3, r4⟩ := wo_runC cs (p + 1) n st1 ts1 ts' (wg_u σ 33 i w) (by rw [e27, e28]; exact c3) (by omega) q1 q2 q3 (by rw [wx_uk]; exact q4) (by omega)
      refine ⟨σ', ?_, fun a ha => (r2 a ha).trans (wx_un ha), ?_, ?_⟩
      · rw [show p + ((k, v) :: cs).length = p + 1 + cs.length by simp only [List.length_cons]; omega, q6]; exact r1
      · rw [q5, ← e32]; exact r3
      · rw [q5, ← e32]; exact r4
    have hk := wo_t_k ht
    rcases wo_kinds hk with rfl | rfl | rfl | rfl | rfl | rfl | rfl | rfl | rfl | rfl | rfl | rfl
    · obtain ⟨g1, g2⟩ := wo_t_0 ht
      exact fin (v :: st) (false :: ts) st.length v g2 (by simp [hl]) (by simp only [List.length_cons]; omega) ⟨pk_us, wo_S_upd (Nat.le_refl _) hs⟩ rfl (wo_c0 (by omega) (by omega) (by omega) c1 c2)
    · obtain ⟨g1, ⟨j, hj, rfl⟩, g2⟩ := wo_t_1 ht
      refine fin (σ 32 j :: st) (false :: ts) st.length (σ 32 j) g2 (by simp [hl]) (by simp only [List.length_cons]; omega) ⟨pk_us, wo_S_upd (Nat.le_refl _) hs⟩ ?_ (wo_c1 (by omega) (by omega) (by omega) hj c1 c2)
      rw [wo_e, nI_clamp (by omega)]
    · obtain ⟨b, ts0, rfl, g1, g2⟩ := wo_t_5 ht
      match st, hl, hs with
      | x :: st0, hl, hs =>
        simp only [List.length_cons, Nat.add_right_cancel_iff] at hl h30
        exact fin (x / v :: st0) (false :: ts0) st0.length (x / v) g2 (by simp [hl]) (by simp only [List.length_cons]; omega) ⟨pk_us, wo_S_upd (Nat.le_refl _) hs.2⟩ rfl (wo_c5 (by omega) (by omega) (by omega) c1 c2 g1 hs.1)
    · obtain ⟨ts0, rfl, g2⟩ := wo_t_9 ht
      match st, hl, hs with
      | x :: st0, hl, hs =>
        simp only [List.length_cons, Nat.add_right_cancel_iff] at hl h30
        exact fin ((nI 1 - x) :: st0) (true :: ts0) st0.length (nI 1 - x) g2 (by simp [hl]) (by simp only [List.length_cons]; omega) ⟨pk_us, wo_S_upd (Nat.le_refl _) hs.2⟩ rfl (wo_c9 (by omega) (by omega) (by omega) c1 hs.1)
    · obtain ⟨b, a, ts0, rfl, g2⟩ := wo_t_2 ht
      match st, hl, hs with
      | y :: x :: st0, hl, hs =>
        simp only [List.length_cons, Nat.add_right_cancel_iff] at hl h30
        exact fin (wo_2 2 x y :: st0) (false :: ts0) st0.length (wo_2 2 x y) g2 (by simp [hl]) (by simp only [List.length_cons]; omega) ⟨pk_us, wo_S_upd (Nat.le_refl _) hs.2.2⟩ rfl (wo_c2 (by omega) (by omega) (by omega) c1 hs.2.1 hs.1)
    · obtain ⟨b, a, ts0, rfl, g2⟩ := wo_t_3 ht
      match st, hl, hs with
      | y :: x :: st0, hl, hs =>
        simp only [List.length_cons, Nat.add_right_cancel_iff] at hl h30
        exact fin (wo_2 3 x y :: st0) (false :: ts0) st0.length (wo_2 3 x y) g2 (by simp [hl]) (by simp only [List.length_cons]; omega) ⟨pk_us, wo_S_upd (Nat.le_refl _) hs.2.2⟩ rfl (wo_c3 (by omega) (by omega) (by omega) c1 hs.2.1 hs.1)
    · obtain ⟨b, a, ts0, rfl, g2⟩ := wo_t_4 ht
      match st, hl, hs with
      | y :: x :: st0, hl, hs =>
        simp only [List.length_cons, Nat.add_right_cancel_iff] at hl h30
        exact fin (wo_2 4 x y :: st0) (false :: ts0) st0.length (wo_2 4 x y) g2 (by simp [hl]) (by simp only [List.length_cons]; omega) ⟨pk_us, wo_S_upd (Nat.le_refl _) hs.2.2⟩ rfl (wo_c4 (by omega) (by omega) (by omega) c1 hs.2.1 hs.1)
    · obtain ⟨b, a, ts0, rfl, g2⟩ := wo_t_6 ht
      match st, hl, hs with
      | y :: x :: st0, hl, hs =>
        simp only [List.length_cons, Nat.add_right_cancel_iff] at hl h30
        exact fin (wo_2 6 x y :: st0) (true :: ts0) st0.length (wo_2 6 x y) g2 (by simp [hl]) (by simp only [List.length_cons]; omega) ⟨pk_us, wo_S_upd (Nat.le_refl _) hs.2.2⟩ rfl (wo_c6 (by omega) (by omega) (by omega) c1 hs.2.1 hs.1)
    · obtain ⟨b, a, ts0, rfl, g2⟩ := wo_t_7 ht
      match st, hl, hs with
      | y :: x :: st0, hl, hs =>
        simp only [List.length_cons, Nat.add_right_cancel_iff] at hl h30
        exact fin (wo_2 7 x y :: st0) (true :: ts0) st0.length (wo_2 7 x y) g2 (by simp [hl]) (by simp only [List.length_cons]; omega) ⟨pk_us, wo_S_upd (Nat.le_refl _) hs.2.2⟩ rfl (wo_c7 (by omega) (by omega) (by omega) c1 hs.2.1 hs.1)
    · obtain ⟨b, a, ts0, rfl, g2⟩ := wo_t_8 ht
      match st, hl, hs with
      | y :: x :: st0, hl, hs =>
        simp only [List.length_cons, Nat.add_right_cancel_iff] at hl h30
        exact fin (wo_2 8 x y :: st0) (true :: ts0) st0.length (wo_2 8 x y) g2 (by simp [hl]) (by simp only [List.length_cons]; omega) ⟨pk_us, wo_S_upd (Nat.le_refl _) hs.2.2⟩ rfl (wo_c8 (by omega) (by omega) (by omega) c1 hs.2.1 hs.1)
    · obtain ⟨b, a, ts0, rfl, g2, -, -⟩ := wo_t_10 ht
      match st, hl, hs with
      | y :: x :: st0, hl, hs =>
        simp only [List.length_cons, Nat.add_right_cancel_iff] at hl h30
        exact fin (wo_2 10 x y :: st0) (true :: ts0) st0.length (wo_2 10 x y) g2 (by simp [hl]) (by simp only [List.length_cons]; omega) ⟨pk_us, wo_S_upd (Nat.le_refl _) hs.2.2⟩ rfl (wo_c10 (by omega) (by omega) (by omega) c1 hs.2.1 hs.1)
    · obtain ⟨b, a, ts0, rfl, g2, -, -⟩ := wo_t_11 ht
      match st, hl, hs with
      | y :: x :: st0, hl, hs =>
        simp only [List.length_cons, Nat.add_right_cancel_iff] at hl h30
        exact fin (wo_2 11 x y :: st0) (true :: ts0) st0.length (wo_2 11 x y) g2 (by simp [hl]) (by simp only [List.length_cons]; omega) ⟨pk_us, wo_S_upd (Nat.le_refl _) hs.2.2⟩ rfl (wo_c11 (by omega) (by omega) (by omega) c1 hs.2.1 hs.1)
set_option maxHeartbeats 1000000 in
theorem wo_runM : ∀ (cs : List (Nat × Int32)) (p n : Nat) (st : List Int32) (ts ts' : List Bool) (τ : wg_M), wo_M (τ 16) (τ 17) p cs → p + wo_l cs ≤ 400 → wo_t cs ts = some ts' → wo_V ts st → ts.length ≤ 30 → wo_S (τ 23) st → wo_l cs < n → ∃ τ', f_X12_runs_12 n 0 (nI 0) (nI (p + wo_l cs)) (nI st.length) (nI p) τ = some (τ' 23 0, τ') ∧ (∀ a, a ≠ 23 → τ' a = τ a) ∧ wo_S (τ' 23) (wo_e (τ 22) cs st) ∧ wo_V ts' (wo_e (τ 22) cs st)
  | [], p, n, st, ts, ts', τ, hc, hp, ht, hl, h30, hs, hn => by
    obtain ⟨n, rfl⟩ : ∃ k, n = k + 1 := ⟨n - 1, by simp only [wo_l] at hn; omega⟩
    simp only [wo_t, Option.some.injEq] at ht
    subst ht
    refine ⟨τ, ?_, fun _ _ => rfl, hs, hl⟩
    exact wo_mE (by simpa [wo_l] using hp)
  | (k, v) :: cs, p, n, st, ts, ts', τ, hc, hp, ht, hl, h30, hs, hn => by
    have hlen := wo_V_len hl
    rcases hc with ⟨rfl, c1, c2, c3, c4⟩ | ⟨h5, hk, c1, c2, c3⟩
    · simp only [wo_l, if_true] at hp hn
      obtain ⟨n, rfl⟩ : ∃ k, n = k + 2 := ⟨n - 2, by omega⟩
      obtain ⟨b, ts0, rfl, g1, g2⟩ := wo_t_5 ht
      match st, hl, hs, hlen with
      | x :: st0, hl, hs, hlen =>
        simp only [List.length_cons, Nat.add_right_cancel_iff] at hlen h30
        have s1 := wo_m0 (n := n + 1) (E := p + 2 + wo_l cs) (p := p) (len := st0.length + 1) (τ := τ) (by omega) (by omega) (by omega) c1 c2
        have s2 := wo_m5 (n := n) (E := p + 2 + wo_l cs) (p := p + 1) (len := st0.length) (τ := wg_u τ 23 (st0.length + 1) v) (x := x) (v := v) (by omega) (by omega) (by omega) (by rw [wx_un (by omega)]; exact c3) (by rw [wx_uk, pk_un (by omega)]; exact hs.1) (by rw [wx_uk, pk_us]) g1
        obtain ⟨τ', r1, r2, r3, r4⟩ := wo_runM cs (p + 2) n (x / v :: st0) (false :: ts0) ts' (wg_u (wg_u τ 23 (st0.length + 1) v) 23 st0.length (x / v)) (by rw [wx_un (by omega), wx_un (by omega), wx_un (by omega), wx_un (by omega)]; exact c4) (by omega) g2 ⟨(fun h => by cases h), hl.2⟩ (by simp only [List.length_cons]; omega) ⟨by rw [wx_uk, pk_us], by rw [wx_uk, wx_uk]; exact wo_S_upd (Nat.le_refl _) (wo_S_upd (by omega) hs.2)⟩ (by omega)
        have e22 : wg_u (wg_u τ 23 (st0.length + 1) v) 23 st0.length (x / v) 22 = τ 22 := by rw [wx_un (by omega), wx_un (by omega)]
        rw [e22] at r3 r4
        refine ⟨τ', ?_, fun a ha => (r2 a ha).trans ((wx_un ha).trans (wx_un ha)), r3, r4⟩
        rw [show p + wo_l ((5, v) :: cs) = p + 2 + wo_l cs by simp only [wo_l, if_true]; omega]
        simp only [List.length_cons] at s1 r1 ⊢
        rw [s1, s2]
        exact r1
    · simp only [wo_l, if_neg h5] at hp hn
      obtain ⟨n, rfl⟩ : ∃ k, n = k + 1 := ⟨n - 1, by omega⟩
      have fin : ∀ (st1 : List Int32) (ts1 : List Bool) (i : Nat) (w : Int32), wo_t cs ts1 = some ts' → wo_V ts1 st1 → ts1.length ≤ 30 → wo_S (upd (τ 23) i w) st1 → wo_e (τ 22) ((k, v) :: cs) st = wo_e (τ 22) cs st1 → f_X12_runs_12 (n + 1) 0 (nI 0) (nI (p + 1 + wo_l cs)) (nI st.length) (nI p) τ = f_X12_runs_12 n 0 (nI 0) (nI (p + 1 + wo_l cs)) (nI st1.length) (nI (p + 1)) (wg_u τ 23 i w) → ∃ τ', f_X12_runs_12 (n + 1) 0 (nI 0) (nI (p + wo_l ((k, v) :: cs))) (nI st.length) (nI p) τ = some (τ' 23 0, τ') ∧ (∀ a, a ≠ 23 → τ' a = τ a) ∧ wo_S (τ' 23) (wo_e (τ 22) ((k, v) :: cs) st) ∧ wo_V ts' (wo_e (τ 22) ((k, v) :: cs) st) := by
        intro st1 ts1 i w q1 q2 q3 q4 q5 q6
        have e16 : wg_u τ 23 i w 16 = τ 16 := wx_un (by omega)
        have e17 : wg_u τ 23 i w 17 = τ 17 := wx_un (by omega)
        have e22 : wg_u τ 23 i w 22 = τ 22 := wx_un (by omega)
        obtain ⟨τ', r1, r2, r3, r4⟩ := wo_runM cs (p + 1) n st1 ts1 ts' (wg_u τ 23 i w) (by rw [e16, e17]; exact c3) (by omega) q1 q2 q3 (by rw [wx_uk]; exact q4) (by omega)
        refine ⟨τ', ?_, fun a ha => (r2 a ha).trans (wx_un ha), ?_, ?_⟩
        · rw [show p + wo_l ((k, v) :: cs) = p + 1 + wo_l cs by simp only [wo_l, if_neg h5]; omega, q6]; exact r1
        · rw [q5, ← e22]; exact r3
        · rw [q5, ← e22]; exact r4
      rcases wo_kinds hk with rfl | rfl | rfl | rfl | rfl | rfl | rfl | rfl | rfl | rfl | rfl | rfl
      · obtain ⟨g1, g2⟩ := wo_t_0 ht
        exact fin (v :: st) (false :: ts) st.length v g2 ⟨(fun h => by cases h), hl⟩ (by simp only [List.length_cons]; omega) ⟨pk_us, wo_S_upd (Nat.le_refl _) hs⟩ rfl (wo_m0 (by omega) (by omega) (by omega) c1 (c2 (by omega)))
      · obtain ⟨g1, ⟨j, hj, rfl⟩, g2⟩ := wo_t_1 ht
        refine fin (τ 22 j :: st) (false :: ts) st.length (τ 22 j) g2 ⟨(fun h => by cases h), hl⟩ (by simp only [List.length_cons]; omega) ⟨pk_us, wo_S_upd (Nat.le_refl _) hs⟩ ?_ (wo_m1 (by omega) (by omega) (by omega) hj c1 (c2 (by omega)))
        rw [wo_e, nI_clamp (by omega)]
      · exact absurd rfl h5
      · obtain ⟨ts0, rfl, g2⟩ := wo_t_9 ht
        match st, hl, hs, hlen with
        | x :: st0, hl, hs, hlen =>
          simp only [List.length_cons, Nat.add_right_cancel_iff] at hlen h30
          exact fin ((nI 1 - x) :: st0) (true :: ts0) st0.length (nI 1 - x) g2 ⟨fun _ => wo_nz (v := v) (hl.1 rfl), hl.2⟩ (by simp only [List.length_cons]; omega) ⟨pk_us, wo_S_upd (Nat.le_refl _) hs.2⟩ rfl (wo_m9 (by omega) (by omega) (by omega) c1 hs.1)
      · obtain ⟨b, a, ts0, rfl, g2⟩ := wo_t_2 ht
        match st, hl, hs, hlen with
        | y :: x :: st0, hl, hs, hlen =>
          simp only [List.length_cons, Nat.add_right_cancel_iff] at hlen h30
          exact fin (wo_2 2 x y :: st0) (false :: ts0) st0.length (wo_2 2 x y) g2 ⟨(fun h => by cases h), hl.2.2⟩ (by simp only [List.length_cons]; omega) ⟨pk_us, wo_S_upd (Nat.le_refl _) hs.2.2⟩ rfl (wo_m2 (by omega) (by omega) (by omega) c1 hs.2.1 hs.1)
      · obtain ⟨b, a, ts0, rfl, g2⟩ := wo_t_3 ht
        match st, hl, hs, hlen with
        | y :: x :: st0, hl, hs, hlen =>
          simp only [List.length_cons, Nat.add_right_cancel_iff] at hlen h30
          exact fin (wo_2 3 x y :: st0) (false :: ts0) st0.length (wo_2 3 x y) g2 ⟨(fun h => by cases h), hl.2.2⟩ (by simp only [List.length_cons]; omega) ⟨pk_us, wo_S_upd (Nat.le_refl _) hs.2.2⟩ rfl (wo_m3 (by omega) (by omega) (by omega) c1 hs.2.1 hs.1)
      · obtain ⟨b, a, ts0, rfl, g2⟩ := wo_t_4 ht
        match st, hl, hs, hlen with
        | y :: x :: st0, hl, hs, hlen =>
          simp only [List.length_cons, Nat.add_right_cancel_iff] at hlen h30
          exact fin (wo_2 4 x y :: st0) (false :: ts0) st0.length (wo_2 4 x y) g2 ⟨(fun h => by cases h), hl.2.2⟩ (by simp only [List.length_cons]; omega) ⟨pk_us, wo_S_upd (Nat.le_refl _) hs.2.2⟩ rfl (wo_m4 (by omega) (by omega) (by omega) c1 hs.2.1 hs.1)
      · obtain ⟨b, a, ts0, rfl, g2⟩ := wo_t_6 ht
        match st, hl, hs, hlen with
        | y :: x :: st0, hl, hs, hlen =>
          simp only [List.length_cons, Nat.add_right_cancel_iff] at hlen h30
          exact fin (wo_2 6 x y :: st0) (true :: ts0) st0.length (wo_2 6 x y) g2 ⟨(fun _ => wo_b6 x y), hl.2.2⟩ (by simp only [List.length_cons]; omega) ⟨pk_us, wo_S_upd (Nat.le_refl _) hs.2.2⟩ rfl (wo_m6 (by omega) (by omega) (by omega) c1 hs.2.1 hs.1)
      · obtain ⟨b, a, ts0, rfl, g2⟩ := wo_t_7 ht
        match st, hl, hs, hlen with
        | y :: x :: st0, hl, hs, hlen =>
          simp only [List.length_cons, Nat.add_right_cancel_iff] at hlen h30
          exact fin (wo_2 7 x y :: st0) (true :: ts0) st0.length (wo_2 7 x y) g2 ⟨(fun _ => wo_b7 x y), hl.2.2⟩ (by simp only [List.length_cons]; omega) ⟨pk_us, wo_S_upd (Nat.le_refl _) hs.2.2⟩ rfl (wo_m7 (by omega) (by omega) (by omega) c1 hs.2.1 hs.1)
      · obtain ⟨b, a, ts0, rfl, g2⟩ := wo_t_8 ht
        match st, hl, hs, hlen with
        | y :: x :: st0, hl, hs, hlen =>
          simp only [List.length_cons, Nat.add_right_cancel_iff] at hlen h30
          exact fin (wo_2 8 x y :: st0) (true :: ts0) st0.length (wo_2 8 x y) g2 ⟨(fun _ => wo_b8 x y), hl.2.2⟩ (by simp only [List.length_cons]; omega) ⟨pk_us, wo_S_upd (Nat.le_refl _) hs.2.2⟩ rfl (wo_m8 (by omega) (by omega) (by omega) c1 hs.2.1 hs.1)
      · obtain ⟨b, a, ts0, rfl, g2, rfl, rfl⟩ := wo_t_10 ht
        match st, hl, hs, hlen with
        | y :: x :: st0, hl, hs, hlen =>
          simp only [List.length_cons, Nat.add_right_cancel_iff] at hlen h30
          exact fin (wo_2 10 x y :: st0) (true :: ts0) st0.length (wo_2 10 x y) g2 ⟨(fun _ => wo_b10 (hl.2.1 rfl) (hl.1 rfl)), hl.2.2⟩ (by simp only [List.length_cons]; omega) ⟨pk_us, wo_S_upd (Nat.le_refl _) hs.2.2⟩ rfl (wo_m10 (by omega) (by omega) (by omega) c1 hs.2.1 hs.1 (hl.2.1 rfl) (hl.1 rfl))
      · obtain ⟨b, a, ts0, rfl, g2, rfl, rfl⟩ := wo_t_11 ht
        match st, hl, hs, hlen with
        | y :: x :: st0, hl, hs, hlen =>
          simp only [List.length_cons, Nat.add_right_cancel_iff] at hlen h30
          exact fin (wo_2 11 x y :: st0) (true :: ts0) st0.length (wo_2 11 x y) g2 ⟨(fun _ => wo_b11 (hl.2.1 rfl) (hl.1 rfl)), hl.2.2⟩ (by simp only [List.length_cons]; omega) ⟨pk_us, wo_S_upd (Nat.le_refl _) hs.2.2⟩ rfl (wo_m11 (by omega) (by omega) (by omega) c1 hs.2.1 hs.1 (hl.2.1 rfl) (hl.1 rfl))

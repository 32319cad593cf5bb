/-! the first memories are related -/
set_option maxHeartbeats 1000000 in
theorem wR_0 : wR wz_c0 wz_m0 := by
  have z21 : ∀ w, w < 8 → wz_m0 21 w = nI 0 := by decide +kernel
  have z27 : ∀ w, w < 14 → wz_m0 27 w = nI 0 := by decide +kernel
  have z29 : ∀ w, w < 20 → wz_m0 29 w = nI 0 ∧ wz_c0 55 w = nI 0 := by decide +kernel
  have zpg : ∀ i, i < 150 → wz_c0 22 i = wz_m0 8 (4 * i) ∧ wz_c0 23 i = wz_m0 8 (4 * i + 1) ∧ wz_c0 24 i = wz_m0 8 (4 * i + 2) ∧ wz_c0 25 i = wz_m0 8 (4 * i + 3) := by decide +kernel
  have zN : wz_m0 0 6 = nI 0 ∧ wz_m0 0 7 = nI 0 ∧ wz_m0 0 8 = nI 0 := by decide +kernel
  have zB : wz_c0 2 8 = nI 0 ∧ wz_c0 11 5 = nI 0 ∧ wz_c0 1 6 = nI 0 ∧ wz_c0 1 7 = wz_m0 1 0 ∧ wz_c0 1 8 = wz_m0 1 1 ∧ wz_c0 1 9 = wz_m0 1 2 ∧ wz_m0 1 2 = nI 0 ∧ wz_m0 1 0 = nI 0 := by decide +kernel
  have zR : wz_c0 26 6 = nI 0 ∧ wz_m0 11 0 = nI 0 ∧ wz_c0 34 4 = nI 0 ∧ wz_m0 0 37 = nI 0 ∧ wz_c0 39 4 = nI 0 ∧ wz_m0 0 39 = nI 0 ∧ wz_c0 44 4 = nI 0 ∧ wz_m0 0 41 = nI 0 ∧ wz_c0 49 3 = nI 0 ∧ wz_m0 0 45 = nI 0 ∧ wz_c0 49 6 = nI 0 ∧ wz_m0 0 49 = nI 0 ∧ wz_c0 49 10 = nI 0 ∧ wz_m0 0 53 = nI 0 := by decide +kernel
  have zP : wz_c0 258 1 = nI 0 ∧ wz_c0 258 2 = nI 0 ∧ wz_m0 0 3 = nI 0 ∧ wz_c0 281 6 = nI 0 ∧ wz_m0 0 58 = nI 0 ∧ wz_c0 260 2 = nI 0 ∧ wz_m0 0 15 = nI 0 ∧ wz_c0 260 8 = wz_m0 0 35 ∧ wz_c0 260 9 = wz_m0 0 36 ∧ wz_c0 279 6 = nI 0 ∧ wz_m0 0 5 = nI 0 := by decide +kernel
  obtain ⟨b1, b2, b3, b4, b5, b6, b7, b8⟩ := zB
  obtain ⟨r1, r2, r3, r4, r5, r6, r7, r8, r9, r10, r11, r12, r13, r14⟩ := zR
  obtain ⟨p1, p2, p3, p4, p5, p6, p7, p8, p9, p10, p11⟩ := zP
  refine ⟨0, 0, 0, ⟨⟨by omega, by omega, by omega, zN.1, zN.2.1, zN.2.2⟩, ⟨⟨b1, b2, b3, b4, b5, b6, 0, by omega, b7⟩, fun j hj => by omega, fun w hw => by omega, fun c hc => by omega, fun j k hj => by omega⟩, ⟨0, by omega, b8⟩, fun i hi => by simp only [Nat.zero_add]; exact zpg i hi, ?_⟩, wP_0 (nx := 0) (by omega) p1 p2 p3, Or.inl ⟨p4, p5⟩, ⟨⟨0, by omega, p6, p7, fun i hi => by omega⟩, p8, p9, fun _ _ => rfl⟩, p10, p11⟩
  refine ⟨⟨0, by omega, r1, r2, fun _ => 0, fun _ => [], fun _ => [], fun l hl => by omega⟩, ⟨0, by omega, r3, r4, fun i hi => by omega⟩, ⟨0, by omega, r5, r6, fun i hi => by omega⟩, ⟨0, by omega, r7, r8, fun i hi => by omega, fun w hw => Or.inr ⟨fun i hi => by omega, z21 w hw⟩⟩, ⟨0, by omega, r9, r10, fun i hi => by omega⟩, ⟨0, by omega, r11, r12, fun i hi => by omega, fun a ha => ⟨0, by omega, z27 a ha, fun c _ => by simp⟩⟩, fun i hi => ?_, ⟨0, by omega, r13, r14, fun i hi => by omega⟩⟩
  simp only [Nat.zero_add]
  exact ⟨by rw [(z29 i hi).1, (z29 i hi).2], 0, by omega, (z29 i hi).1⟩

theorem wl_ix {K j L : Nat} {c : Int32} (h : K + 6 ≤ L) (hL : L ≤ 3072) (hj : j < 6) (hc : c = nI j) : vp_in (nI K + c) L := by
  subst hc
  rw [nI_add]
  exact vp_in_nI (by omega) (by omega)
def wl_a (xs : Nat → Int32) (K : Nat) (c : Int32) : Int32 := xs (nI K + c).toNatClampNeg
def wl_z (x : Int32) : Int32 := if x = 0 then 0 else 1
theorem wl_z_bit (x : Int32) : wl_z x = 0 ∨ wl_z x = 1 := by unfold wl_z; split <;> simp
section LC
variable {p : Program} {l : Launch} {e : Env} {s : State} {m : MethodId} {below : List Frame} {meth : Method} {c : Code} {b L : Nat} {xs : Nat → Int32} {Ec Em : wg_E} {kc ks : Nat} {K : Nat} {σc σm : wg_M}
theorem wl_top {pc : Nat} {i x y : Int32} {st : List Value} (hv : x = y) (k : wl_G p l e s m below meth c b Ec Em kc ks pc i (.int y :: st) σc σm) : wl_G p l e s m below meth c b Ec Em kc ks pc i (.int x :: st) σc σm := hv ▸ k
theorem wl_case_state (hC : wl_C p s m meth c b L xs Ec Em kc ks) (hK : K + 6 ≤ L) {r : Int32} {σc1 σm1 : wg_M} (h1 : f_X11_state 281 (wl_a xs K 1) σc = some (r, σc1)) (h2 : f_X12_state 0 (wl_a xs K 1) σm = some (r, σm1)) (k : wl_G p l e s m below meth c b Ec Em kc ks 1483 (nI K) [] σc1 σm1) : wl_G p l e s m below meth c b Ec Em kc ks 204 (nI K) [] σc σm := by
  have hL3 := hC.2.1
  refine wl_ld1 hC (wg_da dt_law_0 22 rfl) ?_
  refine wl_ld0 hC (wg_da dt_law_0 23 rfl) ?_
  refine wl_ldi hC (wg_da dt_law_0 24 rfl) ?_
  refine wl_iconst hC (1 : Int32) (by decide) (wg_da dt_law_0 25 rfl) ?_
  refine wl_iadd hC (wg_da dt_law_0 26 rfl) ?_
  refine wl_iald hC (wl_ix hK hL3 (j := 1) (by decide) (by decide)) (wg_da dt_law_0 27 rfl) ?_
  refine wl_callC hC [wl_a xs K 1] [] (wg_da dt_law_0 28 rfl) ⟨wq_3_36, wq_3_37, wq_3_38⟩ rfl wy_X11_state (m_X11_state l Ec 281 (wl_a xs K 1) (by decide +kernel) _ _ h1) rfl rfl (Nat.le_of_ble_eq_true rfl) ⟨rfl, rfl, by decide, by decide⟩ ?_
  refine wl_ld2 hC (wg_da dt_law_0 29 rfl) ?_
  refine wl_ld0 hC (wg_da dt_law_0 30 rfl) ?_
  refine wl_ldi hC (wg_da dt_law_0 31 rfl) ?_
  refine wl_iconst hC (1 : Int32) (by decide) (wg_da dt_law_0 32 rfl) ?_
  refine wl_iadd hC (wg_da dt_law_0 33 rfl) ?_
  refine wl_iald hC (wl_ix hK hL3 (j := 1) (by decide) (by decide)) (wg_da dt_law_0 34 rfl) ?_
  refine wl_callM hC [wl_a xs K 1] [.int r] (wg_da dt_law_0 35 rfl) ⟨wq_7_74, wq_7_75, wq_7_76⟩ rfl wy_X12_state (m_X12_state l Em 0 (wl_a xs K 1) (by decide +kernel) _ _ h2) rfl rfl (Nat.le_of_ble_eq_true rfl) ⟨rfl, rfl, by decide, by decide⟩ ?_
  exact wl_icmp_eq hC 1483 (wg_da dt_law_0 36 rfl) (by decide) k
theorem wl_case_wig (hC : wl_C p s m meth c b L xs Ec Em kc ks) (hK : K + 6 ≤ L) {r : Int32} {σc1 σm1 : wg_M} (h1 : f_X11_wig 281 (wl_a xs K 1) (wl_a xs K 2) σc = some (r, σc1)) (h2 : f_X12_wig 0 (wl_a xs K 1) (wl_a xs K 2) σm = some (r, σm1)) (k : wl_G p l e s m below meth c b Ec Em kc ks 1483 (nI K) [] σc1 σm1) : wl_G p l e s m below meth c b Ec Em kc ks 227 (nI K) [] σc σm := by
  have hL3 := hC.2.1
  refine wl_ld1 hC (wg_da dt_law_0 39 rfl) ?_
  refine wl_ld0 hC (wg_da dt_law_0 40 rfl) ?_
  refine wl_ldi hC (wg_da dt_law_0 41 rfl) ?_
  refine wl_iconst hC (1 : Int32) (by decide) (wg_da dt_law_0 42 rfl) ?_
  refine wl_iadd hC (wg_da dt_law_0 43 rfl) ?_
  refine wl_iald hC (wl_ix hK hL3 (j := 1) (by decide) (by decide)) (wg_da dt_law_0 44 rfl) ?_
  refine wl_ld0 hC (wg_da dt_law_0 45 rfl) ?_
  refine wl_ldi hC (wg_da dt_law_0 46 rfl) ?_
  refine wl_iconst hC (2 : Int32) (by decide) (wg_da dt_law_0 47 rfl) ?_
  refine wl_iadd hC (wg_da dt_law_0 48 rfl) ?_
  refine wl_iald hC (wl_ix hK hL3 (j := 2) (by decide) (by decide)) (wg_da dt_law_0 49 rfl) ?_
  refine wl_callC hC [wl_a xs K 1, wl_a xs K 2] [] (wg_da dt_law_0 50 rfl) ⟨wq_3_44, wq_3_45, wq_3_46⟩ rfl wy_X11_wig (m_X11_wig l Ec 281 (wl_a xs K 1) (wl_a xs K 2) (by decide +kernel) _ _ h1) rfl rfl (Nat.le_of_ble_eq_true rfl) ⟨rfl, rfl, by decide, by decide⟩ ?_
  refine wl_ld2 hC (wg_da dt_law_0 51 rfl) ?_
  refine wl_ld0 hC (wg_da dt_law_0 52 rfl) ?_
  refine wl_ldi hC (wg_da dt_law_0 53 rfl) ?_
  refine wl_iconst hC (1 : Int32) (by decide) (wg_da dt_law_0 54 rfl) ?_
  refine wl_iadd hC (wg_da dt_law_0 55 rfl) ?_
  refine wl_iald hC (wl_ix hK hL3 (j := 1) (by decide) (by decide)) (wg_da dt_law_0 56 rfl) ?_
  refine wl_ld0 hC (wg_da dt_law_0 57 rfl) ?_
  refine wl_ldi hC (wg_da dt_law_0 58 rfl) ?_
  refine wl_iconst hC (2 : Int32) (by decide) (wg_da dt_law_0 59 rfl) ?_
  refine wl_iadd hC (wg_da dt_law_1 0 rfl) ?_
  refine wl_iald hC (wl_ix hK hL3 (j := 2) (by decide) (by decide)) (wg_da dt_law_1 1 rfl) ?_
  refine wl_callM hC [wl_a xs K 1, wl_a xs K 2] [.int r] (wg_da dt_law_1 2 rfl) ⟨wq_7_78, wq_7_79, wq_7_80⟩ rfl wy_X12_wig (m_X12_wig l Em 0 (wl_a xs K 1) (wl_a xs K 2) (by decide +kernel) _ _ h2) rfl rfl (Nat.le_of_ble_eq_true rfl) ⟨rfl, rfl, by decide, by decide⟩ ?_
  exact wl_icmp_eq hC 1483 (wg_da dt_law_1 3 rfl) (by decide) k
theorem wl_case_judge (hC : wl_C p s m meth c b L xs Ec Em kc ks) (hK : K + 6 ≤ L) {r : Int32} {σc1 σm1 : wg_M} (h1 : f_X11_judge 281 (wl_a xs K 1) (wl_a xs K 2) σc = some (r, σc1)) (h2 : f_X12_judge 0 (wl_a xs K 1) (wl_a xs K 2) σm = some (r, σm1)) (k : wl_G p l e s m below meth c b Ec Em kc ks 1483 (nI K) [] σc1 σm1) : wl_G p l e s m below meth c b Ec Em kc ks 260 (nI K) [] σc σm := by
  have hL3 := hC.2.1
  refine wl_ld1 hC (wg_da dt_law_1 6 rfl) ?_
  refine wl_ld0 hC (wg_da dt_law_1 7 rfl) ?_
  refine wl_ldi hC (wg_da dt_law_1 8 rfl) ?_
  refine wl_iconst hC (1 : Int32) (by decide) (wg_da dt_law_1 9 rfl) ?_
  refine wl_iadd hC (wg_da dt_law_1 10 rfl) ?_
  refine wl_iald hC (wl_ix hK hL3 (j := 1) (by decide) (by decide)) (wg_da dt_law_1 11 rfl) ?_
  refine wl_ld0 hC (wg_da dt_law_1 12 rfl) ?_
  refine wl_ldi hC (wg_da dt_law_1 13 rfl) ?_
  refine wl_iconst hC (2 : Int32) (by decide) (wg_da dt_law_1 14 rfl) ?_
  refine wl_iadd hC (wg_da dt_law_1 15 rfl) ?_
  refine wl_iald hC (wl_ix hK hL3 (j := 2) (by decide) (by decide)) (wg_da dt_law_1 16 rfl) ?_
  refine wl_callC hC [wl_a xs K 1, wl_a xs K 2] [] (wg_da dt_law_1 17 rfl) ⟨wq_3_55, wq_3_56, wq_3_57⟩ rfl wy_X11_judge (m_X11_judge l Ec 281 (wl_a xs K 1) (wl_a xs K 2) (by decide +kernel) _ _ h1) rfl rfl (Nat.le_of_ble_eq_true rfl) ⟨rfl, rfl, by decide, by decide⟩ ?_
  refine wl_ld2 hC (wg_da dt_law_1 18 rfl) ?_
  refine wl_ld0 hC (wg_da dt_law_1 19 rfl) ?_
  refine wl_ldi hC (wg_da dt_law_1 20 rfl) ?_
  refine wl_iconst hC (1 : Int32) (by decide) (wg_da dt_law_1 21 rfl) ?_
  refine wl_iadd hC (wg_da dt_law_1 22 rfl) ?_
  refine wl_iald hC (wl_ix hK hL3 (j := 1) (by decide) (by decide)) (wg_da dt_law_1 23 rfl) ?_
  refine wl_ld0 hC (wg_da dt_law_1 24 rfl) ?_
  refine wl_ldi hC (wg_da dt_law_1 25 rfl) ?_
  refine wl_iconst hC (2 : Int32) (by decide) (wg_da dt_law_1 26 rfl) ?_
  refine wl_iadd hC (wg_da dt_law_1 27 rfl) ?_
  refine wl_iald hC (wl_ix hK hL3 (j := 2) (by decide) (by decide)) (wg_da dt_law_1 28 rfl) ?_
  refine wl_callM hC [wl_a xs K 1, wl_a xs K 2] [.int r] (wg_da dt_law_1 29 rfl) ⟨wq_7_86, wq_7_87, wq_7_88⟩ rfl wy_X12_judge (m_X12_judge l Em 0 (wl_a xs K 1) (wl_a xs K 2) (by decide +kernel) _ _ h2) rfl rfl (Nat.le_of_ble_eq_true rfl) ⟨rfl, rfl, by decide, by decide⟩ ?_
  exact wl_icmp_eq hC 1483 (wg_da dt_law_1 30 rfl) (by decide) k
theorem wl_case_trial (hC : wl_C p s m meth c b L xs Ec Em kc ks) (hK : K + 6 ≤ L) {r : Int32} {σc1 σm1 : wg_M} (h1 : f_X11_trial 281 (wl_a xs K 1) (wl_a xs K 2) σc = some (r, σc1)) (h2 : f_X12_trial 0 (wl_a xs K 1) (wl_a xs K 2) σm = some (r, σm1)) (k : wl_G p l e s m below meth c b Ec Em kc ks 1483 (nI K) [] σc1 σm1) : wl_G p l e s m below meth c b Ec Em kc ks 293 (nI K) [] σc σm := by
  have hL3 := hC.2.1
  refine wl_ld1 hC (wg_da dt_law_1 33 rfl) ?_
  refine wl_ld0 hC (wg_da dt_law_1 34 rfl) ?_
  refine wl_ldi hC (wg_da dt_law_1 35 rfl) ?_
  refine wl_iconst hC (1 : Int32) (by decide) (wg_da dt_law_1 36 rfl) ?_
  refine wl_iadd hC (wg_da dt_law_1 37 rfl) ?_
  refine wl_iald hC (wl_ix hK hL3 (j := 1) (by decide) (by decide)) (wg_da dt_law_1 38 rfl) ?_
  refine wl_ld0 hC (wg_da dt_law_1 39 rfl) ?_
  refine wl_ldi hC (wg_da dt_law_1 40 rfl) ?_
  refine wl_iconst hC (2 : Int32) (by decide) (wg_da dt_law_1 41 rfl) ?_
  refine wl_iadd hC (wg_da dt_law_1 42 rfl) ?_
  refine wl_iald hC (wl_ix hK hL3 (j := 2) (by decide) (by decide)) (wg_da dt_law_1 43 rfl) ?_
  refine wl_callC hC [wl_a xs K 1, wl_a xs K 2] [] (wg_da dt_law_1 44 rfl) ⟨wq_3_63, wq_3_64, wq_3_65⟩ rfl wy_X11_trial (m_X11_trial l Ec 281 (wl_a xs K 1) (wl_a xs K 2) (by decide +kernel) _ _ h1) rfl rfl (Nat.le_of_ble_eq_true rfl) ⟨rfl, rfl, by decide, by decide⟩ ?_
  refine wl_ld2 hC (wg_da dt_law_1 45 rfl) ?_
  refine wl_ld0 hC (wg_da dt_law_1 46 rfl) ?_
  refine wl_ldi hC (wg_da dt_law_1 47 rfl) ?_
  refine wl_iconst hC (1 : Int32) (by decide) (wg_da dt_law_1 48 rfl) ?_
  refine wl_iadd hC (wg_da dt_law_1 49 rfl) ?_
  refine wl_iald hC (wl_ix hK hL3 (j := 1) (by decide) (by decide)) (wg_da dt_law_1 50 rfl) ?_
  refine wl_ld0 hC (wg_da dt_law_1 51 rfl) ?_
  refine wl_ldi hC (wg_da dt_law_1 52 rfl) ?_
  refine wl_iconst hC (2 : Int32) (by decide) (wg_da dt_law_1 53 rfl) ?_
  refine wl_iadd hC (wg_da dt_law_1 54 rfl) ?_
  refine wl_iald hC (wl_ix hK hL3 (j := 2) (by decide) (by decide)) (wg_da dt_law_1 55 rfl) ?_
  refine wl_callM hC [wl_a xs K 1, wl_a xs K 2] [.int r] (wg_da dt_law_1 56 rfl) ⟨wq_7_90, wq_7_91, wq_7_92⟩ rfl wy_X12_trial (m_X12_trial l Em 0 (wl_a xs K 1) (wl_a xs K 2) (by decide +kernel) _ _ h2) rfl rfl (Nat.le_of_ble_eq_true rfl) ⟨rfl, rfl, by decide, by decide⟩ ?_
  exact wl_icmp_eq hC 1483 (wg_da dt_law_1 57 rfl) (by decide) k
theorem wl_case_rule (hC : wl_C p s m meth c b L xs Ec Em kc ks) (hK : K + 6 ≤ L) {r : Int32} {σc1 σm1 : wg_M} (h1 : f_X11_rule 281 (wl_a xs K 1) (wl_a xs K 2) (wl_a xs K 3) (wl_a xs K 4) σc = some (r, σc1)) (h2 : f_X12_rule 0 (wl_a xs K 1) (wl_a xs K 2) (wl_a xs K 3) (wl_a xs K 4) σm = some (r, σm1)) (k : wl_G p l e s m below meth c b Ec Em kc ks 1483 (nI K) [] σc1 σm1) : wl_G p l e s m below meth c b Ec Em kc ks 326 (nI K) [] σc σm := by
  have hL3 := hC.2.1
  refine wl_ld1 hC (wg_da dt_law_2 0 rfl) ?_
  refine wl_ld0 hC (wg_da dt_law_2 1 rfl) ?_
  refine wl_ldi hC (wg_da dt_law_2 2 rfl) ?_
  refine wl_iconst hC (1 : Int32) (by decide) (wg_da dt_law_2 3 rfl) ?_
  refine wl_iadd hC (wg_da dt_law_2 4 rfl) ?_
  refine wl_iald hC (wl_ix hK hL3 (j := 1) (by decide) (by decide)) (wg_da dt_law_2 5 rfl) ?_
  refine wl_ld0 hC (wg_da dt_law_2 6 rfl) ?_
  refine wl_ldi hC (wg_da dt_law_2 7 rfl) ?_
  refine wl_iconst hC (2 : Int32) (by decide) (wg_da dt_law_2 8 rfl) ?_
  refine wl_iadd hC (wg_da dt_law_2 9 rfl) ?_
  refine wl_iald hC (wl_ix hK hL3 (j := 2) (by decide) (by decide)) (wg_da dt_law_2 10 rfl) ?_
  refine wl_ld0 hC (wg_da dt_law_2 11 rfl) ?_
  refine wl_ldi hC (wg_da dt_law_2 12 rfl) ?_
  refine wl_iconst hC (3 : Int32) (by decide) (wg_da dt_law_2 13 rfl) ?_
  refine wl_iadd hC (wg_da dt_law_2 14 rfl) ?_
  refine wl_iald hC (wl_ix hK hL3 (j := 3) (by decide) (by decide)) (wg_da dt_law_2 15 rfl) ?_
  refine wl_ld0 hC (wg_da dt_law_2 16 rfl) ?_
  refine wl_ldi hC (wg_da dt_law_2 17 rfl) ?_
  refine wl_iconst hC (4 : Int32) (by decide) (wg_da dt_law_2 18 rfl) ?_
  refine wl_iadd hC (wg_da dt_law_2 19 rfl) ?_
  refine wl_iald hC (wl_ix hK hL3 (j := 4) (by decide) (by decide)) (wg_da dt_law_2 20 rfl) ?_
  refine wl_callC hC [wl_a xs K 1, wl_a xs K 2, wl_a xs K 3, wl_a xs K 4] [] (wg_da dt_law_2 21 rfl) ⟨wq_3_71, wq_3_72, wq_3_73⟩ rfl wy_X11_rule (m_X11_rule l Ec 281 (wl_a xs K 1) (wl_a xs K 2) (wl_a xs K 3) (wl_a xs K 4) (by decide +kernel) _ _ h1) rfl rfl (Nat.le_of_ble_eq_true rfl) ⟨rfl, rfl, by decide, by decide⟩ ?_
  refine wl_ld2 hC (wg_da dt_law_2 22 rfl) ?_
  refine wl_ld0 hC (wg_da dt_law_2 23 rfl) ?_
  refine wl_ldi hC (wg_da dt_law_2 24 rfl) ?_
  refine wl_iconst hC (1 : Int32) (by decide) (wg_da dt_law_2 25 rfl) ?_
  refine wl_iadd hC (wg_da dt_law_2 26 rfl) ?_
  refine wl_iald hC (wl_ix hK hL3 (j := 1) (by decide) (by decide)) (wg_da dt_law_2 27 rfl) ?_
  refine wl_ld0 hC (wg_da dt_law_2 28 rfl) ?_
  refine wl_ldi hC (wg_da dt_law_2 29 rfl) ?_
  refine wl_iconst hC (2 : Int32) (by decide) (wg_da dt_law_2 30 rfl) ?_
  refine wl_iadd hC (wg_da dt_law_2 31 rfl) ?_
  refine wl_iald hC (wl_ix hK hL3 (j := 2) (by decide) (by decide)) (wg_da dt_law_2 32 rfl) ?_
  refine wl_ld0 hC (wg_da dt_law_2 33 rfl) ?_
  refine wl_ldi hC (wg_da dt_law_2 34 rfl) ?_
  refine wl_iconst hC (3 : Int32) (by decide) (wg_da dt_law_2 35 rfl) ?_
  refine wl_iadd hC (wg_da dt_law_2 36 rfl) ?_
  refine wl_iald hC (wl_ix hK hL3 (j := 3) (by decide) (by decide)) (wg_da dt_law_2 37 rfl) ?_
  refine wl_ld0 hC (wg_da dt_law_2 38 rfl) ?_
  refine wl_ldi hC (wg_da dt_law_2 39 rfl) ?_
  refine wl_iconst hC (4 : Int32) (by decide) (wg_da dt_law_2 40 rfl) ?_
  refine wl_iadd hC (wg_da dt_law_2 41 rfl) ?_
  refine wl_iald hC (wl_ix hK hL3 (j := 4) (by decide) (by decide)) (wg_da dt_law_2 42 rfl) ?_
  refine wl_callM hC [wl_a xs K 1, wl_a xs K 2, wl_a xs K 3, wl_a xs K 4] [.int r] (wg_da dt_law_2 43 rfl) ⟨wq_7_94, wq_7_95, wq_7_96⟩ rfl wy_X12_rule (m_X12_rule l Em 0 (wl_a xs K 1) (wl_a xs K 2) (wl_a xs K 3) (wl_a xs K 4) (by decide +kernel) _ _ h2) rfl rfl (Nat.le_of_ble_eq_true rfl) ⟨rfl, rfl, by decide, by decide⟩ ?_
  exact wl_icmp_eq hC 1483 (wg_da dt_law_2 44 rfl) (by decide) k
theorem wl_case_set (hC : wl_C p s m meth c b L xs Ec Em kc ks) (hK : K + 6 ≤ L) {r : Int32} {σc1 σm1 : wg_M} (h1 : f_X11_set 281 (wl_a xs K 1) (wl_a xs K 2) (wl_a xs K 3) σc = some (r, σc1)) (h2 : f_X12_set 0 (wl_a xs K 1) (wl_a xs K 2) (wl_a xs K 3) σm = some (r, σm1)) (k : wl_G p l e s m below meth c b Ec Em kc ks 1483 (nI K) [] σc1 σm1) : wl_G p l e s m below meth c b Ec Em kc ks 379 (nI K) [] σc σm := by
  have hL3 := hC.2.1
  refine wl_ld1 hC (wg_da dt_law_2 47 rfl) ?_
  refine wl_ld0 hC (wg_da dt_law_2 48 rfl) ?_
  refine wl_ldi hC (wg_da dt_law_2 49 rfl) ?_
  refine wl_iconst hC (1 : Int32) (by decide) (wg_da dt_law_2 50 rfl) ?_
  refine wl_iadd hC (wg_da dt_law_2 51 rfl) ?_
  refine wl_iald hC (wl_ix hK hL3 (j := 1) (by decide) (by decide)) (wg_da dt_law_2 52 rfl) ?_
  refine wl_ld0 hC (wg_da dt_law_2 53 rfl) ?_
  refine wl_ldi hC (wg_da dt_law_2 54 rfl) ?_
  refine wl_iconst hC (2 : Int32) (by decide) (wg_da dt_law_2 55 rfl) ?_
  refine wl_iadd hC (wg_da dt_law_2 56 rfl) ?_
  refine wl_iald hC (wl_ix hK hL3 (j := 2) (by decide) (by decide)) (wg_da dt_law_2 57 rfl) ?_
  refine wl_ld0 hC (wg_da dt_law_2 58 rfl) ?_
  refine wl_ldi hC (wg_da dt_law_2 59 rfl) ?_
  refine wl_iconst hC (3 : Int32) (by decide) (wg_da dt_law_3 0 rfl) ?_
  refine wl_iadd hC (wg_da dt_law_3 1 rfl) ?_
  refine wl_iald hC (wl_ix hK hL3 (j := 3) (by decide) (by decide)) (wg_da dt_law_3 2 rfl) ?_
  refine wl_callC hC [wl_a xs K 1, wl_a xs K 2, wl_a xs K 3] [] (wg_da dt_law_3 3 rfl) ⟨wq_3_100, wq_3_101, wq_3_102⟩ rfl wy_X11_set (m_X11_set l Ec 281 (wl_a xs K 1) (wl_a xs K 2) (wl_a xs K 3) (by decide +kernel) _ _ h1) rfl rfl (Nat.le_of_ble_eq_true rfl) ⟨rfl, rfl, by decide, by decide⟩ ?_
  refine wl_ld2 hC (wg_da dt_law_3 4 rfl) ?_
  refine wl_ld0 hC (wg_da dt_law_3 5 rfl) ?_
  refine wl_ldi hC (wg_da dt_law_3 6 rfl) ?_
  refine wl_iconst hC (1 : Int32) (by decide) (wg_da dt_law_3 7 rfl) ?_
  refine wl_iadd hC (wg_da dt_law_3 8 rfl) ?_
  refine wl_iald hC (wl_ix hK hL3 (j := 1) (by decide) (by decide)) (wg_da dt_law_3 9 rfl) ?_
  refine wl_ld0 hC (wg_da dt_law_3 10 rfl) ?_
  refine wl_ldi hC (wg_da dt_law_3 11 rfl) ?_
  refine wl_iconst hC (2 : Int32) (by decide) (wg_da dt_law_3 12 rfl) ?_
  refine wl_iadd hC (wg_da dt_law_3 13 rfl) ?_
  refine wl_iald hC (wl_ix hK hL3 (j := 2) (by decide) (by decide)) (wg_da dt_law_3 14 rfl) ?_
  refine wl_ld0 hC (wg_da dt_law_3 15 rfl) ?_
  refine wl_ldi hC (wg_da dt_law_3 16 rfl) ?_
  refine wl_iconst hC (3 : Int32) (by decide) (wg_da dt_law_3 17 rfl) ?_
  refine wl_iadd hC (wg_da dt_law_3 18 rfl) ?_
  refine wl_iald hC (wl_ix hK hL3 (j := 3) (by decide) (by decide)) (wg_da dt_law_3 19 rfl) ?_
  refine wl_callM hC [wl_a xs K 1, wl_a xs K 2, wl_a xs K 3] [.int r] (wg_da dt_law_3 20 rfl) ⟨wq_7_122, wq_7_123, wq_7_124⟩ rfl wy_X12_set (m_X12_set l Em 0 (wl_a xs K 1) (wl_a xs K 2) (wl_a xs K 3) (by decide +kernel) _ _ h2) rfl rfl (Nat.le_of_ble_eq_true rfl) ⟨rfl, rfl, by decide, by decide⟩ ?_
  exact wl_icmp_eq hC 1483 (wg_da dt_law_3 21 rfl) (by decide) k
theorem wl_case_tries (hC : wl_C p s m meth c b L xs Ec Em kc ks) (hK : K + 6 ≤ L) {r : Int32} {σc1 σm1 : wg_M} (h1 : f_X11_tries 281 (wl_a xs K 1) (wl_a xs K 2) σc = some (r, σc1)) (h2 : f_X12_tries 0 (wl_a xs K 1) (wl_a xs K 2) σm = some (r, σm1)) (k : wl_G p l e s m below meth c b Ec Em kc ks 1483 (nI K) [] σc1 σm1) : wl_G p l e s m below meth c b Ec Em kc ks 422 (nI K) [] σc σm := by
  have hL3 := hC.2.1
  refine wl_ld1 hC (wg_da dt_law_3 24 rfl) ?_
  refine wl_ld0 hC (wg_da dt_law_3 25 rfl) ?_
  refine wl_ldi hC (wg_da dt_law_3 26 rfl) ?_
  refine wl_iconst hC (1 : Int32) (by decide) (wg_da dt_law_3 27 rfl) ?_
  refine wl_iadd hC (wg_da dt_law_3 28 rfl) ?_
  refine wl_iald hC (wl_ix hK hL3 (j := 1) (by decide) (by decide)) (wg_da dt_law_3 29 rfl) ?_
  refine wl_ld0 hC (wg_da dt_law_3 30 rfl) ?_
  refine wl_ldi hC (wg_da dt_law_3 31 rfl) ?_
  refine wl_iconst hC (2 : Int32) (by decide) (wg_da dt_law_3 32 rfl) ?_
  refine wl_iadd hC (wg_da dt_law_3 33 rfl) ?_
  refine wl_iald hC (wl_ix hK hL3 (j := 2) (by decide) (by decide)) (wg_da dt_law_3 34 rfl) ?_
  refine wl_callC hC [wl_a xs K 1, wl_a xs K 2] [] (wg_da dt_law_3 35 rfl) ⟨wq_3_116, wq_3_117, wq_3_118⟩ rfl wy_X11_tries (m_X11_tries l Ec 281 (wl_a xs K 1) (wl_a xs K 2) (by decide +kernel) _ _ h1) rfl rfl (Nat.le_of_ble_eq_true rfl) ⟨rfl, rfl, by decide, by decide⟩ ?_
  refine wl_ld2 hC (wg_da dt_law_3 36 rfl) ?_
  refine wl_ld0 hC (wg_da dt_law_3 37 rfl) ?_
  refine wl_ldi hC (wg_da dt_law_3 38 rfl) ?_
  refine wl_iconst hC (1 : Int32) (by decide) (wg_da dt_law_3 39 rfl) ?_
  refine wl_iadd hC (wg_da dt_law_3 40 rfl) ?_
  refine wl_iald hC (wl_ix hK hL3 (j := 1) (by decide) (by decide)) (wg_da dt_law_3 41 rfl) ?_
  refine wl_ld0 hC (wg_da dt_law_3 42 rfl) ?_
  refine wl_ldi hC (wg_da dt_law_3 43 rfl) ?_
  refine wl_iconst hC (2 : Int32) (by decide) (wg_da dt_law_3 44 rfl) ?_
  refine wl_iadd hC (wg_da dt_law_3 45 rfl) ?_
  refine wl_iald hC (wl_ix hK hL3 (j := 2) (by decide) (by decide)) (wg_da dt_law_3 46 rfl) ?_
  refine wl_callM hC [wl_a xs K 1, wl_a xs K 2] [.int r] (wg_da dt_law_3 47 rfl) ⟨wq_8_54, wq_8_55, wq_8_56⟩ rfl wy_X12_tries (m_X12_tries l Em 0 (wl_a xs K 1) (wl_a xs K 2) (by decide +kernel) _ _ h2) rfl rfl (Nat.le_of_ble_eq_true rfl) ⟨rfl, rfl, by decide, by decide⟩ ?_
  exact wl_icmp_eq hC 1483 (wg_da dt_law_3 48 rfl) (by decide) k
theorem wl_case_act (hC : wl_C p s m meth c b L xs Ec Em kc ks) (hK : K + 6 ≤ L) {r : Int32} {σc1 σm1 : wg_M} (h1 : f_X11_act 281 (wl_a xs K 1) (wl_a xs K 2) (wl_a xs K 3) σc = some (r, σc1)) (h2 : f_X12_act 0 (wl_a xs K 1) (wl_a xs K 2) (wl_a xs K 3) σm = some (r, σm1)) (k : wl_G p l e s m below meth c b Ec Em kc ks 1483 (nI K) [] σc1 σm1) : wl_G p l e s m below meth c b Ec Em kc ks 455 (nI K) [] σc σm := by
  have hL3 := hC.2.1
  refine wl_ld1 hC (wg_da dt_law_3 51 rfl) ?_
  refine wl_ld0 hC (wg_da dt_law_3 52 rfl) ?_
  refine wl_ldi hC (wg_da dt_law_3 53 rfl) ?_
  refine wl_iconst hC (1 : Int32) (by decide) (wg_da dt_law_3 54 rfl) ?_
  refine wl_iadd hC (wg_da dt_law_3 55 rfl) ?_
  refine wl_iald hC (wl_ix hK hL3 (j := 1) (by decide) (by decide)) (wg_da dt_law_3 56 rfl) ?_
  refine wl_ld0 hC (wg_da dt_law_3 57 rfl) ?_
  refine wl_ldi hC (wg_da dt_law_3 58 rfl) ?_
  refine wl_iconst hC (2 : Int32) (by decide) (wg_da dt_law_3 59 rfl) ?_
  refine wl_iadd hC (wg_da dt_law_4 0 rfl) ?_
  refine wl_iald hC (wl_ix hK hL3 (j := 2) (by decide) (by decide)) (wg_da dt_law_4 1 rfl) ?_
  refine wl_ld0 hC (wg_da dt_law_4 2 rfl) ?_
  refine wl_ldi hC (wg_da dt_law_4 3 rfl) ?_
  refine wl_iconst hC (3 : Int32) (by decide) (wg_da dt_law_4 4 rfl) ?_
  refine wl_iadd hC (wg_da dt_law_4 5 rfl) ?_
  refine wl_iald hC (wl_ix hK hL3 (j := 3) (by decide) (by decide)) (wg_da dt_law_4 6 rfl) ?_
  refine wl_callC hC [wl_a xs K 1, wl_a xs K 2, wl_a xs K 3] [] (wg_da dt_law_4 7 rfl) ⟨wq_3_223, wq_3_224, wq_3_225⟩ rfl wy_X11_act (m_X11_act l Ec 281 (wl_a xs K 1) (wl_a xs K 2) (wl_a xs K 3) (by decide +kernel) _ _ h1) rfl rfl (Nat.le_of_ble_eq_true rfl) ⟨rfl, rfl, by decide, by decide⟩ ?_
  refine wl_ld2 hC (wg_da dt_law_4 8 rfl) ?_
  refine wl_ld0 hC (wg_da dt_law_4 9 rfl) ?_
  refine wl_ldi hC (wg_da dt_law_4 10 rfl) ?_
  refine wl_iconst hC (1 : Int32) (by decide) (wg_da dt_law_4 11 rfl) ?_
  refine wl_iadd hC (wg_da dt_law_4 12 rfl) ?_
  refine wl_iald hC (wl_ix hK hL3 (j := 1) (by decide) (by decide)) (wg_da dt_law_4 13 rfl) ?_
  refine wl_ld0 hC (wg_da dt_law_4 14 rfl) ?_
  refine wl_ldi hC (wg_da dt_law_4 15 rfl) ?_
  refine wl_iconst hC (2 : Int32) (by decide) (wg_da dt_law_4 16 rfl) ?_
  refine wl_iadd hC (wg_da dt_law_4 17 rfl) ?_
  refine wl_iald hC (wl_ix hK hL3 (j := 2) (by decide) (by decide)) (wg_da dt_law_4 18 rfl) ?_
  refine wl_ld0 hC (wg_da dt_law_4 19 rfl) ?_
  refine wl_ldi hC (wg_da dt_law_4 20 rfl) ?_
  refine wl_iconst hC (3 : Int32) (by decide) (wg_da dt_law_4 21 rfl) ?_
  refine wl_iadd hC (wg_da dt_law_4 22 rfl) ?_
  refine wl_iald hC (wl_ix hK hL3 (j := 3) (by decide) (by decide)) (wg_da dt_law_4 23 rfl) ?_
  refine wl_callM hC [wl_a xs K 1, wl_a xs K 2, wl_a xs K 3] [.int r] (wg_da dt_law_4 24 rfl) ⟨wq_8_126, wq_8_127, wq_8_128⟩ rfl wy_X12_act (m_X12_act l Em 0 (wl_a xs K 1) (wl_a xs K 2) (wl_a xs K 3) (by decide +kernel) _ _ h2) rfl rfl (Nat.le_of_ble_eq_true rfl) ⟨rfl, rfl, by decide, by decide⟩ ?_
  exact wl_icmp_eq hC 1483 (wg_da dt_law_4 25 rfl) (by decide) k
theorem wl_case_years (hC : wl_C p s m meth c b L xs Ec Em kc ks) (hK : K + 6 ≤ L) {r : Int32} {σc1 σm1 : wg_M} (h1 : f_X11_years 281 (wl_a xs K 1) σc = some (r, σc1)) (h2 : f_X12_years 0 (wl_a xs K 1) σm = some (r, σm1)) (k : wl_G p l e s m below meth c b Ec Em kc ks 1483 (nI K) [] σc1 σm1) : wl_G p l e s m below meth c b Ec Em kc ks 498 (nI K) [] σc σm := by
  have hL3 := hC.2.1
  refine wl_ld1 hC (wg_da dt_law_4 28 rfl) ?_
  refine wl_ld0 hC (wg_da dt_law_4 29 rfl) ?_
  refine wl_ldi hC (wg_da dt_law_4 30 rfl) ?_
  refine wl_iconst hC (1 : Int32) (by decide) (wg_da dt_law_4 31 rfl) ?_
  refine wl_iadd hC (wg_da dt_law_4 32 rfl) ?_
  refine wl_iald hC (wl_ix hK hL3 (j := 1) (by decide) (by decide)) (wg_da dt_law_4 33 rfl) ?_
  refine wl_callC hC [wl_a xs K 1] [] (wg_da dt_law_4 34 rfl) ⟨wq_4_22, wq_4_23, wq_4_24⟩ rfl wy_X11_years (m_X11_years l Ec 281 (wl_a xs K 1) (by decide +kernel) _ _ h1) rfl rfl (Nat.le_of_ble_eq_true rfl) ⟨rfl, rfl, by decide, by decide⟩ ?_
  refine wl_ld2 hC (wg_da dt_law_4 35 rfl) ?_
  refine wl_ld0 hC (wg_da dt_law_4 36 rfl) ?_
  refine wl_ldi hC (wg_da dt_law_4 37 rfl) ?_
  refine wl_iconst hC (1 : Int32) (by decide) (wg_da dt_law_4 38 rfl) ?_
  refine wl_iadd hC (wg_da dt_law_4 39 rfl) ?_
  refine wl_iald hC (wl_ix hK hL3 (j := 1) (by decide) (by decide)) (wg_da dt_law_4 40 rfl) ?_
  refine wl_callM hC [wl_a xs K 1] [.int r] (wg_da dt_law_4 41 rfl) ⟨wq_8_166, wq_8_167, wq_8_168⟩ rfl wy_X12_years (m_X12_years l Em 0 (wl_a xs K 1) (by decide +kernel) _ _ h2) rfl rfl (Nat.le_of_ble_eq_true rfl) ⟨rfl, rfl, by decide, by decide⟩ ?_
  exact wl_icmp_eq hC 1483 (wg_da dt_law_4 42 rfl) (by decide) k
theorem wl_case_feed (hC : wl_C p s m meth c b L xs Ec Em kc ks) (hK : K + 6 ≤ L) {r : Int32} {σc1 σm1 : wg_M} (h1 : f_X11_feed 281 (wl_a xs K 1) (wl_a xs K 2) (wl_a xs K 3) (wl_a xs K 4) (wl_a xs K 5) σc = some (r, σc1)) (h2 : f_X12_feed 0 (wl_a xs K 1) (wl_a xs K 2) (wl_a xs K 3) (wl_a xs K 4) (wl_a xs K 5) σm = some (r, σm1)) (k : wl_G p l e s m below meth c b Ec Em kc ks 1483 (nI K) [] σc1 σm1) : wl_G p l e s m below meth c b Ec Em kc ks 521 (nI K) [] σc σm := by
  have hL3 := hC.2.1
  refine wl_ld1 hC (wg_da dt_law_4 45 rfl) ?_
  refine wl_ld0 hC (wg_da dt_law_4 46 rfl) ?_
  refine wl_ldi hC (wg_da dt_law_4 47 rfl) ?_
  refine wl_iconst hC (1 : Int32) (by decide) (wg_da dt_law_4 48 rfl) ?_
  refine wl_iadd hC (wg_da dt_law_4 49 rfl) ?_
  refine wl_iald hC (wl_ix hK hL3 (j := 1) (by decide) (by decide)) (wg_da dt_law_4 50 rfl) ?_
  refine wl_ld0 hC (wg_da dt_law_4 51 rfl) ?_
  refine wl_ldi hC (wg_da dt_law_4 52 rfl) ?_
  refine wl_iconst hC (2 : Int32) (by decide) (wg_da dt_law_4 53 rfl) ?_
  refine wl_iadd hC (wg_da dt_law_4 54 rfl) ?_
  refine wl_iald hC (wl_ix hK hL3 (j := 2) (by decide) (by decide)) (wg_da dt_law_4 55 rfl) ?_
  refine wl_ld0 hC (wg_da dt_law_4 56 rfl) ?_
  refine wl_ldi hC (wg_da dt_law_4 57 rfl) ?_
  refine wl_iconst hC (3 : Int32) (by decide) (wg_da dt_law_4 58 rfl) ?_
  refine wl_iadd hC (wg_da dt_law_4 59 rfl) ?_
  refine wl_iald hC (wl_ix hK hL3 (j := 3) (by decide) (by decide)) (wg_da dt_law_5 0 rfl) ?_
  refine wl_ld0 hC (wg_da dt_law_5 1 rfl) ?_
  refine wl_ldi hC (wg_da dt_law_5 2 rfl) ?_
  refine wl_iconst hC (4 : Int32) (by decide) (wg_da dt_law_5 3 rfl) ?_
  refine wl_iadd hC (wg_da dt_law_5 4 rfl) ?_
  refine wl_iald hC (wl_ix hK hL3 (j := 4) (by decide) (by decide)) (wg_da dt_law_5 5 rfl) ?_
  refine wl_ld0 hC (wg_da dt_law_5 6 rfl) ?_
  refine wl_ldi hC (wg_da dt_law_5 7 rfl) ?_
  refine wl_iconst hC (5 : Int32) (by decide) (wg_da dt_law_5 8 rfl) ?_
  refine wl_iadd hC (wg_da dt_law_5 9 rfl) ?_
  refine wl_iald hC (wl_ix hK hL3 (j := 5) (by decide) (by decide)) (wg_da dt_law_5 10 rfl) ?_
  refine wl_callC hC [wl_a xs K 1, wl_a xs K 2, wl_a xs K 3, wl_a xs K 4, wl_a xs K 5] [] (wg_da dt_law_5 11 rfl) ⟨wq_4_65, wq_4_66, wq_4_67⟩ rfl wy_X11_feed (m_X11_feed l Ec 281 (wl_a xs K 1) (wl_a xs K 2) (wl_a xs K 3) (wl_a xs K 4) (wl_a xs K 5) (by decide +kernel) _ _ h1) rfl rfl (Nat.le_of_ble_eq_true rfl) ⟨rfl, rfl, by decide, by decide⟩ ?_
  refine wl_ld2 hC (wg_da dt_law_5 12 rfl) ?_
  refine wl_ld0 hC (wg_da dt_law_5 13 rfl) ?_
  refine wl_ldi hC (wg_da dt_law_5 14 rfl) ?_
  refine wl_iconst hC (1 : Int32) (by decide) (wg_da dt_law_5 15 rfl) ?_
  refine wl_iadd hC (wg_da dt_law_5 16 rfl) ?_
  refine wl_iald hC (wl_ix hK hL3 (j := 1) (by decide) (by decide)) (wg_da dt_law_5 17 rfl) ?_
  refine wl_ld0 hC (wg_da dt_law_5 18 rfl) ?_
  refine wl_ldi hC (wg_da dt_law_5 19 rfl) ?_
  refine wl_iconst hC (2 : Int32) (by decide) (wg_da dt_law_5 20 rfl) ?_
  refine wl_iadd hC (wg_da dt_law_5 21 rfl) ?_
  refine wl_iald hC (wl_ix hK hL3 (j := 2) (by decide) (by decide)) (wg_da dt_law_5 22 rfl) ?_
  refine wl_ld0 hC (wg_da dt_law_5 23 rfl) ?_
  refine wl_ldi hC (wg_da dt_law_5 24 rfl) ?_
  refine wl_iconst hC (3 : Int32) (by decide) (wg_da dt_law_5 25 rfl) ?_
  refine wl_iadd hC (wg_da dt_law_5 26 rfl) ?_
  refine wl_iald hC (wl_ix hK hL3 (j := 3) (by decide) (by decide)) (wg_da dt_law_5 27 rfl) ?_
  refine wl_ld0 hC (wg_da dt_law_5 28 rfl) ?_
  refine wl_ldi hC (wg_da dt_law_5 29 rfl) ?_
  refine wl_iconst hC (4 : Int32) (by decide) (wg_da dt_law_5 30 rfl) ?_
  refine wl_iadd hC (wg_da dt_law_5 31 rfl) ?_
  refine wl_iald hC (wl_ix hK hL3 (j := 4) (by decide) (by decide)) (wg_da dt_law_5 32 rfl) ?_
  refine wl_ld0 hC (wg_da dt_law_5 33 rfl) ?_
  refine wl_ldi hC (wg_da dt_law_5 34 rfl) ?_
  refine wl_iconst hC (5 : Int32) (by decide) (wg_da dt_law_5 35 rfl) ?_
  refine wl_iadd hC (wg_da dt_law_5 36 rfl) ?_
  refine wl_iald hC (wl_ix hK hL3 (j := 5) (by decide) (by decide)) (wg_da dt_law_5 37 rfl) ?_
  refine wl_callM hC [wl_a xs K 1, wl_a xs K 2, wl_a xs K 3, wl_a xs K 4, wl_a xs K 5] [.int r] (wg_da dt_law_5 38 rfl) ⟨wq_7_138, wq_7_139, wq_7_140⟩ rfl wy_X12_feed (m_X12_feed l Em 0 (wl_a xs K 1) (wl_a xs K 2) (wl_a xs K 3) (wl_a xs K 4) (wl_a xs K 5) (by decide +kernel) _ _ h2) rfl rfl (Nat.le_of_ble_eq_true rfl) ⟨rfl, rfl, by decide, by decide⟩ ?_
  exact wl_icmp_eq hC 1483 (wg_da dt_law_5 39 rfl) (by decide) k
theorem wl_case_end (hC : wl_C p s m meth c b L xs Ec Em kc ks) (hK : K + 6 ≤ L) {r : Int32} {σc1 σm1 : wg_M} (h1 : f_X11_end 281 (wl_a xs K 1) σc = some (r, σc1)) (h2 : f_X12_end 0 (wl_a xs K 1) σm = some (r, σm1)) (k : wl_G p l e s m below meth c b Ec Em kc ks 1483 (nI K) [] σc1 σm1) : wl_G p l e s m below meth c b Ec Em kc ks 584 (nI K) [] σc σm := by
  have hL3 := hC.2.1
  refine wl_ld1 hC (wg_da dt_law_5 42 rfl) ?_
  refine wl_ld0 hC (wg_da dt_law_5 43 rfl) ?_
  refine wl_ldi hC (wg_da dt_law_5 44 rfl) ?_
  refine wl_iconst hC (1 : Int32) (by decide) (wg_da dt_law_5 45 rfl) ?_
  refine wl_iadd hC (wg_da dt_law_5 46 rfl) ?_
  refine wl_iald hC (wl_ix hK hL3 (j := 1) (by decide) (by decide)) (wg_da dt_law_5 47 rfl) ?_
  refine wl_callC hC [wl_a xs K 1] [] (wg_da dt_law_5 48 rfl) ⟨wq_4_77, wq_4_78, wq_4_79⟩ rfl wy_X11_end (m_X11_end l Ec 281 (wl_a xs K 1) (by decide +kernel) _ _ h1) rfl rfl (Nat.le_of_ble_eq_true rfl) ⟨rfl, rfl, by decide, by decide⟩ ?_
  refine wl_ld2 hC (wg_da dt_law_5 49 rfl) ?_
  refine wl_ld0 hC (wg_da dt_law_5 50 rfl) ?_
  refine wl_ldi hC (wg_da dt_law_5 51 rfl) ?_
  refine wl_iconst hC (1 : Int32) (by decide) (wg_da dt_law_5 52 rfl) ?_
  refine wl_iadd hC (wg_da dt_law_5 53 rfl) ?_
  refine wl_iald hC (wl_ix hK hL3 (j := 1) (by decide) (by decide)) (wg_da dt_law_5 54 rfl) ?_
  refine wl_callM hC [wl_a xs K 1] [.int r] (wg_da dt_law_5 55 rfl) ⟨wq_7_146, wq_7_147, wq_7_148⟩ rfl wy_X12_end (m_X12_end l Em 0 (wl_a xs K 1) (by decide +kernel) _ _ h2) rfl rfl (Nat.le_of_ble_eq_true rfl) ⟨rfl, rfl, by decide, by decide⟩ ?_
  exact wl_icmp_eq hC 1483 (wg_da dt_law_5 56 rfl) (by decide) k
theorem wl_case_text (hC : wl_C p s m meth c b L xs Ec Em kc ks) (hK : K + 6 ≤ L) {r : Int32} {σc1 σm1 : wg_M} (h1 : f_X11_text 281 (wl_a xs K 1) σc = some (r, σc1)) (h2 : f_X12_text 0 (wl_a xs K 1) σm = some (r, σm1)) (k : wl_G p l e s m below meth c b Ec Em kc ks 1483 (nI K) [] σc1 σm1) : wl_G p l e s m below meth c b Ec Em kc ks 607 (nI K) [] σc σm := by
  have hL3 := hC.2.1
  refine wl_ld1 hC (wg_da dt_law_5 59 rfl) ?_
  refine wl_ld0 hC (wg_da dt_law_6 0 rfl) ?_
  refine wl_ldi hC (wg_da dt_law_6 1 rfl) ?_
  refine wl_iconst hC (1 : Int32) (by decide) (wg_da dt_law_6 2 rfl) ?_
  refine wl_iadd hC (wg_da dt_law_6 3 rfl) ?_
  refine wl_iald hC (wl_ix hK hL3 (j := 1) (by decide) (by decide)) (wg_da dt_law_6 4 rfl) ?_
  refine wl_callC hC [wl_a xs K 1] [] (wg_da dt_law_6 5 rfl) ⟨wq_4_81, wq_4_82, wq_4_83⟩ rfl wy_X11_text (m_X11_text l Ec hC.2.2.2.2.2.2.1 281 (wl_a xs K 1) (by decide +kernel) _ _ h1) rfl rfl (Nat.le_of_ble_eq_true rfl) ⟨rfl, rfl, by decide, by decide⟩ ?_
  refine wl_ld2 hC (wg_da dt_law_6 6 rfl) ?_
  refine wl_ld0 hC (wg_da dt_law_6 7 rfl) ?_
  refine wl_ldi hC (wg_da dt_law_6 8 rfl) ?_
  refine wl_iconst hC (1 : Int32) (by decide) (wg_da dt_law_6 9 rfl) ?_
  refine wl_iadd hC (wg_da dt_law_6 10 rfl) ?_
  refine wl_iald hC (wl_ix hK hL3 (j := 1) (by decide) (by decide)) (wg_da dt_law_6 11 rfl) ?_
  refine wl_callM hC [wl_a xs K 1] [.int r] (wg_da dt_law_6 12 rfl) ⟨wq_7_150, wq_7_151, wq_7_152⟩ rfl wy_X12_text (m_X12_text l Em 0 (wl_a xs K 1) (by decide +kernel) _ _ h2) rfl rfl (Nat.le_of_ble_eq_true rfl) ⟨rfl, rfl, by decide, by decide⟩ ?_
  exact wl_icmp_eq hC 1483 (wg_da dt_law_6 13 rfl) (by decide) k
theorem wl_case_fault (hC : wl_C p s m meth c b L xs Ec Em kc ks) (hK : K + 6 ≤ L) {r : Int32} {σc1 σm1 : wg_M} (h1 : f_X11_fault 281 (wl_a xs K 1) σc = some (r, σc1)) (h2 : f_X12_fault 0 (wl_a xs K 1) σm = some (r, σm1)) (k : wl_G p l e s m below meth c b Ec Em kc ks 1483 (nI K) [] σc1 σm1) : wl_G p l e s m below meth c b Ec Em kc ks 630 (nI K) [] σc σm := by
  have hL3 := hC.2.1
  refine wl_ld1 hC (wg_da dt_law_6 16 rfl) ?_
  refine wl_ld0 hC (wg_da dt_law_6 17 rfl) ?_
  refine wl_ldi hC (wg_da dt_law_6 18 rfl) ?_
  refine wl_iconst hC (1 : Int32) (by decide) (wg_da dt_law_6 19 rfl) ?_
  refine wl_iadd hC (wg_da dt_law_6 20 rfl) ?_
  refine wl_iald hC (wl_ix hK hL3 (j := 1) (by decide) (by decide)) (wg_da dt_law_6 21 rfl) ?_
  refine wl_callC hC [wl_a xs K 1] [] (wg_da dt_law_6 22 rfl) ⟨wq_5_32, wq_5_33, wq_5_34⟩ rfl wy_X11_fault (m_X11_fault l Ec 281 (wl_a xs K 1) (by decide +kernel) _ _ h1) rfl rfl (Nat.le_of_ble_eq_true rfl) ⟨rfl, rfl, by decide, by decide⟩ ?_
  refine wl_ld2 hC (wg_da dt_law_6 23 rfl) ?_
  refine wl_ld0 hC (wg_da dt_law_6 24 rfl) ?_
  refine wl_ldi hC (wg_da dt_law_6 25 rfl) ?_
  refine wl_iconst hC (1 : Int32) (by decide) (wg_da dt_law_6 26 rfl) ?_
  refine wl_iadd hC (wg_da dt_law_6 27 rfl) ?_
  refine wl_iald hC (wl_ix hK hL3 (j := 1) (by decide) (by decide)) (wg_da dt_law_6 28 rfl) ?_
  refine wl_callM hC [wl_a xs K 1] [.int r] (wg_da dt_law_6 29 rfl) ⟨wq_8_50, wq_8_51, wq_8_52⟩ rfl wy_X12_fault (m_X12_fault l Em 0 (wl_a xs K 1) (by decide +kernel) _ _ h2) rfl rfl (Nat.le_of_ble_eq_true rfl) ⟨rfl, rfl, by decide, by decide⟩ ?_
  exact wl_icmp_eq hC 1483 (wg_da dt_law_6 30 rfl) (by decide) k
theorem wl_case_of (hC : wl_C p s m meth c b L xs Ec Em kc ks) (hK : K + 6 ≤ L) {r : Int32} {σc1 σm1 : wg_M} (h1 : f_X11_of 281 (wl_a xs K 1) (wl_a xs K 2) σc = some (r, σc1)) (h2 : f_X12_of 0 (wl_a xs K 1) (wl_a xs K 2) σm = some (r, σm1)) (k : wl_G p l e s m below meth c b Ec Em kc ks 1483 (nI K) [] σc1 σm1) : wl_G p l e s m below meth c b Ec Em kc ks 653 (nI K) [] σc σm := by
  have hL3 := hC.2.1
  refine wl_ld1 hC (wg_da dt_law_6 33 rfl) ?_
  refine wl_ld0 hC (wg_da dt_law_6 34 rfl) ?_
  refine wl_ldi hC (wg_da dt_law_6 35 rfl) ?_
  refine wl_iconst hC (1 : Int32) (by decide) (wg_da dt_law_6 36 rfl) ?_
  refine wl_iadd hC (wg_da dt_law_6 37 rfl) ?_
  refine wl_iald hC (wl_ix hK hL3 (j := 1) (by decide) (by decide)) (wg_da dt_law_6 38 rfl) ?_
  refine wl_ld0 hC (wg_da dt_law_6 39 rfl) ?_
  refine wl_ldi hC (wg_da dt_law_6 40 rfl) ?_
  refine wl_iconst hC (2 : Int32) (by decide) (wg_da dt_law_6 41 rfl) ?_
  refine wl_iadd hC (wg_da dt_law_6 42 rfl) ?_
  refine wl_iald hC (wl_ix hK hL3 (j := 2) (by decide) (by decide)) (wg_da dt_law_6 43 rfl) ?_
  refine wl_callC hC [wl_a xs K 1, wl_a xs K 2] [] (wg_da dt_law_6 44 rfl) ⟨wq_5_36, wq_5_37, wq_5_38⟩ rfl wy_X11_of (m_X11_of l Ec 281 (wl_a xs K 1) (wl_a xs K 2) (by decide +kernel) _ _ h1) rfl rfl (Nat.le_of_ble_eq_true rfl) ⟨rfl, rfl, by decide, by decide⟩ ?_
  refine wl_ld2 hC (wg_da dt_law_6 45 rfl) ?_
  refine wl_ld0 hC (wg_da dt_law_6 46 rfl) ?_
  refine wl_ldi hC (wg_da dt_law_6 47 rfl) ?_
  refine wl_iconst hC (1 : Int32) (by decide) (wg_da dt_law_6 48 rfl) ?_
  refine wl_iadd hC (wg_da dt_law_6 49 rfl) ?_
  refine wl_iald hC (wl_ix hK hL3 (j := 1) (by decide) (by decide)) (wg_da dt_law_6 50 rfl) ?_
  refine wl_ld0 hC (wg_da dt_law_6 51 rfl) ?_
  refine wl_ldi hC (wg_da dt_law_6 52 rfl) ?_
  refine wl_iconst hC (2 : Int32) (by decide) (wg_da dt_law_6 53 rfl) ?_
  refine wl_iadd hC (wg_da dt_law_6 54 rfl) ?_
  refine wl_iald hC (wl_ix hK hL3 (j := 2) (by decide) (by decide)) (wg_da dt_law_6 55 rfl) ?_
  refine wl_callM hC [wl_a xs K 1, wl_a xs K 2] [.int r] (wg_da dt_law_6 56 rfl) ⟨wq_8_204, wq_8_205, wq_8_206⟩ rfl wy_X12_of (m_X12_of l Em 0 (wl_a xs K 1) (wl_a xs K 2) (by decide +kernel) _ _ h2) rfl rfl (Nat.le_of_ble_eq_true rfl) ⟨rfl, rfl, by decide, by decide⟩ ?_
  exact wl_icmp_eq hC 1483 (wg_da dt_law_6 57 rfl) (by decide) k
theorem wl_case_ruleOf (hC : wl_C p s m meth c b L xs Ec Em kc ks) (hK : K + 6 ≤ L) {r : Int32} {σc1 σm1 : wg_M} (h1 : f_X11_ruleOf 281 (wl_a xs K 1) (wl_a xs K 2) (wl_a xs K 3) σc = some (r, σc1)) (h2 : f_X12_ruleOf 0 (wl_a xs K 1) (wl_a xs K 2) (wl_a xs K 3) σm = some (r, σm1)) (k : wl_G p l e s m below meth c b Ec Em kc ks 1483 (nI K) [] σc1 σm1) : wl_G p l e s m below meth c b Ec Em kc ks 686 (nI K) [] σc σm := by
  have hL3 := hC.2.1
  refine wl_ld1 hC (wg_da dt_law_7 0 rfl) ?_
  refine wl_ld0 hC (wg_da dt_law_7 1 rfl) ?_
  refine wl_ldi hC (wg_da dt_law_7 2 rfl) ?_
  refine wl_iconst hC (1 : Int32) (by decide) (wg_da dt_law_7 3 rfl) ?_
  refine wl_iadd hC (wg_da dt_law_7 4 rfl) ?_
  refine wl_iald hC (wl_ix hK hL3 (j := 1) (by decide) (by decide)) (wg_da dt_law_7 5 rfl) ?_
  refine wl_ld0 hC (wg_da dt_law_7 6 rfl) ?_
  refine wl_ldi hC (wg_da dt_law_7 7 rfl) ?_
  refine wl_iconst hC (2 : Int32) (by decide) (wg_da dt_law_7 8 rfl) ?_
  refine wl_iadd hC (wg_da dt_law_7 9 rfl) ?_
  refine wl_iald hC (wl_ix hK hL3 (j := 2) (by decide) (by decide)) (wg_da dt_law_7 10 rfl) ?_
  refine wl_ld0 hC (wg_da dt_law_7 11 rfl) ?_
  refine wl_ldi hC (wg_da dt_law_7 12 rfl) ?_
  refine wl_iconst hC (3 : Int32) (by decide) (wg_da dt_law_7 13 rfl) ?_
  refine wl_iadd hC (wg_da dt_law_7 14 rfl) ?_
  refine wl_iald hC (wl_ix hK hL3 (j := 3) (by decide) (by decide)) (wg_da dt_law_7 15 rfl) ?_
  refine wl_callC hC [wl_a xs K 1, wl_a xs K 2, wl_a xs K 3] [] (wg_da dt_law_7 16 rfl) ⟨wq_5_42, wq_5_43, wq_5_44⟩ rfl wy_X11_ruleOf (m_X11_ruleOf l Ec 281 (wl_a xs K 1) (wl_a xs K 2) (wl_a xs K 3) (by decide +kernel) _ _ h1) rfl rfl (Nat.le_of_ble_eq_true rfl) ⟨rfl, rfl, by decide, by decide⟩ ?_
  refine wl_ld2 hC (wg_da dt_law_7 17 rfl) ?_
  refine wl_ld0 hC (wg_da dt_law_7 18 rfl) ?_
  refine wl_ldi hC (wg_da dt_law_7 19 rfl) ?_
  refine wl_iconst hC (1 : Int32) (by decide) (wg_da dt_law_7 20 rfl) ?_
  refine wl_iadd hC (wg_da dt_law_7 21 rfl) ?_
  refine wl_iald hC (wl_ix hK hL3 (j := 1) (by decide) (by decide)) (wg_da dt_law_7 22 rfl) ?_
  refine wl_ld0 hC (wg_da dt_law_7 23 rfl) ?_
  refine wl_ldi hC (wg_da dt_law_7 24 rfl) ?_
  refine wl_iconst hC (2 : Int32) (by decide) (wg_da dt_law_7 25 rfl) ?_
  refine wl_iadd hC (wg_da dt_law_7 26 rfl) ?_
  refine wl_iald hC (wl_ix hK hL3 (j := 2) (by decide) (by decide)) (wg_da dt_law_7 27 rfl) ?_
  refine wl_ld0 hC (wg_da dt_law_7 28 rfl) ?_
  refine wl_ldi hC (wg_da dt_law_7 29 rfl) ?_
  refine wl_iconst hC (3 : Int32) (by decide) (wg_da dt_law_7 30 rfl) ?_
  refine wl_iadd hC (wg_da dt_law_7 31 rfl) ?_
  refine wl_iald hC (wl_ix hK hL3 (j := 3) (by decide) (by decide)) (wg_da dt_law_7 32 rfl) ?_
  refine wl_callM hC [wl_a xs K 1, wl_a xs K 2, wl_a xs K 3] [.int r] (wg_da dt_law_7 33 rfl) ⟨wq_8_208, wq_8_209, wq_8_210⟩ rfl wy_X12_ruleOf (m_X12_ruleOf l Em 0 (wl_a xs K 1) (wl_a xs K 2) (wl_a xs K 3) (by decide +kernel) _ _ h2) rfl rfl (Nat.le_of_ble_eq_true rfl) ⟨rfl, rfl, by decide, by decide⟩ ?_
  exact wl_icmp_eq hC 1483 (wg_da dt_law_7 34 rfl) (by decide) k
theorem wl_case_who (hC : wl_C p s m meth c b L xs Ec Em kc ks) (hK : K + 6 ≤ L) {r : Int32} {σc1 σm1 : wg_M} (h1 : f_X11_who 281 (wl_a xs K 1) (wl_a xs K 2) σc = some (r, σc1)) (h2 : f_X12_who 0 (wl_a xs K 1) (wl_a xs K 2) σm = some (r, σm1)) (k : wl_G p l e s m below meth c b Ec Em kc ks 1483 (nI K) [] σc1 σm1) : wl_G p l e s m below meth c b Ec Em kc ks 729 (nI K) [] σc σm := by
  have hL3 := hC.2.1
  refine wl_ld1 hC (wg_da dt_law_7 37 rfl) ?_
  refine wl_ld0 hC (wg_da dt_law_7 38 rfl) ?_
  refine wl_ldi hC (wg_da dt_law_7 39 rfl) ?_
  refine wl_iconst hC (1 : Int32) (by decide) (wg_da dt_law_7 40 rfl) ?_
  refine wl_iadd hC (wg_da dt_law_7 41 rfl) ?_
  refine wl_iald hC (wl_ix hK hL3 (j := 1) (by decide) (by decide)) (wg_da dt_law_7 42 rfl) ?_
  refine wl_ld0 hC (wg_da dt_law_7 43 rfl) ?_
  refine wl_ldi hC (wg_da dt_law_7 44 rfl) ?_
  refine wl_iconst hC (2 : Int32) (by decide) (wg_da dt_law_7 45 rfl) ?_
  refine wl_iadd hC (wg_da dt_law_7 46 rfl) ?_
  refine wl_iald hC (wl_ix hK hL3 (j := 2) (by decide) (by decide)) (wg_da dt_law_7 47 rfl) ?_
  refine wl_callC hC [wl_a xs K 1, wl_a xs K 2] [] (wg_da dt_law_7 48 rfl) ⟨wq_5_52, wq_5_53, wq_5_54⟩ rfl wy_X11_who (m_X11_who l Ec 281 (wl_a xs K 1) (wl_a xs K 2) (by decide +kernel) _ _ h1) rfl rfl (Nat.le_of_ble_eq_true rfl) ⟨rfl, rfl, by decide, by decide⟩ ?_
  refine wl_ld2 hC (wg_da dt_law_7 49 rfl) ?_
  refine wl_ld0 hC (wg_da dt_law_7 50 rfl) ?_
  refine wl_ldi hC (wg_da dt_law_7 51 rfl) ?_
  refine wl_iconst hC (1 : Int32) (by decide) (wg_da dt_law_7 52 rfl) ?_
  refine wl_iadd hC (wg_da dt_law_7 53 rfl) ?_
  refine wl_iald hC (wl_ix hK hL3 (j := 1) (by decide) (by decide)) (wg_da dt_law_7 54 rfl) ?_
  refine wl_ld0 hC (wg_da dt_law_7 55 rfl) ?_
  refine wl_ldi hC (wg_da dt_law_7 56 rfl) ?_
  refine wl_iconst hC (2 : Int32) (by decide) (wg_da dt_law_7 57 rfl) ?_
  refine wl_iadd hC (wg_da dt_law_7 58 rfl) ?_
  refine wl_iald hC (wl_ix hK hL3 (j := 2) (by decide) (by decide)) (wg_da dt_law_7 59 rfl) ?_
  refine wl_callM hC [wl_a xs K 1, wl_a xs K 2] [.int r] (wg_da dt_law_8 0 rfl) ⟨wq_8_212, wq_8_213, wq_8_214⟩ rfl wy_X12_who (m_X12_who l Em 0 (wl_a xs K 1) (wl_a xs K 2) (by decide +kernel) _ _ h2) rfl rfl (Nat.le_of_ble_eq_true rfl) ⟨rfl, rfl, by decide, by decide⟩ ?_
  exact wl_icmp_eq hC 1483 (wg_da dt_law_8 1 rfl) (by decide) k
theorem wl_case_trialOf (hC : wl_C p s m meth c b L xs Ec Em kc ks) (hK : K + 6 ≤ L) {r : Int32} {σc1 σm1 : wg_M} (h1 : f_X11_trialOf 281 (wl_a xs K 1) (wl_a xs K 2) σc = some (r, σc1)) (h2 : f_X12_trialOf 0 (wl_a xs K 1) (wl_a xs K 2) σm = some (r, σm1)) (k : wl_G p l e s m below meth c b Ec Em kc ks 1483 (nI K) [] σc1 σm1) : wl_G p l e s m below meth c b Ec Em kc ks 762 (nI K) [] σc σm := by
  have hL3 := hC.2.1
  refine wl_ld1 hC (wg_da dt_law_8 4 rfl) ?_
  refine wl_ld0 hC (wg_da dt_law_8 5 rfl) ?_
  refine wl_ldi hC (wg_da dt_law_8 6 rfl) ?_
  refine wl_iconst hC (1 : Int32) (by decide) (wg_da dt_law_8 7 rfl) ?_
  refine wl_iadd hC (wg_da dt_law_8 8 rfl) ?_
  refine wl_iald hC (wl_ix hK hL3 (j := 1) (by decide) (by decide)) (wg_da dt_law_8 9 rfl) ?_
  refine wl_ld0 hC (wg_da dt_law_8 10 rfl) ?_
  refine wl_ldi hC (wg_da dt_law_8 11 rfl) ?_
  refine wl_iconst hC (2 : Int32) (by decide) (wg_da dt_law_8 12 rfl) ?_
  refine wl_iadd hC (wg_da dt_law_8 13 rfl) ?_
  refine wl_iald hC (wl_ix hK hL3 (j := 2) (by decide) (by decide)) (wg_da dt_law_8 14 rfl) ?_
  refine wl_callC hC [wl_a xs K 1, wl_a xs K 2] [] (wg_da dt_law_8 15 rfl) ⟨wq_5_57, wq_5_58, wq_5_59⟩ rfl wy_X11_trialOf (m_X11_trialOf l Ec 281 (wl_a xs K 1) (wl_a xs K 2) (by decide +kernel) _ _ h1) rfl rfl (Nat.le_of_ble_eq_true rfl) ⟨rfl, rfl, by decide, by decide⟩ ?_
  refine wl_ld2 hC (wg_da dt_law_8 16 rfl) ?_
  refine wl_ld0 hC (wg_da dt_law_8 17 rfl) ?_
  refine wl_ldi hC (wg_da dt_law_8 18 rfl) ?_
  refine wl_iconst hC (1 : Int32) (by decide) (wg_da dt_law_8 19 rfl) ?_
  refine wl_iadd hC (wg_da dt_law_8 20 rfl) ?_
  refine wl_iald hC (wl_ix hK hL3 (j := 1) (by decide) (by decide)) (wg_da dt_law_8 21 rfl) ?_
  refine wl_ld0 hC (wg_da dt_law_8 22 rfl) ?_
  refine wl_ldi hC (wg_da dt_law_8 23 rfl) ?_
  refine wl_iconst hC (2 : Int32) (by decide) (wg_da dt_law_8 24 rfl) ?_
  refine wl_iadd hC (wg_da dt_law_8 25 rfl) ?_
  refine wl_iald hC (wl_ix hK hL3 (j := 2) (by decide) (by decide)) (wg_da dt_law_8 26 rfl) ?_
  refine wl_callM hC [wl_a xs K 1, wl_a xs K 2] [.int r] (wg_da dt_law_8 27 rfl) ⟨wq_8_216, wq_8_217, wq_8_218⟩ rfl wy_X12_trialOf (m_X12_trialOf l Em 0 (wl_a xs K 1) (wl_a xs K 2) (by decide +kernel) _ _ h2) rfl rfl (Nat.le_of_ble_eq_true rfl) ⟨rfl, rfl, by decide, by decide⟩ ?_
  exact wl_icmp_eq hC 1483 (wg_da dt_law_8 28 rfl) (by decide) k
theorem wl_case_book (hC : wl_C p s m meth c b L xs Ec Em kc ks) (hK : K + 6 ≤ L) {r : Int32} {σc1 σm1 : wg_M} (h1 : f_X11_book 281 (wl_a xs K 1) (wl_a xs K 2) σc = some (r, σc1)) (h2 : f_X12_book 0 (wl_a xs K 1) (wl_a xs K 2) σm = some (r, σm1)) (k : wl_G p l e s m below meth c b Ec Em kc ks 1483 (nI K) [] σc1 σm1) : wl_G p l e s m below meth c b Ec Em kc ks 795 (nI K) [] σc σm := by
  have hL3 := hC.2.1
  refine wl_ld1 hC (wg_da dt_law_8 31 rfl) ?_
  refine wl_ld0 hC (wg_da dt_law_8 32 rfl) ?_
  refine wl_ldi hC (wg_da dt_law_8 33 rfl) ?_
  refine wl_iconst hC (1 : Int32) (by decide) (wg_da dt_law_8 34 rfl) ?_
  refine wl_iadd hC (wg_da dt_law_8 35 rfl) ?_
  refine wl_iald hC (wl_ix hK hL3 (j := 1) (by decide) (by decide)) (wg_da dt_law_8 36 rfl) ?_
  refine wl_ld0 hC (wg_da dt_law_8 37 rfl) ?_
  refine wl_ldi hC (wg_da dt_law_8 38 rfl) ?_
  refine wl_iconst hC (2 : Int32) (by decide) (wg_da dt_law_8 39 rfl) ?_
  refine wl_iadd hC (wg_da dt_law_8 40 rfl) ?_
  refine wl_iald hC (wl_ix hK hL3 (j := 2) (by decide) (by decide)) (wg_da dt_law_8 41 rfl) ?_
  refine wl_callC hC [wl_a xs K 1, wl_a xs K 2] [] (wg_da dt_law_8 42 rfl) ⟨wq_5_62, wq_5_63, wq_5_64⟩ rfl wy_X11_book (m_X11_book l Ec 281 (wl_a xs K 1) (wl_a xs K 2) (by decide +kernel) _ _ h1) rfl rfl (Nat.le_of_ble_eq_true rfl) ⟨rfl, rfl, by decide, by decide⟩ ?_
  refine wl_ld2 hC (wg_da dt_law_8 43 rfl) ?_
  refine wl_ld0 hC (wg_da dt_law_8 44 rfl) ?_
  refine wl_ldi hC (wg_da dt_law_8 45 rfl) ?_
  refine wl_iconst hC (1 : Int32) (by decide) (wg_da dt_law_8 46 rfl) ?_
  refine wl_iadd hC (wg_da dt_law_8 47 rfl) ?_
  refine wl_iald hC (wl_ix hK hL3 (j := 1) (by decide) (by decide)) (wg_da dt_law_8 48 rfl) ?_
  refine wl_ld0 hC (wg_da dt_law_8 49 rfl) ?_
  refine wl_ldi hC (wg_da dt_law_8 50 rfl) ?_
  refine wl_iconst hC (2 : Int32) (by decide) (wg_da dt_law_8 51 rfl) ?_
  refine wl_iadd hC (wg_da dt_law_8 52 rfl) ?_
  refine wl_iald hC (wl_ix hK hL3 (j := 2) (by decide) (by decide)) (wg_da dt_law_8 53 rfl) ?_
  refine wl_callM hC [wl_a xs K 1, wl_a xs K 2] [.int r] (wg_da dt_law_8 54 rfl) ⟨wq_8_221, wq_8_222, wq_8_223⟩ rfl wy_X12_book (m_X12_book l Em 0 (wl_a xs K 1) (wl_a xs K 2) (by decide +kernel) _ _ h2) rfl rfl (Nat.le_of_ble_eq_true rfl) ⟨rfl, rfl, by decide, by decide⟩ ?_
  exact wl_icmp_eq hC 1483 (wg_da dt_law_8 55 rfl) (by decide) k
theorem wl_case_goes (hC : wl_C p s m meth c b L xs Ec Em kc ks) (hK : K + 6 ≤ L) {r : Int32} {σc1 σm1 : wg_M} (h1 : f_X11_goes 281 (wl_a xs K 1) (wl_a xs K 2) σc = some (r, σc1)) (h2 : f_X12_goes 0 (wl_a xs K 1) (wl_a xs K 2) σm = some (r, σm1)) (k : wl_G p l e s m below meth c b Ec Em kc ks 1483 (nI K) [] σc1 σm1) : wl_G p l e s m below meth c b Ec Em kc ks 828 (nI K) [] σc σm := by
  have hL3 := hC.2.1
  refine wl_ld1 hC (wg_da dt_law_8 58 rfl) ?_
  refine wl_ld0 hC (wg_da dt_law_8 59 rfl) ?_
  refine wl_ldi hC (wg_da dt_law_9 0 rfl) ?_
  refine wl_iconst hC (1 : Int32) (by decide) (wg_da dt_law_9 1 rfl) ?_
  refine wl_iadd hC (wg_da dt_law_9 2 rfl) ?_
  refine wl_iald hC (wl_ix hK hL3 (j := 1) (by decide) (by decide)) (wg_da dt_law_9 3 rfl) ?_
  refine wl_ld0 hC (wg_da dt_law_9 4 rfl) ?_
  refine wl_ldi hC (wg_da dt_law_9 5 rfl) ?_
  refine wl_iconst hC (2 : Int32) (by decide) (wg_da dt_law_9 6 rfl) ?_
  refine wl_iadd hC (wg_da dt_law_9 7 rfl) ?_
  refine wl_iald hC (wl_ix hK hL3 (j := 2) (by decide) (by decide)) (wg_da dt_law_9 8 rfl) ?_
  refine wl_callC hC [wl_a xs K 1, wl_a xs K 2] [] (wg_da dt_law_9 9 rfl) ⟨wq_5_66, wq_5_67, wq_5_68⟩ rfl wy_X11_goes (m_X11_goes l Ec 281 (wl_a xs K 1) (wl_a xs K 2) (by decide +kernel) _ _ h1) rfl rfl (Nat.le_of_ble_eq_true rfl) ⟨rfl, rfl, by decide, by decide⟩ ?_
  refine wl_ld2 hC (wg_da dt_law_9 10 rfl) ?_
  refine wl_ld0 hC (wg_da dt_law_9 11 rfl) ?_
  refine wl_ldi hC (wg_da dt_law_9 12 rfl) ?_
  refine wl_iconst hC (1 : Int32) (by decide) (wg_da dt_law_9 13 rfl) ?_
  refine wl_iadd hC (wg_da dt_law_9 14 rfl) ?_
  refine wl_iald hC (wl_ix hK hL3 (j := 1) (by decide) (by decide)) (wg_da dt_law_9 15 rfl) ?_
  refine wl_ld0 hC (wg_da dt_law_9 16 rfl) ?_
  refine wl_ldi hC (wg_da dt_law_9 17 rfl) ?_
  refine wl_iconst hC (2 : Int32) (by decide) (wg_da dt_law_9 18 rfl) ?_
  refine wl_iadd hC (wg_da dt_law_9 19 rfl) ?_
  refine wl_iald hC (wl_ix hK hL3 (j := 2) (by decide) (by decide)) (wg_da dt_law_9 20 rfl) ?_
  refine wl_callM hC [wl_a xs K 1, wl_a xs K 2] [.int r] (wg_da dt_law_9 21 rfl) ⟨wq_8_225, wq_8_226, wq_8_227⟩ rfl wy_X12_goes (m_X12_goes l Em 0 (wl_a xs K 1) (wl_a xs K 2) (by decide +kernel) _ _ h2) rfl rfl (Nat.le_of_ble_eq_true rfl) ⟨rfl, rfl, by decide, by decide⟩ ?_
  exact wl_icmp_eq hC 1483 (wg_da dt_law_9 22 rfl) (by decide) k
theorem wl_case_would (hC : wl_C p s m meth c b L xs Ec Em kc ks) (hK : K + 6 ≤ L) {r : Int32} {σc1 σm1 : wg_M} (h1 : f_X11_would 281 (wl_a xs K 1) (wl_a xs K 2) σc = some (r, σc1)) (h2 : f_X12_would 0 (wl_a xs K 1) (wl_a xs K 2) σm = some (r, σm1)) (k : wl_G p l e s m below meth c b Ec Em kc ks 1483 (nI K) [] σc1 σm1) : wl_G p l e s m below meth c b Ec Em kc ks 861 (nI K) [] σc σm := by
  have hL3 := hC.2.1
  refine wl_ld1 hC (wg_da dt_law_9 25 rfl) ?_
  refine wl_ld0 hC (wg_da dt_law_9 26 rfl) ?_
  refine wl_ldi hC (wg_da dt_law_9 27 rfl) ?_
  refine wl_iconst hC (1 : Int32) (by decide) (wg_da dt_law_9 28 rfl) ?_
  refine wl_iadd hC (wg_da dt_law_9 29 rfl) ?_
  refine wl_iald hC (wl_ix hK hL3 (j := 1) (by decide) (by decide)) (wg_da dt_law_9 30 rfl) ?_
  refine wl_ld0 hC (wg_da dt_law_9 31 rfl) ?_
  refine wl_ldi hC (wg_da dt_law_9 32 rfl) ?_
  refine wl_iconst hC (2 : Int32) (by decide) (wg_da dt_law_9 33 rfl) ?_
  refine wl_iadd hC (wg_da dt_law_9 34 rfl) ?_
  refine wl_iald hC (wl_ix hK hL3 (j := 2) (by decide) (by decide)) (wg_da dt_law_9 35 rfl) ?_
  refine wl_callC hC [wl_a xs K 1, wl_a xs K 2] [] (wg_da dt_law_9 36 rfl) ⟨wq_5_100, wq_5_101, wq_5_102⟩ rfl wy_X11_would (m_X11_would l Ec 281 (wl_a xs K 1) (wl_a xs K 2) (by decide +kernel) _ _ h1) rfl rfl (Nat.le_of_ble_eq_true rfl) ⟨rfl, rfl, by decide, by decide⟩ ?_
  refine wl_ld2 hC (wg_da dt_law_9 37 rfl) ?_
  refine wl_ld0 hC (wg_da dt_law_9 38 rfl) ?_
  refine wl_ldi hC (wg_da dt_law_9 39 rfl) ?_
  refine wl_iconst hC (1 : Int32) (by decide) (wg_da dt_law_9 40 rfl) ?_
  refine wl_iadd hC (wg_da dt_law_9 41 rfl) ?_
  refine wl_iald hC (wl_ix hK hL3 (j := 1) (by decide) (by decide)) (wg_da dt_law_9 42 rfl) ?_
  refine wl_ld0 hC (wg_da dt_law_9 43 rfl) ?_
  refine wl_ldi hC (wg_da dt_law_9 44 rfl) ?_
  refine wl_iconst hC (2 : Int32) (by decide) (wg_da dt_law_9 45 rfl) ?_
  refine wl_iadd hC (wg_da dt_law_9 46 rfl) ?_
  refine wl_iald hC (wl_ix hK hL3 (j := 2) (by decide) (by decide)) (wg_da dt_law_9 47 rfl) ?_
  refine wl_callM hC [wl_a xs K 1, wl_a xs K 2] [.int r] (wg_da dt_law_9 48 rfl) ⟨wq_9_5, wq_9_6, wq_9_7⟩ rfl wy_X12_would (m_X12_would l Em 0 (wl_a xs K 1) (wl_a xs K 2) (by decide +kernel) _ _ h2) rfl rfl (Nat.le_of_ble_eq_true rfl) ⟨rfl, rfl, by decide, by decide⟩ ?_
  exact wl_icmp_eq hC 1483 (wg_da dt_law_9 49 rfl) (by decide) k
theorem wl_case_forum (hC : wl_C p s m meth c b L xs Ec Em kc ks) (hK : K + 6 ≤ L) {r : Int32} {σc1 σm1 : wg_M} (h1 : f_X11_forum 281 (wl_a xs K 1) (wl_a xs K 2) σc = some (r, σc1)) (h2 : f_X12_forum 0 (wl_a xs K 1) (wl_a xs K 2) σm = some (r, σm1)) (k : wl_G p l e s m below meth c b Ec Em kc ks 1483 (nI K) [] σc1 σm1) : wl_G p l e s m below meth c b Ec Em kc ks 894 (nI K) [] σc σm := by
  have hL3 := hC.2.1
  refine wl_ld1 hC (wg_da dt_law_9 52 rfl) ?_
  refine wl_ld0 hC (wg_da dt_law_9 53 rfl) ?_
  refine wl_ldi hC (wg_da dt_law_9 54 rfl) ?_
  refine wl_iconst hC (1 : Int32) (by decide) (wg_da dt_law_9 55 rfl) ?_
  refine wl_iadd hC (wg_da dt_law_9 56 rfl) ?_
  refine wl_iald hC (wl_ix hK hL3 (j := 1) (by decide) (by decide)) (wg_da dt_law_9 57 rfl) ?_
  refine wl_ld0 hC (wg_da dt_law_9 58 rfl) ?_
  refine wl_ldi hC (wg_da dt_law_9 59 rfl) ?_
  refine wl_iconst hC (2 : Int32) (by decide) (wg_da dt_law_10 0 rfl) ?_
  refine wl_iadd hC (wg_da dt_law_10 1 rfl) ?_
  refine wl_iald hC (wl_ix hK hL3 (j := 2) (by decide) (by decide)) (wg_da dt_law_10 2 rfl) ?_
  refine wl_callC hC [wl_a xs K 1, wl_a xs K 2] [] (wg_da dt_law_10 3 rfl) ⟨wq_5_106, wq_5_107, wq_5_108⟩ rfl wy_X11_forum (m_X11_forum l Ec 281 (wl_a xs K 1) (wl_a xs K 2) (by decide +kernel) _ _ h1) rfl rfl (Nat.le_of_ble_eq_true rfl) ⟨rfl, rfl, by decide, by decide⟩ ?_
  refine wl_ld2 hC (wg_da dt_law_10 4 rfl) ?_
  refine wl_ld0 hC (wg_da dt_law_10 5 rfl) ?_
  refine wl_ldi hC (wg_da dt_law_10 6 rfl) ?_
  refine wl_iconst hC (1 : Int32) (by decide) (wg_da dt_law_10 7 rfl) ?_
  refine wl_iadd hC (wg_da dt_law_10 8 rfl) ?_
  refine wl_iald hC (wl_ix hK hL3 (j := 1) (by decide) (by decide)) (wg_da dt_law_10 9 rfl) ?_
  refine wl_ld0 hC (wg_da dt_law_10 10 rfl) ?_
  refine wl_ldi hC (wg_da dt_law_10 11 rfl) ?_
  refine wl_iconst hC (2 : Int32) (by decide) (wg_da dt_law_10 12 rfl) ?_
  refine wl_iadd hC (wg_da dt_law_10 13 rfl) ?_
  refine wl_iald hC (wl_ix hK hL3 (j := 2) (by decide) (by decide)) (wg_da dt_law_10 14 rfl) ?_
  refine wl_callM hC [wl_a xs K 1, wl_a xs K 2] [.int r] (wg_da dt_law_10 15 rfl) ⟨wq_9_9, wq_9_10, wq_9_11⟩ rfl wy_X12_forum (m_X12_forum l Em 0 (wl_a xs K 1) (wl_a xs K 2) (by decide +kernel) _ _ h2) rfl rfl (Nat.le_of_ble_eq_true rfl) ⟨rfl, rfl, by decide, by decide⟩ ?_
  exact wl_icmp_eq hC 1483 (wg_da dt_law_10 16 rfl) (by decide) k
theorem wl_case_combs (hC : wl_C p s m meth c b L xs Ec Em kc ks) (hK : K + 6 ≤ L) {r : Int32} {σc1 σm1 : wg_M} (h1 : f_X11_combs 281 (wl_a xs K 1) (wl_a xs K 2) σc = some (r, σc1)) (h2 : f_X12_combs 0 (wl_a xs K 1) (wl_a xs K 2) σm = some (r, σm1)) (k : wl_G p l e s m below meth c b Ec Em kc ks 1483 (nI K) [] σc1 σm1) : wl_G p l e s m below meth c b Ec Em kc ks 927 (nI K) [] σc σm := by
  have hL3 := hC.2.1
  refine wl_ld1 hC (wg_da dt_law_10 19 rfl) ?_
  refine wl_ld0 hC (wg_da dt_law_10 20 rfl) ?_
  refine wl_ldi hC (wg_da dt_law_10 21 rfl) ?_
  refine wl_iconst hC (1 : Int32) (by decide) (wg_da dt_law_10 22 rfl) ?_
  refine wl_iadd hC (wg_da dt_law_10 23 rfl) ?_
  refine wl_iald hC (wl_ix hK hL3 (j := 1) (by decide) (by decide)) (wg_da dt_law_10 24 rfl) ?_
  refine wl_ld0 hC (wg_da dt_law_10 25 rfl) ?_
  refine wl_ldi hC (wg_da dt_law_10 26 rfl) ?_
  refine wl_iconst hC (2 : Int32) (by decide) (wg_da dt_law_10 27 rfl) ?_
  refine wl_iadd hC (wg_da dt_law_10 28 rfl) ?_
  refine wl_iald hC (wl_ix hK hL3 (j := 2) (by decide) (by decide)) (wg_da dt_law_10 29 rfl) ?_
  refine wl_callC hC [wl_a xs K 1, wl_a xs K 2] [] (wg_da dt_law_10 30 rfl) ⟨wq_5_116, wq_5_117, wq_5_118⟩ rfl wy_X11_combs (m_X11_combs l Ec 281 (wl_a xs K 1) (wl_a xs K 2) (by decide +kernel) _ _ h1) rfl rfl (Nat.le_of_ble_eq_true rfl) ⟨rfl, rfl, by decide, by decide⟩ ?_
  refine wl_ld2 hC (wg_da dt_law_10 31 rfl) ?_
  refine wl_ld0 hC (wg_da dt_law_10 32 rfl) ?_
  refine wl_ldi hC (wg_da dt_law_10 33 rfl) ?_
  refine wl_iconst hC (1 : Int32) (by decide) (wg_da dt_law_10 34 rfl) ?_
  refine wl_iadd hC (wg_da dt_law_10 35 rfl) ?_
  refine wl_iald hC (wl_ix hK hL3 (j := 1) (by decide) (by decide)) (wg_da dt_law_10 36 rfl) ?_
  refine wl_ld0 hC (wg_da dt_law_10 37 rfl) ?_
  refine wl_ldi hC (wg_da dt_law_10 38 rfl) ?_
  refine wl_iconst hC (2 : Int32) (by decide) (wg_da dt_law_10 39 rfl) ?_
  refine wl_iadd hC (wg_da dt_law_10 40 rfl) ?_
  refine wl_iald hC (wl_ix hK hL3 (j := 2) (by decide) (by decide)) (wg_da dt_law_10 41 rfl) ?_
  refine wl_callM hC [wl_a xs K 1, wl_a xs K 2] [.int r] (wg_da dt_law_10 42 rfl) ⟨wq_9_13, wq_9_14, wq_9_15⟩ rfl wy_X12_combs (m_X12_combs l Em 0 (wl_a xs K 1) (wl_a xs K 2) (by decide +kernel) _ _ h2) rfl rfl (Nat.le_of_ble_eq_true rfl) ⟨rfl, rfl, by decide, by decide⟩ ?_
  exact wl_icmp_eq hC 1483 (wg_da dt_law_10 43 rfl) (by decide) k
theorem wl_case_alike (hC : wl_C p s m meth c b L xs Ec Em kc ks) (hK : K + 6 ≤ L) {r : Int32} {σc1 σm1 : wg_M} (h1 : f_X11_alike 281 (wl_a xs K 1) (wl_a xs K 2) σc = some (r, σc1)) (h2 : f_X12_alike 0 (wl_a xs K 1) (wl_a xs K 2) σm = some (r, σm1)) (k : wl_G p l e s m below meth c b Ec Em kc ks 1483 (nI K) [] σc1 σm1) : wl_G p l e s m below meth c b Ec Em kc ks 960 (nI K) [] σc σm := by
  have hL3 := hC.2.1
  refine wl_ld1 hC (wg_da dt_law_10 46 rfl) ?_
  refine wl_ld0 hC (wg_da dt_law_10 47 rfl) ?_
  refine wl_ldi hC (wg_da dt_law_10 48 rfl) ?_
  refine wl_iconst hC (1 : Int32) (by decide) (wg_da dt_law_10 49 rfl) ?_
  refine wl_iadd hC (wg_da dt_law_10 50 rfl) ?_
  refine wl_iald hC (wl_ix hK hL3 (j := 1) (by decide) (by decide)) (wg_da dt_law_10 51 rfl) ?_
  refine wl_ld0 hC (wg_da dt_law_10 52 rfl) ?_
  refine wl_ldi hC (wg_da dt_law_10 53 rfl) ?_
  refine wl_iconst hC (2 : Int32) (by decide) (wg_da dt_law_10 54 rfl) ?_
  refine wl_iadd hC (wg_da dt_law_10 55 rfl) ?_
  refine wl_iald hC (wl_ix hK hL3 (j := 2) (by decide) (by decide)) (wg_da dt_law_10 56 rfl) ?_
  refine wl_callC hC [wl_a xs K 1, wl_a xs K 2] [] (wg_da dt_law_10 57 rfl) ⟨wq_5_125, wq_5_126, wq_5_127⟩ rfl wy_X11_alike (m_X11_alike l Ec 281 (wl_a xs K 1) (wl_a xs K 2) (by decide +kernel) _ _ h1) rfl rfl (Nat.le_of_ble_eq_true rfl) ⟨rfl, rfl, by decide, by decide⟩ ?_
  refine wl_ld2 hC (wg_da dt_law_10 58 rfl) ?_
  refine wl_ld0 hC (wg_da dt_law_10 59 rfl) ?_
  refine wl_ldi hC (wg_da dt_law_11 0 rfl) ?_
  refine wl_iconst hC (1 : Int32) (by decide) (wg_da dt_law_11 1 rfl) ?_
  refine wl_iadd hC (wg_da dt_law_11 2 rfl) ?_
  refine wl_iald hC (wl_ix hK hL3 (j := 1) (by decide) (by decide)) (wg_da dt_law_11 3 rfl) ?_
  refine wl_ld0 hC (wg_da dt_law_11 4 rfl) ?_
  refine wl_ldi hC (wg_da dt_law_11 5 rfl) ?_
  refine wl_iconst hC (2 : Int32) (by decide) (wg_da dt_law_11 6 rfl) ?_
  refine wl_iadd hC (wg_da dt_law_11 7 rfl) ?_
  refine wl_iald hC (wl_ix hK hL3 (j := 2) (by decide) (by decide)) (wg_da dt_law_11 8 rfl) ?_
  refine wl_callM hC [wl_a xs K 1, wl_a xs K 2] [.int r] (wg_da dt_law_11 9 rfl) ⟨wq_9_25, wq_9_26, wq_9_27⟩ rfl wy_X12_alike (m_X12_alike l Em 0 (wl_a xs K 1) (wl_a xs K 2) (by decide +kernel) _ _ h2) rfl rfl (Nat.le_of_ble_eq_true rfl) ⟨rfl, rfl, by decide, by decide⟩ ?_
  exact wl_icmp_eq hC 1483 (wg_da dt_law_11 10 rfl) (by decide) k
theorem wl_case_heir (hC : wl_C p s m meth c b L xs Ec Em kc ks) (hK : K + 6 ≤ L) {r : Int32} {σc1 σm1 : wg_M} (h1 : f_X11_heir 281 (wl_a xs K 1) (wl_a xs K 2) σc = some (r, σc1)) (h2 : f_X12_heir 0 (wl_a xs K 1) (wl_a xs K 2) σm = some (r, σm1)) (k : wl_G p l e s m below meth c b Ec Em kc ks 1483 (nI K) [] σc1 σm1) : wl_G p l e s m below meth c b Ec Em kc ks 993 (nI K) [] σc σm := by
  have hL3 := hC.2.1
  refine wl_ld1 hC (wg_da dt_law_11 13 rfl) ?_
  refine wl_ld0 hC (wg_da dt_law_11 14 rfl) ?_
  refine wl_ldi hC (wg_da dt_law_11 15 rfl) ?_
  refine wl_iconst hC (1 : Int32) (by decide) (wg_da dt_law_11 16 rfl) ?_
  refine wl_iadd hC (wg_da dt_law_11 17 rfl) ?_
  refine wl_iald hC (wl_ix hK hL3 (j := 1) (by decide) (by decide)) (wg_da dt_law_11 18 rfl) ?_
  refine wl_ld0 hC (wg_da dt_law_11 19 rfl) ?_
  refine wl_ldi hC (wg_da dt_law_11 20 rfl) ?_
  refine wl_iconst hC (2 : Int32) (by decide) (wg_da dt_law_11 21 rfl) ?_
  refine wl_iadd hC (wg_da dt_law_11 22 rfl) ?_
  refine wl_iald hC (wl_ix hK hL3 (j := 2) (by decide) (by decide)) (wg_da dt_law_11 23 rfl) ?_
  refine wl_callC hC [wl_a xs K 1, wl_a xs K 2] [] (wg_da dt_law_11 24 rfl) ⟨wq_5_145, wq_5_146, wq_5_147⟩ rfl wy_X11_heir (m_X11_heir l Ec 281 (wl_a xs K 1) (wl_a xs K 2) (by decide +kernel) _ _ h1) rfl rfl (Nat.le_of_ble_eq_true rfl) ⟨rfl, rfl, by decide, by decide⟩ ?_
  refine wl_ld2 hC (wg_da dt_law_11 25 rfl) ?_
  refine wl_ld0 hC (wg_da dt_law_11 26 rfl) ?_
  refine wl_ldi hC (wg_da dt_law_11 27 rfl) ?_
  refine wl_iconst hC (1 : Int32) (by decide) (wg_da dt_law_11 28 rfl) ?_
  refine wl_iadd hC (wg_da dt_law_11 29 rfl) ?_
  refine wl_iald hC (wl_ix hK hL3 (j := 1) (by decide) (by decide)) (wg_da dt_law_11 30 rfl) ?_
  refine wl_ld0 hC (wg_da dt_law_11 31 rfl) ?_
  refine wl_ldi hC (wg_da dt_law_11 32 rfl) ?_
  refine wl_iconst hC (2 : Int32) (by decide) (wg_da dt_law_11 33 rfl) ?_
  refine wl_iadd hC (wg_da dt_law_11 34 rfl) ?_
  refine wl_iald hC (wl_ix hK hL3 (j := 2) (by decide) (by decide)) (wg_da dt_law_11 35 rfl) ?_
  refine wl_callM hC [wl_a xs K 1, wl_a xs K 2] [.int r] (wg_da dt_law_11 36 rfl) ⟨wq_9_37, wq_9_38, wq_9_39⟩ rfl wy_X12_heir (m_X12_heir l Em 0 (wl_a xs K 1) (wl_a xs K 2) (by decide +kernel) _ _ h2) rfl rfl (Nat.le_of_ble_eq_true rfl) ⟨rfl, rfl, by decide, by decide⟩ ?_
  exact wl_icmp_eq hC 1483 (wg_da dt_law_11 37 rfl) (by decide) k
theorem wl_case_kin (hC : wl_C p s m meth c b L xs Ec Em kc ks) (hK : K + 6 ≤ L) {r : Int32} {σc1 σm1 : wg_M} (h1 : f_X11_kin 281 (wl_a xs K 1) (wl_a xs K 2) σc = some (r, σc1)) (h2 : f_X12_kin 0 (wl_a xs K 1) (wl_a xs K 2) σm = some (r, σm1)) (k : wl_G p l e s m below meth c b Ec Em kc ks 1483 (nI K) [] σc1 σm1) : wl_G p l e s m below meth c b Ec Em kc ks 1026 (nI K) [] σc σm := by
  have hL3 := hC.2.1
  refine wl_ld1 hC (wg_da dt_law_11 40 rfl) ?_
  refine wl_ld0 hC (wg_da dt_law_11 41 rfl) ?_
  refine wl_ldi hC (wg_da dt_law_11 42 rfl) ?_
  refine wl_iconst hC (1 : Int32) (by decide) (wg_da dt_law_11 43 rfl) ?_
  refine wl_iadd hC (wg_da dt_law_11 44 rfl) ?_
  refine wl_iald hC (wl_ix hK hL3 (j := 1) (by decide) (by decide)) (wg_da dt_law_11 45 rfl) ?_
  refine wl_ld0 hC (wg_da dt_law_11 46 rfl) ?_
  refine wl_ldi hC (wg_da dt_law_11 47 rfl) ?_
  refine wl_iconst hC (2 : Int32) (by decide) (wg_da dt_law_11 48 rfl) ?_
  refine wl_iadd hC (wg_da dt_law_11 49 rfl) ?_
  refine wl_iald hC (wl_ix hK hL3 (j := 2) (by decide) (by decide)) (wg_da dt_law_11 50 rfl) ?_
  refine wl_callC hC [wl_a xs K 1, wl_a xs K 2] [] (wg_da dt_law_11 51 rfl) ⟨wq_5_155, wq_5_156, wq_5_157⟩ rfl wy_X11_kin (m_X11_kin l Ec 281 (wl_a xs K 1) (wl_a xs K 2) (by decide +kernel) _ _ h1) rfl rfl (Nat.le_of_ble_eq_true rfl) ⟨rfl, rfl, by decide, by decide⟩ ?_
  refine wl_ld2 hC (wg_da dt_law_11 52 rfl) ?_
  refine wl_ld0 hC (wg_da dt_law_11 53 rfl) ?_
  refine wl_ldi hC (wg_da dt_law_11 54 rfl) ?_
  refine wl_iconst hC (1 : Int32) (by decide) (wg_da dt_law_11 55 rfl) ?_
  refine wl_iadd hC (wg_da dt_law_11 56 rfl) ?_
  refine wl_iald hC (wl_ix hK hL3 (j := 1) (by decide) (by decide)) (wg_da dt_law_11 57 rfl) ?_
  refine wl_ld0 hC (wg_da dt_law_11 58 rfl) ?_
  refine wl_ldi hC (wg_da dt_law_11 59 rfl) ?_
  refine wl_iconst hC (2 : Int32) (by decide) (wg_da dt_law_12 0 rfl) ?_
  refine wl_iadd hC (wg_da dt_law_12 1 rfl) ?_
  refine wl_iald hC (wl_ix hK hL3 (j := 2) (by decide) (by decide)) (wg_da dt_law_12 2 rfl) ?_
  refine wl_callM hC [wl_a xs K 1, wl_a xs K 2] [.int r] (wg_da dt_law_12 3 rfl) ⟨wq_9_41, wq_9_42, wq_9_43⟩ rfl wy_X12_kin (m_X12_kin l Em 0 (wl_a xs K 1) (wl_a xs K 2) (by decide +kernel) _ _ h2) rfl rfl (Nat.le_of_ble_eq_true rfl) ⟨rfl, rfl, by decide, by decide⟩ ?_
  exact wl_icmp_eq hC 1483 (wg_da dt_law_12 4 rfl) (by decide) k
theorem wl_case_saves (hC : wl_C p s m meth c b L xs Ec Em kc ks) (hK : K + 6 ≤ L) {r : Int32} {σc1 σm1 : wg_M} (h1 : f_X11_saves 281 (wl_a xs K 1) (wl_a xs K 2) σc = some (r, σc1)) (h2 : f_X12_saves 0 (wl_a xs K 1) (wl_a xs K 2) σm = some (r, σm1)) (k : wl_G p l e s m below meth c b Ec Em kc ks 1483 (nI K) [] σc1 σm1) : wl_G p l e s m below meth c b Ec Em kc ks 1059 (nI K) [] σc σm := by
  have hL3 := hC.2.1
  refine wl_ld1 hC (wg_da dt_law_12 7 rfl) ?_
  refine wl_ld0 hC (wg_da dt_law_12 8 rfl) ?_
  refine wl_ldi hC (wg_da dt_law_12 9 rfl) ?_
  refine wl_iconst hC (1 : Int32) (by decide) (wg_da dt_law_12 10 rfl) ?_
  refine wl_iadd hC (wg_da dt_law_12 11 rfl) ?_
  refine wl_iald hC (wl_ix hK hL3 (j := 1) (by decide) (by decide)) (wg_da dt_law_12 12 rfl) ?_
  refine wl_ld0 hC (wg_da dt_law_12 13 rfl) ?_
  refine wl_ldi hC (wg_da dt_law_12 14 rfl) ?_
  refine wl_iconst hC (2 : Int32) (by decide) (wg_da dt_law_12 15 rfl) ?_
  refine wl_iadd hC (wg_da dt_law_12 16 rfl) ?_
  refine wl_iald hC (wl_ix hK hL3 (j := 2) (by decide) (by decide)) (wg_da dt_law_12 17 rfl) ?_
  refine wl_callC hC [wl_a xs K 1, wl_a xs K 2] [] (wg_da dt_law_12 18 rfl) ⟨wq_5_175, wq_5_176, wq_5_177⟩ rfl wy_X11_saves (m_X11_saves l Ec 281 (wl_a xs K 1) (wl_a xs K 2) (by decide +kernel) _ _ h1) rfl rfl (Nat.le_of_ble_eq_true rfl) ⟨rfl, rfl, by decide, by decide⟩ ?_
  refine wl_ld2 hC (wg_da dt_law_12 19 rfl) ?_
  refine wl_ld0 hC (wg_da dt_law_12 20 rfl) ?_
  refine wl_ldi hC (wg_da dt_law_12 21 rfl) ?_
  refine wl_iconst hC (1 : Int32) (by decide) (wg_da dt_law_12 22 rfl) ?_
  refine wl_iadd hC (wg_da dt_law_12 23 rfl) ?_
  refine wl_iald hC (wl_ix hK hL3 (j := 1) (by decide) (by decide)) (wg_da dt_law_12 24 rfl) ?_
  refine wl_ld0 hC (wg_da dt_law_12 25 rfl) ?_
  refine wl_ldi hC (wg_da dt_law_12 26 rfl) ?_
  refine wl_iconst hC (2 : Int32) (by decide) (wg_da dt_law_12 27 rfl) ?_
  refine wl_iadd hC (wg_da dt_law_12 28 rfl) ?_
  refine wl_iald hC (wl_ix hK hL3 (j := 2) (by decide) (by decide)) (wg_da dt_law_12 29 rfl) ?_
  refine wl_callM hC [wl_a xs K 1, wl_a xs K 2] [.int r] (wg_da dt_law_12 30 rfl) ⟨wq_9_61, wq_9_62, wq_9_63⟩ rfl wy_X12_saves (m_X12_saves l Em 0 (wl_a xs K 1) (wl_a xs K 2) (by decide +kernel) _ _ h2) rfl rfl (Nat.le_of_ble_eq_true rfl) ⟨rfl, rfl, by decide, by decide⟩ ?_
  exact wl_icmp_eq hC 1483 (wg_da dt_law_12 31 rfl) (by decide) k
theorem wl_case_panels (hC : wl_C p s m meth c b L xs Ec Em kc ks) (hK : K + 6 ≤ L) {r : Int32} {σc1 σm1 : wg_M} (h1 : f_X11_panels 281 (wl_a xs K 1) (wl_a xs K 2) σc = some (r, σc1)) (h2 : f_X12_panels 0 (wl_a xs K 1) (wl_a xs K 2) σm = some (r, σm1)) (k : wl_G p l e s m below meth c b Ec Em kc ks 1483 (nI K) [] σc1 σm1) : wl_G p l e s m below meth c b Ec Em kc ks 1092 (nI K) [] σc σm := by
  have hL3 := hC.2.1
  refine wl_ld1 hC (wg_da dt_law_12 34 rfl) ?_
  refine wl_ld0 hC (wg_da dt_law_12 35 rfl) ?_
  refine wl_ldi hC (wg_da dt_law_12 36 rfl) ?_
  refine wl_iconst hC (1 : Int32) (by decide) (wg_da dt_law_12 37 rfl) ?_
  refine wl_iadd hC (wg_da dt_law_12 38 rfl) ?_
  refine wl_iald hC (wl_ix hK hL3 (j := 1) (by decide) (by decide)) (wg_da dt_law_12 39 rfl) ?_
  refine wl_ld0 hC (wg_da dt_law_12 40 rfl) ?_
  refine wl_ldi hC (wg_da dt_law_12 41 rfl) ?_
  refine wl_iconst hC (2 : Int32) (by decide) (wg_da dt_law_12 42 rfl) ?_
  refine wl_iadd hC (wg_da dt_law_12 43 rfl) ?_
  refine wl_iald hC (wl_ix hK hL3 (j := 2) (by decide) (by decide)) (wg_da dt_law_12 44 rfl) ?_
  refine wl_callC hC [wl_a xs K 1, wl_a xs K 2] [] (wg_da dt_law_12 45 rfl) ⟨wq_5_189, wq_5_190, wq_5_191⟩ rfl wy_X11_panels (m_X11_panels l Ec 281 (wl_a xs K 1) (wl_a xs K 2) (by decide +kernel) _ _ h1) rfl rfl (Nat.le_of_ble_eq_true rfl) ⟨rfl, rfl, by decide, by decide⟩ ?_
  refine wl_ld2 hC (wg_da dt_law_12 46 rfl) ?_
  refine wl_ld0 hC (wg_da dt_law_12 47 rfl) ?_
  refine wl_ldi hC (wg_da dt_law_12 48 rfl) ?_
  refine wl_iconst hC (1 : Int32) (by decide) (wg_da dt_law_12 49 rfl) ?_
  refine wl_iadd hC (wg_da dt_law_12 50 rfl) ?_
  refine wl_iald hC (wl_ix hK hL3 (j := 1) (by decide) (by decide)) (wg_da dt_law_12 51 rfl) ?_
  refine wl_ld0 hC (wg_da dt_law_12 52 rfl) ?_
  refine wl_ldi hC (wg_da dt_law_12 53 rfl) ?_
  refine wl_iconst hC (2 : Int32) (by decide) (wg_da dt_law_12 54 rfl) ?_
  refine wl_iadd hC (wg_da dt_law_12 55 rfl) ?_
  refine wl_iald hC (wl_ix hK hL3 (j := 2) (by decide) (by decide)) (wg_da dt_law_12 56 rfl) ?_
  refine wl_callM hC [wl_a xs K 1, wl_a xs K 2] [.int r] (wg_da dt_law_12 57 rfl) ⟨wq_9_73, wq_9_74, wq_9_75⟩ rfl wy_X12_panels (m_X12_panels l Em 0 (wl_a xs K 1) (wl_a xs K 2) (by decide +kernel) _ _ h2) rfl rfl (Nat.le_of_ble_eq_true rfl) ⟨rfl, rfl, by decide, by decide⟩ ?_
  exact wl_icmp_eq hC 1483 (wg_da dt_law_12 58 rfl) (by decide) k
theorem wl_case_trait (hC : wl_C p s m meth c b L xs Ec Em kc ks) (hK : K + 6 ≤ L) {r : Int32} {σc1 σm1 : wg_M} (h1 : f_X11_trait 281 (wl_a xs K 1) (wl_a xs K 2) (wl_z (wl_a xs K 3)) σc = some (r, σc1)) (h2 : f_X12_trait 0 (wl_a xs K 1) (wl_a xs K 2) (wl_z (wl_a xs K 3)) σm = some (r, σm1)) (k : wl_G p l e s m below meth c b Ec Em kc ks 1483 (nI K) [] σc1 σm1) : wl_G p l e s m below meth c b Ec Em kc ks 1125 (nI K) [] σc σm := by
  have hL3 := hC.2.1
  refine wl_ld1 hC (wg_da dt_law_13 1 rfl) ?_
  refine wl_ld0 hC (wg_da dt_law_13 2 rfl) ?_
  refine wl_ldi hC (wg_da dt_law_13 3 rfl) ?_
  refine wl_iconst hC (1 : Int32) (by decide) (wg_da dt_law_13 4 rfl) ?_
  refine wl_iadd hC (wg_da dt_law_13 5 rfl) ?_
  refine wl_iald hC (wl_ix hK hL3 (j := 1) (by decide) (by decide)) (wg_da dt_law_13 6 rfl) ?_
  refine wl_ld0 hC (wg_da dt_law_13 7 rfl) ?_
  refine wl_ldi hC (wg_da dt_law_13 8 rfl) ?_
  refine wl_iconst hC (2 : Int32) (by decide) (wg_da dt_law_13 9 rfl) ?_
  refine wl_iadd hC (wg_da dt_law_13 10 rfl) ?_
  refine wl_iald hC (wl_ix hK hL3 (j := 2) (by decide) (by decide)) (wg_da dt_law_13 11 rfl) ?_
  refine wl_ld0 hC (wg_da dt_law_13 12 rfl) ?_
  refine wl_ldi hC (wg_da dt_law_13 13 rfl) ?_
  refine wl_iconst hC (3 : Int32) (by decide) (wg_da dt_law_13 14 rfl) ?_
  refine wl_iadd hC (wg_da dt_law_13 15 rfl) ?_
  refine wl_iald hC (wl_ix hK hL3 (j := 3) (by decide) (by decide)) (wg_da dt_law_13 16 rfl) ?_
  refine wl_if_eq hC 1148 (wg_da dt_law_13 17 rfl) (by decide) (fun hz => ?_) (fun hz => ?_)
  · refine wl_iconst hC (0 : Int32) (by decide) (wg_da dt_law_13 20 rfl) ?_
    refine wl_top (y := wl_z (wl_a xs K 3)) (if_pos hz).symm ?_
    refine wl_callC hC [wl_a xs K 1, wl_a xs K 2, wl_z (wl_a xs K 3)] [] (wg_da dt_law_13 21 rfl) ⟨wq_5_205, wq_5_206, wq_5_207⟩ rfl wy_X11_trait (m_X11_trait l Ec 281 (wl_a xs K 1) (wl_a xs K 2) (wl_z (wl_a xs K 3)) (by decide +kernel) _ _ h1) rfl rfl (Nat.le_of_ble_eq_true rfl) ⟨rfl, rfl, by decide, by decide⟩ ?_
    refine wl_ld2 hC (wg_da dt_law_13 22 rfl) ?_
    refine wl_ld0 hC (wg_da dt_law_13 23 rfl) ?_
    refine wl_ldi hC (wg_da dt_law_13 24 rfl) ?_
    refine wl_iconst hC (1 : Int32) (by decide) (wg_da dt_law_13 25 rfl) ?_
    refine wl_iadd hC (wg_da dt_law_13 26 rfl) ?_
    refine wl_iald hC (wl_ix hK hL3 (j := 1) (by decide) (by decide)) (wg_da dt_law_13 27 rfl) ?_
    refine wl_ld0 hC (wg_da dt_law_13 28 rfl) ?_
    refine wl_ldi hC (wg_da dt_law_13 29 rfl) ?_
    refine wl_iconst hC (2 : Int32) (by decide) (wg_da dt_law_13 30 rfl) ?_
    refine wl_iadd hC (wg_da dt_law_13 31 rfl) ?_
    refine wl_iald hC (wl_ix hK hL3 (j := 2) (by decide) (by decide)) (wg_da dt_law_13 32 rfl) ?_
    refine wl_ld0 hC (wg_da dt_law_13 33 rfl) ?_
    refine wl_ldi hC (wg_da dt_law_13 34 rfl) ?_
    refine wl_iconst hC (3 : Int32) (by decide) (wg_da dt_law_13 35 rfl) ?_
    refine wl_iadd hC (wg_da dt_law_13 36 rfl) ?_
    refine wl_iald hC (wl_ix hK hL3 (j := 3) (by decide) (by decide)) (wg_da dt_law_13 37 rfl) ?_
    refine wl_if_eq hC 1175 (wg_da dt_law_13 38 rfl) (by decide) (fun hz => ?_) (fun hz => ?_)
    · refine wl_iconst hC (0 : Int32) (by decide) (wg_da dt_law_13 41 rfl) ?_
      refine wl_top (y := wl_z (wl_a xs K 3)) (if_pos hz).symm ?_
      refine wl_callM hC [wl_a xs K 1, wl_a xs K 2, wl_z (wl_a xs K 3)] [.int r] (wg_da dt_law_13 42 rfl) ⟨wq_9_81, wq_9_82, wq_9_83⟩ rfl wy_X12_trait (m_X12_trait l Em 0 (wl_a xs K 1) (wl_a xs K 2) (wl_z (wl_a xs K 3)) (by decide +kernel) _ _ h2) rfl rfl (Nat.le_of_ble_eq_true rfl) ⟨rfl, rfl, by decide, by decide⟩ ?_
      exact wl_icmp_eq hC 1483 (wg_da dt_law_13 43 rfl) (by decide) k
    · refine wl_iconst hC (1 : Int32) (by decide) (wg_da dt_law_13 39 rfl) ?_
      refine wl_goto hC 1176 (wg_da dt_law_13 40 rfl) (by decide) ?_
      refine wl_top (y := wl_z (wl_a xs K 3)) (if_neg hz).symm ?_
      refine wl_callM hC [wl_a xs K 1, wl_a xs K 2, wl_z (wl_a xs K 3)] [.int r] (wg_da dt_law_13 42 rfl) ⟨wq_9_81, wq_9_82, wq_9_83⟩ rfl wy_X12_trait (m_X12_trait l Em 0 (wl_a xs K 1) (wl_a xs K 2) (wl_z (wl_a xs K 3)) (by decide +kernel) _ _ h2) rfl rfl (Nat.le_of_ble_eq_true rfl) ⟨rfl, rfl, by decide, by decide⟩ ?_
      exact wl_icmp_eq hC 1483 (wg_da dt_law_13 43 rfl) (by decide) k
  · refine wl_iconst hC (1 : Int32) (by decide) (wg_da dt_law_13 18 rfl) ?_
    refine wl_goto hC 1149 (wg_da dt_law_13 19 rfl) (by decide) ?_
    refine wl_top (y := wl_z (wl_a xs K 3)) (if_neg hz).symm ?_
    refine wl_callC hC [wl_a xs K 1, wl_a xs K 2, wl_z (wl_a xs K 3)] [] (wg_da dt_law_13 21 rfl) ⟨wq_5_205, wq_5_206, wq_5_207⟩ rfl wy_X11_trait (m_X11_trait l Ec 281 (wl_a xs K 1) (wl_a xs K 2) (wl_z (wl_a xs K 3)) (by decide +kernel) _ _ h1) rfl rfl (Nat.le_of_ble_eq_true rfl) ⟨rfl, rfl, by decide, by decide⟩ ?_
    refine wl_ld2 hC (wg_da dt_law_13 22 rfl) ?_
    refine wl_ld0 hC (wg_da dt_law_13 23 rfl) ?_
    refine wl_ldi hC (wg_da dt_law_13 24 rfl) ?_
    refine wl_iconst hC (1 : Int32) (by decide) (wg_da dt_law_13 25 rfl) ?_
    refine wl_iadd hC (wg_da dt_law_13 26 rfl) ?_
    refine wl_iald hC (wl_ix hK hL3 (j := 1) (by decide) (by decide)) (wg_da dt_law_13 27 rfl) ?_
    refine wl_ld0 hC (wg_da dt_law_13 28 rfl) ?_
    refine wl_ldi hC (wg_da dt_law_13 29 rfl) ?_
    refine wl_iconst hC (2 : Int32) (by decide) (wg_da dt_law_13 30 rfl) ?_
    refine wl_iadd hC (wg_da dt_law_13 31 rfl) ?_
    refine wl_iald hC (wl_ix hK hL3 (j := 2) (by decide) (by decide)) (wg_da dt_law_13 32 rfl) ?_
    refine wl_ld0 hC (wg_da dt_law_13 33 rfl) ?_
    refine wl_ldi hC (wg_da dt_law_13 34 rfl) ?_
    refine wl_iconst hC (3 : Int32) (by decide) (wg_da dt_law_13 35 rfl) ?_
    refine wl_iadd hC (wg_da dt_law_13 36 rfl) ?_
    refine wl_iald hC (wl_ix hK hL3 (j := 3) (by decide) (by decide)) (wg_da dt_law_13 37 rfl) ?_
    refine wl_if_eq hC 1175 (wg_da dt_law_13 38 rfl) (by decide) (fun hz => ?_) (fun hz => ?_)
    · refine wl_iconst hC (0 : Int32) (by decide) (wg_da dt_law_13 41 rfl) ?_
      refine wl_top (y := wl_z (wl_a xs K 3)) (if_pos hz).symm ?_
      refine wl_callM hC [wl_a xs K 1, wl_a xs K 2, wl_z (wl_a xs K 3)] [.int r] (wg_da dt_law_13 42 rfl) ⟨wq_9_81, wq_9_82, wq_9_83⟩ rfl wy_X12_trait (m_X12_trait l Em 0 (wl_a xs K 1) (wl_a xs K 2) (wl_z (wl_a xs K 3)) (by decide +kernel) _ _ h2) rfl rfl (Nat.le_of_ble_eq_true rfl) ⟨rfl, rfl, by decide, by decide⟩ ?_
      exact wl_icmp_eq hC 1483 (wg_da dt_law_13 43 rfl) (by decide) k
    · refine wl_iconst hC (1 : Int32) (by decide) (wg_da dt_law_13 39 rfl) ?_
      refine wl_goto hC 1176 (wg_da dt_law_13 40 rfl) (by decide) ?_
      refine wl_top (y := wl_z (wl_a xs K 3)) (if_neg hz).symm ?_
      refine wl_callM hC [wl_a xs K 1, wl_a xs K 2, wl_z (wl_a xs K 3)] [.int r] (wg_da dt_law_13 42 rfl) ⟨wq_9_81, wq_9_82, wq_9_83⟩ rfl wy_X12_trait (m_X12_trait l Em 0 (wl_a xs K 1) (wl_a xs K 2) (wl_z (wl_a xs K 3)) (by decide +kernel) _ _ h2) rfl rfl (Nat.le_of_ble_eq_true rfl) ⟨rfl, rfl, by decide, by decide⟩ ?_
      exact wl_icmp_eq hC 1483 (wg_da dt_law_13 43 rfl) (by decide) k
theorem wl_case_whose (hC : wl_C p s m meth c b L xs Ec Em kc ks) (hK : K + 6 ≤ L) {r : Int32} {σc1 σm1 : wg_M} (h1 : f_X11_whose 281 (wl_a xs K 1) σc = some (r, σc1)) (h2 : f_X12_whose 0 (wl_a xs K 1) σm = some (r, σm1)) (k : wl_G p l e s m below meth c b Ec Em kc ks 1483 (nI K) [] σc1 σm1) : wl_G p l e s m below meth c b Ec Em kc ks 1184 (nI K) [] σc σm := by
  have hL3 := hC.2.1
  refine wl_ld1 hC (wg_da dt_law_13 46 rfl) ?_
  refine wl_ld0 hC (wg_da dt_law_13 47 rfl) ?_
  refine wl_ldi hC (wg_da dt_law_13 48 rfl) ?_
  refine wl_iconst hC (1 : Int32) (by decide) (wg_da dt_law_13 49 rfl) ?_
  refine wl_iadd hC (wg_da dt_law_13 50 rfl) ?_
  refine wl_iald hC (wl_ix hK hL3 (j := 1) (by decide) (by decide)) (wg_da dt_law_13 51 rfl) ?_
  refine wl_callC hC [wl_a xs K 1] [] (wg_da dt_law_13 52 rfl) ⟨wq_5_214, wq_5_215, wq_5_216⟩ rfl wy_X11_whose (m_X11_whose l Ec 281 (wl_a xs K 1) (by decide +kernel) _ _ h1) rfl rfl (Nat.le_of_ble_eq_true rfl) ⟨rfl, rfl, by decide, by decide⟩ ?_
  refine wl_ld2 hC (wg_da dt_law_13 53 rfl) ?_
  refine wl_ld0 hC (wg_da dt_law_13 54 rfl) ?_
  refine wl_ldi hC (wg_da dt_law_13 55 rfl) ?_
  refine wl_iconst hC (1 : Int32) (by decide) (wg_da dt_law_13 56 rfl) ?_
  refine wl_iadd hC (wg_da dt_law_13 57 rfl) ?_
  refine wl_iald hC (wl_ix hK hL3 (j := 1) (by decide) (by decide)) (wg_da dt_law_13 58 rfl) ?_
  refine wl_callM hC [wl_a xs K 1] [.int r] (wg_da dt_law_13 59 rfl) ⟨wq_9_85, wq_9_86, wq_9_87⟩ rfl wy_X12_whose (m_X12_whose l Em 0 (wl_a xs K 1) (by decide +kernel) _ _ h2) rfl rfl (Nat.le_of_ble_eq_true rfl) ⟨rfl, rfl, by decide, by decide⟩ ?_
  exact wl_icmp_eq hC 1483 (wg_da dt_law_14 0 rfl) (by decide) k
theorem wl_case_cite (hC : wl_C p s m meth c b L xs Ec Em kc ks) (hK : K + 6 ≤ L) {r : Int32} {σc1 σm1 : wg_M} (h1 : f_X11_cite 281 (wl_a xs K 1) (wl_a xs K 2) σc = some (r, σc1)) (h2 : f_X12_cite 0 (wl_a xs K 1) (wl_a xs K 2) σm = some (r, σm1)) (k : wl_G p l e s m below meth c b Ec Em kc ks 1483 (nI K) [] σc1 σm1) : wl_G p l e s m below meth c b Ec Em kc ks 1207 (nI K) [] σc σm := by
  have hL3 := hC.2.1
  refine wl_ld1 hC (wg_da dt_law_14 3 rfl) ?_
  refine wl_ld0 hC (wg_da dt_law_14 4 rfl) ?_
  refine wl_ldi hC (wg_da dt_law_14 5 rfl) ?_
  refine wl_iconst hC (1 : Int32) (by decide) (wg_da dt_law_14 6 rfl) ?_
  refine wl_iadd hC (wg_da dt_law_14 7 rfl) ?_
  refine wl_iald hC (wl_ix hK hL3 (j := 1) (by decide) (by decide)) (wg_da dt_law_14 8 rfl) ?_
  refine wl_ld0 hC (wg_da dt_law_14 9 rfl) ?_
  refine wl_ldi hC (wg_da dt_law_14 10 rfl) ?_
  refine wl_iconst hC (2 : Int32) (by decide) (wg_da dt_law_14 11 rfl) ?_
  refine wl_iadd hC (wg_da dt_law_14 12 rfl) ?_
  refine wl_iald hC (wl_ix hK hL3 (j := 2) (by decide) (by decide)) (wg_da dt_law_14 13 rfl) ?_
  refine wl_callC hC [wl_a xs K 1, wl_a xs K 2] [] (wg_da dt_law_14 14 rfl) ⟨wq_6_2, wq_6_3, wq_6_4⟩ rfl wy_X11_cite (m_X11_cite l Ec 281 (wl_a xs K 1) (wl_a xs K 2) (by decide +kernel) _ _ h1) rfl rfl (Nat.le_of_ble_eq_true rfl) ⟨rfl, rfl, by decide, by decide⟩ ?_
  refine wl_ld2 hC (wg_da dt_law_14 15 rfl) ?_
  refine wl_ld0 hC (wg_da dt_law_14 16 rfl) ?_
  refine wl_ldi hC (wg_da dt_law_14 17 rfl) ?_
  refine wl_iconst hC (1 : Int32) (by decide) (wg_da dt_law_14 18 rfl) ?_
  refine wl_iadd hC (wg_da dt_law_14 19 rfl) ?_
  refine wl_iald hC (wl_ix hK hL3 (j := 1) (by decide) (by decide)) (wg_da dt_law_14 20 rfl) ?_
  refine wl_ld0 hC (wg_da dt_law_14 21 rfl) ?_
  refine wl_ldi hC (wg_da dt_law_14 22 rfl) ?_
  refine wl_iconst hC (2 : Int32) (by decide) (wg_da dt_law_14 23 rfl) ?_
  refine wl_iadd hC (wg_da dt_law_14 24 rfl) ?_
  refine wl_iald hC (wl_ix hK hL3 (j := 2) (by decide) (by decide)) (wg_da dt_law_14 25 rfl) ?_
  refine wl_callM hC [wl_a xs K 1, wl_a xs K 2] [.int r] (wg_da dt_law_14 26 rfl) ⟨wq_9_98, wq_9_99, wq_9_100⟩ rfl wy_X12_cite (m_X12_cite l Em 0 (wl_a xs K 1) (wl_a xs K 2) (by decide +kernel) _ _ h2) rfl rfl (Nat.le_of_ble_eq_true rfl) ⟨rfl, rfl, by decide, by decide⟩ ?_
  exact wl_icmp_eq hC 1483 (wg_da dt_law_14 27 rfl) (by decide) k
theorem wl_case_chain (hC : wl_C p s m meth c b L xs Ec Em kc ks) (hK : K + 6 ≤ L) {r : Int32} {σc1 σm1 : wg_M} (h1 : f_X11_chain 281 (wl_a xs K 1) σc = some (r, σc1)) (h2 : f_X12_chain 0 (wl_a xs K 1) σm = some (r, σm1)) (k : wl_G p l e s m below meth c b Ec Em kc ks 1483 (nI K) [] σc1 σm1) : wl_G p l e s m below meth c b Ec Em kc ks 1240 (nI K) [] σc σm := by
  have hL3 := hC.2.1
  refine wl_ld1 hC (wg_da dt_law_14 30 rfl) ?_
  refine wl_ld0 hC (wg_da dt_law_14 31 rfl) ?_
  refine wl_ldi hC (wg_da dt_law_14 32 rfl) ?_
  refine wl_iconst hC (1 : Int32) (by decide) (wg_da dt_law_14 33 rfl) ?_
  refine wl_iadd hC (wg_da dt_law_14 34 rfl) ?_
  refine wl_iald hC (wl_ix hK hL3 (j := 1) (by decide) (by decide)) (wg_da dt_law_14 35 rfl) ?_
  refine wl_callC hC [wl_a xs K 1] [] (wg_da dt_law_14 36 rfl) ⟨wq_6_10, wq_6_11, wq_6_12⟩ rfl wy_X11_chain (m_X11_chain l Ec 281 (wl_a xs K 1) (by decide +kernel) _ _ h1) rfl rfl (Nat.le_of_ble_eq_true rfl) ⟨rfl, rfl, by decide, by decide⟩ ?_
  refine wl_ld2 hC (wg_da dt_law_14 37 rfl) ?_
  refine wl_ld0 hC (wg_da dt_law_14 38 rfl) ?_
  refine wl_ldi hC (wg_da dt_law_14 39 rfl) ?_
  refine wl_iconst hC (1 : Int32) (by decide) (wg_da dt_law_14 40 rfl) ?_
  refine wl_iadd hC (wg_da dt_law_14 41 rfl) ?_
  refine wl_iald hC (wl_ix hK hL3 (j := 1) (by decide) (by decide)) (wg_da dt_law_14 42 rfl) ?_
  refine wl_callM hC [wl_a xs K 1] [.int r] (wg_da dt_law_14 43 rfl) ⟨wq_9_102, wq_9_103, wq_9_104⟩ rfl wy_X12_chain (m_X12_chain l Em 0 (wl_a xs K 1) (by decide +kernel) _ _ h2) rfl rfl (Nat.le_of_ble_eq_true rfl) ⟨rfl, rfl, by decide, by decide⟩ ?_
  exact wl_icmp_eq hC 1483 (wg_da dt_law_14 44 rfl) (by decide) k
theorem wl_case_parcel (hC : wl_C p s m meth c b L xs Ec Em kc ks) (hK : K + 6 ≤ L) {r : Int32} {σc1 σm1 : wg_M} (h1 : f_X11_parcel 281 (wl_a xs K 1) (wl_a xs K 2) (wl_a xs K 3) σc = some (r, σc1)) (h2 : f_X12_parcel 0 (wl_a xs K 1) (wl_a xs K 2) (wl_a xs K 3) σm = some (r, σm1)) (k : wl_G p l e s m below meth c b Ec Em kc ks 1483 (nI K) [] σc1 σm1) : wl_G p l e s m below meth c b Ec Em kc ks 1263 (nI K) [] σc σm := by
  have hL3 := hC.2.1
  refine wl_ld1 hC (wg_da dt_law_14 47 rfl) ?_
  refine wl_ld0 hC (wg_da dt_law_14 48 rfl) ?_
  refine wl_ldi hC (wg_da dt_law_14 49 rfl) ?_
  refine wl_iconst hC (1 : Int32) (by decide) (wg_da dt_law_14 50 rfl) ?_
  refine wl_iadd hC (wg_da dt_law_14 51 rfl) ?_
  refine wl_iald hC (wl_ix hK hL3 (j := 1) (by decide) (by decide)) (wg_da dt_law_14 52 rfl) ?_
  refine wl_ld0 hC (wg_da dt_law_14 53 rfl) ?_
  refine wl_ldi hC (wg_da dt_law_14 54 rfl) ?_
  refine wl_iconst hC (2 : Int32) (by decide) (wg_da dt_law_14 55 rfl) ?_
  refine wl_iadd hC (wg_da dt_law_14 56 rfl) ?_
  refine wl_iald hC (wl_ix hK hL3 (j := 2) (by decide) (by decide)) (wg_da dt_law_14 57 rfl) ?_
  refine wl_ld0 hC (wg_da dt_law_14 58 rfl) ?_
  refine wl_ldi hC (wg_da dt_law_14 59 rfl) ?_
  refine wl_iconst hC (3 : Int32) (by decide) (wg_da dt_law_15 0 rfl) ?_
  refine wl_iadd hC (wg_da dt_law_15 1 rfl) ?_
  refine wl_iald hC (wl_ix hK hL3 (j := 3) (by decide) (by decide)) (wg_da dt_law_15 2 rfl) ?_
  refine wl_callC hC [wl_a xs K 1, wl_a xs K 2, wl_a xs K 3] [] (wg_da dt_law_15 3 rfl) ⟨wq_6_23, wq_6_24, wq_6_25⟩ rfl wy_X11_parcel (m_X11_parcel l Ec 281 (wl_a xs K 1) (wl_a xs K 2) (wl_a xs K 3) (by decide +kernel) _ _ h1) rfl rfl (Nat.le_of_ble_eq_true rfl) ⟨rfl, rfl, by decide, by decide⟩ ?_
  refine wl_ld2 hC (wg_da dt_law_15 4 rfl) ?_
  refine wl_ld0 hC (wg_da dt_law_15 5 rfl) ?_
  refine wl_ldi hC (wg_da dt_law_15 6 rfl) ?_
  refine wl_iconst hC (1 : Int32) (by decide) (wg_da dt_law_15 7 rfl) ?_
  refine wl_iadd hC (wg_da dt_law_15 8 rfl) ?_
  refine wl_iald hC (wl_ix hK hL3 (j := 1) (by decide) (by decide)) (wg_da dt_law_15 9 rfl) ?_
  refine wl_ld0 hC (wg_da dt_law_15 10 rfl) ?_
  refine wl_ldi hC (wg_da dt_law_15 11 rfl) ?_
  refine wl_iconst hC (2 : Int32) (by decide) (wg_da dt_law_15 12 rfl) ?_
  refine wl_iadd hC (wg_da dt_law_15 13 rfl) ?_
  refine wl_iald hC (wl_ix hK hL3 (j := 2) (by decide) (by decide)) (wg_da dt_law_15 14 rfl) ?_
  refine wl_ld0 hC (wg_da dt_law_15 15 rfl) ?_
  refine wl_ldi hC (wg_da dt_law_15 16 rfl) ?_
  refine wl_iconst hC (3 : Int32) (by decide) (wg_da dt_law_15 17 rfl) ?_
  refine wl_iadd hC (wg_da dt_law_15 18 rfl) ?_
  refine wl_iald hC (wl_ix hK hL3 (j := 3) (by decide) (by decide)) (wg_da dt_law_15 19 rfl) ?_
  refine wl_callM hC [wl_a xs K 1, wl_a xs K 2, wl_a xs K 3] [.int r] (wg_da dt_law_15 20 rfl) ⟨wq_9_114, wq_9_115, wq_9_116⟩ rfl wy_X12_parcel (m_X12_parcel l Em 0 (wl_a xs K 1) (wl_a xs K 2) (wl_a xs K 3) (by decide +kernel) _ _ h2) rfl rfl (Nat.le_of_ble_eq_true rfl) ⟨rfl, rfl, by decide, by decide⟩ ?_
  exact wl_icmp_eq hC 1483 (wg_da dt_law_15 21 rfl) (by decide) k
theorem wl_case_cut (hC : wl_C p s m meth c b L xs Ec Em kc ks) (hK : K + 6 ≤ L) {r : Int32} {σc1 σm1 : wg_M} (h1 : f_X11_cut 281 (wl_a xs K 1) σc = some (r, σc1)) (h2 : f_X12_cut 0 (wl_a xs K 1) σm = some (r, σm1)) (k : wl_G p l e s m below meth c b Ec Em kc ks 1483 (nI K) [] σc1 σm1) : wl_G p l e s m below meth c b Ec Em kc ks 1306 (nI K) [] σc σm := by
  have hL3 := hC.2.1
  refine wl_ld1 hC (wg_da dt_law_15 24 rfl) ?_
  refine wl_ld0 hC (wg_da dt_law_15 25 rfl) ?_
  refine wl_ldi hC (wg_da dt_law_15 26 rfl) ?_
  refine wl_iconst hC (1 : Int32) (by decide) (wg_da dt_law_15 27 rfl) ?_
  refine wl_iadd hC (wg_da dt_law_15 28 rfl) ?_
  refine wl_iald hC (wl_ix hK hL3 (j := 1) (by decide) (by decide)) (wg_da dt_law_15 29 rfl) ?_
  refine wl_callC hC [wl_a xs K 1] [] (wg_da dt_law_15 30 rfl) ⟨wq_6_27, wq_6_28, wq_6_29⟩ rfl wy_X11_cut (m_X11_cut l Ec 281 (wl_a xs K 1) (by decide +kernel) _ _ h1) rfl rfl (Nat.le_of_ble_eq_true rfl) ⟨rfl, rfl, by decide, by decide⟩ ?_
  refine wl_ld2 hC (wg_da dt_law_15 31 rfl) ?_
  refine wl_ld0 hC (wg_da dt_law_15 32 rfl) ?_
  refine wl_ldi hC (wg_da dt_law_15 33 rfl) ?_
  refine wl_iconst hC (1 : Int32) (by decide) (wg_da dt_law_15 34 rfl) ?_
  refine wl_iadd hC (wg_da dt_law_15 35 rfl) ?_
  refine wl_iald hC (wl_ix hK hL3 (j := 1) (by decide) (by decide)) (wg_da dt_law_15 36 rfl) ?_
  refine wl_callM hC [wl_a xs K 1] [.int r] (wg_da dt_law_15 37 rfl) ⟨wq_9_118, wq_9_119, wq_9_120⟩ rfl wy_X12_cut (m_X12_cut l Em 0 (wl_a xs K 1) (by decide +kernel) _ _ h2) rfl rfl (Nat.le_of_ble_eq_true rfl) ⟨rfl, rfl, by decide, by decide⟩ ?_
  exact wl_icmp_eq hC 1483 (wg_da dt_law_15 38 rfl) (by decide) k
theorem wl_case_hard (hC : wl_C p s m meth c b L xs Ec Em kc ks) (hK : K + 6 ≤ L) {r : Int32} {σc1 σm1 : wg_M} (h1 : f_X11_hard 281 (wl_a xs K 1) (wl_a xs K 2) σc = some (r, σc1)) (h2 : f_X12_hard 0 (wl_a xs K 1) (wl_a xs K 2) σm = some (r, σm1)) (k : wl_G p l e s m below meth c b Ec Em kc ks 1483 (nI K) [] σc1 σm1) : wl_G p l e s m below meth c b Ec Em kc ks 1329 (nI K) [] σc σm := by
  have hL3 := hC.2.1
  refine wl_ld1 hC (wg_da dt_law_15 41 rfl) ?_
  refine wl_ld0 hC (wg_da dt_law_15 42 rfl) ?_
  refine wl_ldi hC (wg_da dt_law_15 43 rfl) ?_
  refine wl_iconst hC (1 : Int32) (by decide) (wg_da dt_law_15 44 rfl) ?_
  refine wl_iadd hC (wg_da dt_law_15 45 rfl) ?_
  refine wl_iald hC (wl_ix hK hL3 (j := 1) (by decide) (by decide)) (wg_da dt_law_15 46 rfl) ?_
  refine wl_ld0 hC (wg_da dt_law_15 47 rfl) ?_
  refine wl_ldi hC (wg_da dt_law_15 48 rfl) ?_
  refine wl_iconst hC (2 : Int32) (by decide) (wg_da dt_law_15 49 rfl) ?_
  refine wl_iadd hC (wg_da dt_law_15 50 rfl) ?_
  refine wl_iald hC (wl_ix hK hL3 (j := 2) (by decide) (by decide)) (wg_da dt_law_15 51 rfl) ?_
  refine wl_callC hC [wl_a xs K 1, wl_a xs K 2] [] (wg_da dt_law_15 52 rfl) ⟨wq_6_50, wq_6_51, wq_6_52⟩ rfl wy_X11_hard (m_X11_hard l Ec 281 (wl_a xs K 1) (wl_a xs K 2) (by decide +kernel) _ _ h1) rfl rfl (Nat.le_of_ble_eq_true rfl) ⟨rfl, rfl, by decide, by decide⟩ ?_
  refine wl_ld2 hC (wg_da dt_law_15 53 rfl) ?_
  refine wl_ld0 hC (wg_da dt_law_15 54 rfl) ?_
  refine wl_ldi hC (wg_da dt_law_15 55 rfl) ?_
  refine wl_iconst hC (1 : Int32) (by decide) (wg_da dt_law_15 56 rfl) ?_
  refine wl_iadd hC (wg_da dt_law_15 57 rfl) ?_
  refine wl_iald hC (wl_ix hK hL3 (j := 1) (by decide) (by decide)) (wg_da dt_law_15 58 rfl) ?_
  refine wl_ld0 hC (wg_da dt_law_15 59 rfl) ?_
  refine wl_ldi hC (wg_da dt_law_16 0 rfl) ?_
  refine wl_iconst hC (2 : Int32) (by decide) (wg_da dt_law_16 1 rfl) ?_
  refine wl_iadd hC (wg_da dt_law_16 2 rfl) ?_
  refine wl_iald hC (wl_ix hK hL3 (j := 2) (by decide) (by decide)) (wg_da dt_law_16 3 rfl) ?_
  refine wl_callM hC [wl_a xs K 1, wl_a xs K 2] [.int r] (wg_da dt_law_16 4 rfl) ⟨wq_9_130, wq_9_131, wq_9_132⟩ rfl wy_X12_hard (m_X12_hard l Em 0 (wl_a xs K 1) (wl_a xs K 2) (by decide +kernel) _ _ h2) rfl rfl (Nat.le_of_ble_eq_true rfl) ⟨rfl, rfl, by decide, by decide⟩ ?_
  exact wl_icmp_eq hC 1483 (wg_da dt_law_16 5 rfl) (by decide) k
theorem wl_case_hears (hC : wl_C p s m meth c b L xs Ec Em kc ks) (hK : K + 6 ≤ L) {r : Int32} {σc1 σm1 : wg_M} (h1 : f_X11_hears 281 (wl_a xs K 1) σc = some (r, σc1)) (h2 : f_X12_hears 0 (wl_a xs K 1) σm = some (r, σm1)) (k : wl_G p l e s m below meth c b Ec Em kc ks 1483 (nI K) [] σc1 σm1) : wl_G p l e s m below meth c b Ec Em kc ks 1362 (nI K) [] σc σm := by
  have hL3 := hC.2.1
  refine wl_ld1 hC (wg_da dt_law_16 8 rfl) ?_
  refine wl_ld0 hC (wg_da dt_law_16 9 rfl) ?_
  refine wl_ldi hC (wg_da dt_law_16 10 rfl) ?_
  refine wl_iconst hC (1 : Int32) (by decide) (wg_da dt_law_16 11 rfl) ?_
  refine wl_iadd hC (wg_da dt_law_16 12 rfl) ?_
  refine wl_iald hC (wl_ix hK hL3 (j := 1) (by decide) (by decide)) (wg_da dt_law_16 13 rfl) ?_
  refine wl_callC hC [wl_a xs K 1] [] (wg_da dt_law_16 14 rfl) ⟨wq_6_58, wq_6_59, wq_6_60⟩ rfl wy_X11_hears (m_X11_hears l Ec 281 (wl_a xs K 1) (by decide +kernel) _ _ h1) rfl rfl (Nat.le_of_ble_eq_true rfl) ⟨rfl, rfl, by decide, by decide⟩ ?_
  refine wl_ld2 hC (wg_da dt_law_16 15 rfl) ?_
  refine wl_ld0 hC (wg_da dt_law_16 16 rfl) ?_
  refine wl_ldi hC (wg_da dt_law_16 17 rfl) ?_
  refine wl_iconst hC (1 : Int32) (by decide) (wg_da dt_law_16 18 rfl) ?_
  refine wl_iadd hC (wg_da dt_law_16 19 rfl) ?_
  refine wl_iald hC (wl_ix hK hL3 (j := 1) (by decide) (by decide)) (wg_da dt_law_16 20 rfl) ?_
  refine wl_callM hC [wl_a xs K 1] [.int r] (wg_da dt_law_16 21 rfl) ⟨wq_9_134, wq_9_135, wq_9_136⟩ rfl wy_X12_hears (m_X12_hears l Em 0 (wl_a xs K 1) (by decide +kernel) _ _ h2) rfl rfl (Nat.le_of_ble_eq_true rfl) ⟨rfl, rfl, by decide, by decide⟩ ?_
  exact wl_icmp_eq hC 1483 (wg_da dt_law_16 22 rfl) (by decide) k
theorem wl_case_game (hC : wl_C p s m meth c b L xs Ec Em kc ks) (hK : K + 6 ≤ L) {r : Int32} {σc1 σm1 : wg_M} (h1 : f_X11_game 281 (wl_a xs K 1) σc = some (r, σc1)) (h2 : f_X12_game 0 (wl_a xs K 1) σm = some (r, σm1)) (k : wl_G p l e s m below meth c b Ec Em kc ks 1483 (nI K) [] σc1 σm1) : wl_G p l e s m below meth c b Ec Em kc ks 1385 (nI K) [] σc σm := by
  have hL3 := hC.2.1
  refine wl_ld1 hC (wg_da dt_law_16 25 rfl) ?_
  refine wl_ld0 hC (wg_da dt_law_16 26 rfl) ?_
  refine wl_ldi hC (wg_da dt_law_16 27 rfl) ?_
  refine wl_iconst hC (1 : Int32) (by decide) (wg_da dt_law_16 28 rfl) ?_
  refine wl_iadd hC (wg_da dt_law_16 29 rfl) ?_
  refine wl_iald hC (wl_ix hK hL3 (j := 1) (by decide) (by decide)) (wg_da dt_law_16 30 rfl) ?_
  refine wl_callC hC [wl_a xs K 1] [] (wg_da dt_law_16 31 rfl) ⟨wq_6_79, wq_6_80, wq_6_81⟩ rfl wy_X11_game (m_X11_game l Ec 281 (wl_a xs K 1) (by decide +kernel) _ _ h1) rfl rfl (Nat.le_of_ble_eq_true rfl) ⟨rfl, rfl, by decide, by decide⟩ ?_
  refine wl_ld2 hC (wg_da dt_law_16 32 rfl) ?_
  refine wl_ld0 hC (wg_da dt_law_16 33 rfl) ?_
  refine wl_ldi hC (wg_da dt_law_16 34 rfl) ?_
  refine wl_iconst hC (1 : Int32) (by decide) (wg_da dt_law_16 35 rfl) ?_
  refine wl_iadd hC (wg_da dt_law_16 36 rfl) ?_
  refine wl_iald hC (wl_ix hK hL3 (j := 1) (by decide) (by decide)) (wg_da dt_law_16 37 rfl) ?_
  refine wl_callM hC [wl_a xs K 1] [.int r] (wg_da dt_law_16 38 rfl) ⟨wq_9_146, wq_9_147, wq_9_148⟩ rfl wy_X12_game (m_X12_game l Em 0 (wl_a xs K 1) (by decide +kernel) _ _ h2) rfl rfl (Nat.le_of_ble_eq_true rfl) ⟨rfl, rfl, by decide, by decide⟩ ?_
  exact wl_icmp_eq hC 1483 (wg_da dt_law_16 39 rfl) (by decide) k
theorem wl_case_undo (hC : wl_C p s m meth c b L xs Ec Em kc ks) (hK : K + 6 ≤ L) {r : Int32} {σc1 σm1 : wg_M} (h1 : f_X11_undo 281  σc = some (r, σc1)) (h2 : f_X12_undo 0  σm = some (r, σm1)) (k : wl_G p l e s m below meth c b Ec Em kc ks 1483 (nI K) [] σc1 σm1) : wl_G p l e s m below meth c b Ec Em kc ks 1408 (nI K) [] σc σm := by
  have hL3 := hC.2.1
  refine wl_ld1 hC (wg_da dt_law_16 42 rfl) ?_
  refine wl_callC hC [] [] (wg_da dt_law_16 43 rfl) ⟨wq_6_87, wq_6_88, wq_6_89⟩ rfl wy_X11_undo (m_X11_undo l Ec 281  (by decide +kernel) _ _ h1) rfl rfl (Nat.le_of_ble_eq_true rfl) ⟨rfl, rfl, by decide, by decide⟩ ?_
  refine wl_ld2 hC (wg_da dt_law_16 44 rfl) ?_
  refine wl_callM hC [] [.int r] (wg_da dt_law_16 45 rfl) ⟨wq_7_70, wq_7_71, wq_7_72⟩ rfl wy_X12_undo (m_X12_undo l Em 0  (by decide +kernel) _ _ h2) rfl rfl (Nat.le_of_ble_eq_true rfl) ⟨rfl, rfl, by decide, by decide⟩ ?_
  exact wl_icmp_eq hC 1483 (wg_da dt_law_16 46 rfl) (by decide) k
theorem wl_case_image (hC : wl_C p s m meth c b L xs Ec Em kc ks) (hK : K + 6 ≤ L) {r : Int32} {σc1 σm1 : wg_M} (h1 : f_X11_image 281 (wl_z (wl_a xs K 1)) σc = some (r, σc1)) (h2 : f_X12_image 0 (wl_z (wl_a xs K 1)) σm = some (r, σm1)) (k : wl_G p l e s m below meth c b Ec Em kc ks 1483 (nI K) [] σc1 σm1) : wl_G p l e s m below meth c b Ec Em kc ks 1421 (nI K) [] σc σm := by
  have hL3 := hC.2.1
  refine wl_ld1 hC (wg_da dt_law_16 49 rfl) ?_
  refine wl_ld0 hC (wg_da dt_law_16 50 rfl) ?_
  refine wl_ldi hC (wg_da dt_law_16 51 rfl) ?_
  refine wl_iconst hC (1 : Int32) (by decide) (wg_da dt_law_16 52 rfl) ?_
  refine wl_iadd hC (wg_da dt_law_16 53 rfl) ?_
  refine wl_iald hC (wl_ix hK hL3 (j := 1) (by decide) (by decide)) (wg_da dt_law_16 54 rfl) ?_
  refine wl_if_eq hC 1434 (wg_da dt_law_16 55 rfl) (by decide) (fun hz => ?_) (fun hz => ?_)
  · refine wl_iconst hC (0 : Int32) (by decide) (wg_da dt_law_16 58 rfl) ?_
    refine wl_top (y := wl_z (wl_a xs K 1)) (if_pos hz).symm ?_
    refine wl_callC hC [wl_z (wl_a xs K 1)] [] (wg_da dt_law_16 59 rfl) ⟨wq_6_95, wq_6_96, wq_6_97⟩ rfl wy_X11_image (m_X11_image l Ec 281 (wl_z (wl_a xs K 1)) (by decide +kernel) _ _ h1) rfl rfl (Nat.le_of_ble_eq_true rfl) ⟨rfl, rfl, by decide, by decide⟩ ?_
    refine wl_ld2 hC (wg_da dt_law_17 0 rfl) ?_
    refine wl_ld0 hC (wg_da dt_law_17 1 rfl) ?_
    refine wl_ldi hC (wg_da dt_law_17 2 rfl) ?_
    refine wl_iconst hC (1 : Int32) (by decide) (wg_da dt_law_17 3 rfl) ?_
    refine wl_iadd hC (wg_da dt_law_17 4 rfl) ?_
    refine wl_iald hC (wl_ix hK hL3 (j := 1) (by decide) (by decide)) (wg_da dt_law_17 5 rfl) ?_
    refine wl_if_eq hC 1451 (wg_da dt_law_17 6 rfl) (by decide) (fun hz => ?_) (fun hz => ?_)
    · refine wl_iconst hC (0 : Int32) (by decide) (wg_da dt_law_17 9 rfl) ?_
      refine wl_top (y := wl_z (wl_a xs K 1)) (if_pos hz).symm ?_
      refine wl_callM hC [wl_z (wl_a xs K 1)] [.int r] (wg_da dt_law_17 10 rfl) ⟨wq_9_150, wq_9_151, wq_9_152⟩ rfl wy_X12_image (m_X12_image l Em 0 (wl_z (wl_a xs K 1)) (by decide +kernel) _ _ h2) rfl rfl (Nat.le_of_ble_eq_true rfl) ⟨rfl, rfl, by decide, by decide⟩ ?_
      exact wl_icmp_eq hC 1483 (wg_da dt_law_17 11 rfl) (by decide) k
    · refine wl_iconst hC (1 : Int32) (by decide) (wg_da dt_law_17 7 rfl) ?_
      refine wl_goto hC 1452 (wg_da dt_law_17 8 rfl) (by decide) ?_
      refine wl_top (y := wl_z (wl_a xs K 1)) (if_neg hz).symm ?_
      refine wl_callM hC [wl_z (wl_a xs K 1)] [.int r] (wg_da dt_law_17 10 rfl) ⟨wq_9_150, wq_9_151, wq_9_152⟩ rfl wy_X12_image (m_X12_image l Em 0 (wl_z (wl_a xs K 1)) (by decide +kernel) _ _ h2) rfl rfl (Nat.le_of_ble_eq_true rfl) ⟨rfl, rfl, by decide, by decide⟩ ?_
      exact wl_icmp_eq hC 1483 (wg_da dt_law_17 11 rfl) (by decide) k
  · refine wl_iconst hC (1 : Int32) (by decide) (wg_da dt_law_16 56 rfl) ?_
    refine wl_goto hC 1435 (wg_da dt_law_16 57 rfl) (by decide) ?_
    refine wl_top (y := wl_z (wl_a xs K 1)) (if_neg hz).symm ?_
    refine wl_callC hC [wl_z (wl_a xs K 1)] [] (wg_da dt_law_16 59 rfl) ⟨wq_6_95, wq_6_96, wq_6_97⟩ rfl wy_X11_image (m_X11_image l Ec 281 (wl_z (wl_a xs K 1)) (by decide +kernel) _ _ h1) rfl rfl (Nat.le_of_ble_eq_true rfl) ⟨rfl, rfl, by decide, by decide⟩ ?_
    refine wl_ld2 hC (wg_da dt_law_17 0 rfl) ?_
    refine wl_ld0 hC (wg_da dt_law_17 1 rfl) ?_
    refine wl_ldi hC (wg_da dt_law_17 2 rfl) ?_
    refine wl_iconst hC (1 : Int32) (by decide) (wg_da dt_law_17 3 rfl) ?_
    refine wl_iadd hC (wg_da dt_law_17 4 rfl) ?_
    refine wl_iald hC (wl_ix hK hL3 (j := 1) (by decide) (by decide)) (wg_da dt_law_17 5 rfl) ?_
    refine wl_if_eq hC 1451 (wg_da dt_law_17 6 rfl) (by decide) (fun hz => ?_) (fun hz => ?_)
    · refine wl_iconst hC (0 : Int32) (by decide) (wg_da dt_law_17 9 rfl) ?_
      refine wl_top (y := wl_z (wl_a xs K 1)) (if_pos hz).symm ?_
      refine wl_callM hC [wl_z (wl_a xs K 1)] [.int r] (wg_da dt_law_17 10 rfl) ⟨wq_9_150, wq_9_151, wq_9_152⟩ rfl wy_X12_image (m_X12_image l Em 0 (wl_z (wl_a xs K 1)) (by decide +kernel) _ _ h2) rfl rfl (Nat.le_of_ble_eq_true rfl) ⟨rfl, rfl, by decide, by decide⟩ ?_
      exact wl_icmp_eq hC 1483 (wg_da dt_law_17 11 rfl) (by decide) k
    · refine wl_iconst hC (1 : Int32) (by decide) (wg_da dt_law_17 7 rfl) ?_
      refine wl_goto hC 1452 (wg_da dt_law_17 8 rfl) (by decide) ?_
      refine wl_top (y := wl_z (wl_a xs K 1)) (if_neg hz).symm ?_
      refine wl_callM hC [wl_z (wl_a xs K 1)] [.int r] (wg_da dt_law_17 10 rfl) ⟨wq_9_150, wq_9_151, wq_9_152⟩ rfl wy_X12_image (m_X12_image l Em 0 (wl_z (wl_a xs K 1)) (by decide +kernel) _ _ h2) rfl rfl (Nat.le_of_ble_eq_true rfl) ⟨rfl, rfl, by decide, by decide⟩ ?_
      exact wl_icmp_eq hC 1483 (wg_da dt_law_17 11 rfl) (by decide) k
theorem wl_case_look (hC : wl_C p s m meth c b L xs Ec Em kc ks) (hK : K + 6 ≤ L) {r : Int32} {σc1 σm1 : wg_M} (h1 : f_X11_look 281 (wl_a xs K 1) σc = some (r, σc1)) (h2 : f_X12_look 0 (wl_a xs K 1) σm = some (r, σm1)) (k : wl_G p l e s m below meth c b Ec Em kc ks 1483 (nI K) [] σc1 σm1) : wl_G p l e s m below meth c b Ec Em kc ks 1460 (nI K) [] σc σm := by
  have hL3 := hC.2.1
  refine wl_ld1 hC (wg_da dt_law_17 14 rfl) ?_
  refine wl_ld0 hC (wg_da dt_law_17 15 rfl) ?_
  refine wl_ldi hC (wg_da dt_law_17 16 rfl) ?_
  refine wl_iconst hC (1 : Int32) (by decide) (wg_da dt_law_17 17 rfl) ?_
  refine wl_iadd hC (wg_da dt_law_17 18 rfl) ?_
  refine wl_iald hC (wl_ix hK hL3 (j := 1) (by decide) (by decide)) (wg_da dt_law_17 19 rfl) ?_
  refine wl_callC hC [wl_a xs K 1] [] (wg_da dt_law_17 20 rfl) ⟨wq_6_111, wq_6_112, wq_6_113⟩ rfl wy_X11_look (m_X11_look l Ec 281 (wl_a xs K 1) (by decide +kernel) _ _ h1) rfl rfl (Nat.le_of_ble_eq_true rfl) ⟨rfl, rfl, by decide, by decide⟩ ?_
  refine wl_ld2 hC (wg_da dt_law_17 21 rfl) ?_
  refine wl_ld0 hC (wg_da dt_law_17 22 rfl) ?_
  refine wl_ldi hC (wg_da dt_law_17 23 rfl) ?_
  refine wl_iconst hC (1 : Int32) (by decide) (wg_da dt_law_17 24 rfl) ?_
  refine wl_iadd hC (wg_da dt_law_17 25 rfl) ?_
  refine wl_iald hC (wl_ix hK hL3 (j := 1) (by decide) (by decide)) (wg_da dt_law_17 26 rfl) ?_
  refine wl_callM hC [wl_a xs K 1] [.int r] (wg_da dt_law_17 27 rfl) ⟨wq_9_170, wq_9_171, wq_9_172⟩ rfl wy_X12_look (m_X12_look l Em 0 (wl_a xs K 1) (by decide +kernel) _ _ h2) rfl rfl (Nat.le_of_ble_eq_true rfl) ⟨rfl, rfl, by decide, by decide⟩ ?_
  exact wl_icmp_eq hC 1483 (wg_da dt_law_17 28 rfl) (by decide) k
end LC
def wp_state (Rl : wg_M → wg_M → Prop) : Prop := ∀ (σc σm : wg_M) (a0 : Int32), Rl σc σm → ∃ (r : Int32) (σc1 σm1 : wg_M), f_X11_state 281 a0 σc = some (r, σc1) ∧ f_X12_state 0 a0 σm = some (r, σm1) ∧ Rl σc1 σm1
def wp_wig (Rl : wg_M → wg_M → Prop) : Prop := ∀ (σc σm : wg_M) (a0 a1 : Int32), Rl σc σm → ∃ (r : Int32) (σc1 σm1 : wg_M), f_X11_wig 281 a0 a1 σc = some (r, σc1) ∧ f_X12_wig 0 a0 a1 σm = some (r, σm1) ∧ Rl σc1 σm1
def wp_judge (Rl : wg_M → wg_M → Prop) : Prop := ∀ (σc σm : wg_M) (a0 a1 : Int32), Rl σc σm → ∃ (r : Int32) (σc1 σm1 : wg_M), f_X11_judge 281 a0 a1 σc = some (r, σc1) ∧ f_X12_judge 0 a0 a1 σm = some (r, σm1) ∧ Rl σc1 σm1
def wp_trial (Rl : wg_M → wg_M → Prop) : Prop := ∀ (σc σm : wg_M) (a0 a1 : Int32), Rl σc σm → ∃ (r : Int32) (σc1 σm1 : wg_M), f_X11_trial 281 a0 a1 σc = some (r, σc1) ∧ f_X12_trial 0 a0 a1 σm = some (r, σm1) ∧ Rl σc1 σm1
def wp_rule (Rl : wg_M → wg_M → Prop) : Prop := ∀ (σc σm : wg_M) (a0 a1 a2 a3 : Int32), Rl σc σm → ∃ (r : Int32) (σc1 σm1 : wg_M), f_X11_rule 281 a0 a1 a2 a3 σc = some (r, σc1) ∧ f_X12_rule 0 a0 a1 a2 a3 σm = some (r, σm1) ∧ Rl σc1 σm1
def wp_set (Rl : wg_M → wg_M → Prop) : Prop := ∀ (σc σm : wg_M) (a0 a1 a2 : Int32), Rl σc σm → ∃ (r : Int32) (σc1 σm1 : wg_M), f_X11_set 281 a0 a1 a2 σc = some (r, σc1) ∧ f_X12_set 0 a0 a1 a2 σm = some (r, σm1) ∧ Rl σc1 σm1
def wp_tries (Rl : wg_M → wg_M → Prop) : Prop := ∀ (σc σm : wg_M) (a0 a1 : Int32), Rl σc σm → ∃ (r : Int32) (σc1 σm1 : wg_M), f_X11_tries 281 a0 a1 σc = some (r, σc1) ∧ f_X12_tries 0 a0 a1 σm = some (r, σm1) ∧ Rl σc1 σm1
def wp_act (Rl : wg_M → wg_M → Prop) : Prop := ∀ (σc σm : wg_M) (a0 a1 a2 : Int32), Rl σc σm → ∃ (r : Int32) (σc1 σm1 : wg_M), f_X11_act 281 a0 a1 a2 σc = some (r, σc1) ∧ f_X12_act 0 a0 a1 a2 σm = some (r, σm1) ∧ Rl σc1 σm1
def wp_years (Rl : wg_M → wg_M → Prop) : Prop := ∀ (σc σm : wg_M) (a0 : Int32), Rl σc σm → ∃ (r : Int32) (σc1 σm1 : wg_M), f_X11_years 281 a0 σc = some (r, σc1) ∧ f_X12_years 0 a0 σm = some (r, σm1) ∧ Rl σc1 σm1
def wp_feed (Rl : wg_M → wg_M → Prop) : Prop := ∀ (σc σm : wg_M) (a0 a1 a2 a3 a4 : Int32), Rl σc σm → ∃ (r : Int32) (σc1 σm1 : wg_M), f_X11_feed 281 a0 a1 a2 a3 a4 σc = some (r, σc1) ∧ f_X12_feed 0 a0 a1 a2 a3 a4 σm = some (r, σm1) ∧ Rl σc1 σm1
def wp_end (Rl : wg_M → wg_M → Prop) : Prop := ∀ (σc σm : wg_M) (a0 : Int32), Rl σc σm → ∃ (r : Int32) (σc1 σm1 : wg_M), f_X11_end 281 a0 σc = some (r, σc1) ∧ f_X12_end 0 a0 σm = some (r, σm1) ∧ Rl σc1 σm1
def wp_text (Rl : wg_M → wg_M → Prop) : Prop := ∀ (σc σm : wg_M) (a0 : Int32), Rl σc σm → ∃ (r : Int32) (σc1 σm1 : wg_M), f_X11_text 281 a0 σc = some (r, σc1) ∧ f_X12_text 0 a0 σm = some (r, σm1) ∧ Rl σc1 σm1
def wp_fault (Rl : wg_M → wg_M → Prop) : Prop := ∀ (σc σm : wg_M) (a0 : Int32), Rl σc σm → ∃ (r : Int32) (σc1 σm1 : wg_M), f_X11_fault 281 a0 σc = some (r, σc1) ∧ f_X12_fault 0 a0 σm = some (r, σm1) ∧ Rl σc1 σm1
def wp_of (Rl : wg_M → wg_M → Prop) : Prop := ∀ (σc σm : wg_M) (a0 a1 : Int32), Rl σc σm → ∃ (r : Int32) (σc1 σm1 : wg_M), f_X11_of 281 a0 a1 σc = some (r, σc1) ∧ f_X12_of 0 a0 a1 σm = some (r, σm1) ∧ Rl σc1 σm1
def wp_ruleOf (Rl : wg_M → wg_M → Prop) : Prop := ∀ (σc σm : wg_M) (a0 a1 a2 : Int32), Rl σc σm → ∃ (r : Int32) (σc1 σm1 : wg_M), f_X11_ruleOf 281 a0 a1 a2 σc = some (r, σc1) ∧ f_X12_ruleOf 0 a0 a1 a2 σm = some (r, σm1) ∧ Rl σc1 σm1
def wp_who (Rl : wg_M → wg_M → Prop) : Prop := ∀ (σc σm : wg_M) (a0 a1 : Int32), Rl σc σm → ∃ (r : Int32) (σc1 σm1 : wg_M), f_X11_who 281 a0 a1 σc = some (r, σc1) ∧ f_X12_who 0 a0 a1 σm = some (r, σm1) ∧ Rl σc1 σm1
def wp_trialOf (Rl : wg_M → wg_M → Prop) : Prop := ∀ (σc σm : wg_M) (a0 a1 : Int32), Rl σc σm → ∃ (r : Int32) (σc1 σm1 : wg_M), f_X11_trialOf 281 a0 a1 σc = some (r, σc1) ∧ f_X12_trialOf 0 a0 a1 σm = some (r, σm1) ∧ Rl σc1 σm1
def wp_book (Rl : wg_M → wg_M → Prop) : Prop := ∀ (σc σm : wg_M) (a0 a1 : Int32), Rl σc σm → ∃ (r : Int32) (σc1 σm1 : wg_M), f_X11_book 281 a0 a1 σc = some (r, σc1) ∧ f_X12_book 0 a0 a1 σm = some (r, σm1) ∧ Rl σc1 σm1
def wp_goes (Rl : wg_M → wg_M → Prop) : Prop := ∀ (σc σm : wg_M) (a0 a1 : Int32), Rl σc σm → ∃ (r : Int32) (σc1 σm1 : wg_M), f_X11_goes 281 a0 a1 σc = some (r, σc1) ∧ f_X12_goes 0 a0 a1 σm = some (r, σm1) ∧ Rl σc1 σm1
def wp_would (Rl : wg_M → wg_M → Prop) : Prop := ∀ (σc σm : wg_M) (a0 a1 : Int32), Rl σc σm → ∃ (r : Int32) (σc1 σm1 : wg_M), f_X11_would 281 a0 a1 σc = some (r, σc1) ∧ f_X12_would 0 a0 a1 σm = some (r, σm1) ∧ Rl σc1 σm1
def wp_forum (Rl : wg_M → wg_M → Prop) : Prop := ∀ (σc σm : wg_M) (a0 a1 : Int32), Rl σc σm → ∃ (r : Int32) (σc1 σm1 : wg_M), f_X11_forum 281 a0 a1 σc = some (r, σc1) ∧ f_X12_forum 0 a0 a1 σm = some (r, σm1) ∧ Rl σc1 σm1
def wp_combs (Rl : wg_M → wg_M → Prop) : Prop := ∀ (σc σm : wg_M) (a0 a1 : Int32), Rl σc σm → ∃ (r : Int32) (σc1 σm1 : wg_M), f_X11_combs 281 a0 a1 σc = some (r, σc1) ∧ f_X12_combs 0 a0 a1 σm = some (r, σm1) ∧ Rl σc1 σm1
def wp_alike (Rl : wg_M → wg_M → Prop) : Prop := ∀ (σc σm : wg_M) (a0 a1 : Int32), Rl σc σm → ∃ (r : Int32) (σc1 σm1 : wg_M), f_X11_alike 281 a0 a1 σc = some (r, σc1) ∧ f_X12_alike 0 a0 a1 σm = some (r, σm1) ∧ Rl σc1 σm1
def wp_heir (Rl : wg_M → wg_M → Prop) : Prop := ∀ (σc σm : wg_M) (a0 a1 : Int32), Rl σc σm → ∃ (r : Int32) (σc1 σm1 : wg_M), f_X11_heir 281 a0 a1 σc = some (r, σc1) ∧ f_X12_heir 0 a0 a1 σm = some (r, σm1) ∧ Rl σc1 σm1
def wp_kin (Rl : wg_M → wg_M → Prop) : Prop := ∀ (σc σm : wg_M) (a0 a1 : Int32), Rl σc σm → ∃ (r : Int32) (σc1 σm1 : wg_M), f_X11_kin 281 a0 a1 σc = some (r, σc1) ∧ f_X12_kin 0 a0 a1 σm = some (r, σm1) ∧ Rl σc1 σm1
def wp_saves (Rl : wg_M → wg_M → Prop) : Prop := ∀ (σc σm : wg_M) (a0 a1 : Int32), Rl σc σm → ∃ (r : Int32) (σc1 σm1 : wg_M), f_X11_saves 281 a0 a1 σc = some (r, σc1) ∧ f_X12_saves 0 a0 a1 σm = some (r, σm1) ∧ Rl σc1 σm1
def wp_panels (Rl : wg_M → wg_M → Prop) : Prop := ∀ (σc σm : wg_M) (a0 a1 : Int32), Rl σc σm → ∃ (r : Int32) (σc1 σm1 : wg_M), f_X11_panels 281 a0 a1 σc = some (r, σc1) ∧ f_X12_panels 0 a0 a1 σm = some (r, σm1) ∧ Rl σc1 σm1
def wp_trait (Rl : wg_M → wg_M → Prop) : Prop := ∀ (σc σm : wg_M) (a0 a1 a2 : Int32), Rl σc σm → (a2 = 0 ∨ a2 = 1) → ∃ (r : Int32) (σc1 σm1 : wg_M), f_X11_trait 281 a0 a1 a2 σc = some (r, σc1) ∧ f_X12_trait 0 a0 a1 a2 σm = some (r, σm1) ∧ Rl σc1 σm1
def wp_whose (Rl : wg_M → wg_M → Prop) : Prop := ∀ (σc σm : wg_M) (a0 : Int32), Rl σc σm → ∃ (r : Int32) (σc1 σm1 : wg_M), f_X11_whose 281 a0 σc = some (r, σc1) ∧ f_X12_whose 0 a0 σm = some (r, σm1) ∧ Rl σc1 σm1
def wp_cite (Rl : wg_M → wg_M → Prop) : Prop := ∀ (σc σm : wg_M) (a0 a1 : Int32), Rl σc σm → ∃ (r : Int32) (σc1 σm1 : wg_M), f_X11_cite 281 a0 a1 σc = some (r, σc1) ∧ f_X12_cite 0 a0 a1 σm = some (r, σm1) ∧ Rl σc1 σm1
def wp_chain (Rl : wg_M → wg_M → Prop) : Prop := ∀ (σc σm : wg_M) (a0 : Int32), Rl σc σm → ∃ (r : Int32) (σc1 σm1 : wg_M), f_X11_chain 281 a0 σc = some (r, σc1) ∧ f_X12_chain 0 a0 σm = some (r, σm1) ∧ Rl σc1 σm1
def wp_parcel (Rl : wg_M → wg_M → Prop) : Prop := ∀ (σc σm : wg_M) (a0 a1 a2 : Int32), Rl σc σm → ∃ (r : Int32) (σc1 σm1 : wg_M), f_X11_parcel 281 a0 a1 a2 σc = some (r, σc1) ∧ f_X12_parcel 0 a0 a1 a2 σm = some (r, σm1) ∧ Rl σc1 σm1
def wp_cut (Rl : wg_M → wg_M → Prop) : Prop := ∀ (σc σm : wg_M) (a0 : Int32), Rl σc σm → ∃ (r : Int32) (σc1 σm1 : wg_M), f_X11_cut 281 a0 σc = some (r, σc1) ∧ f_X12_cut 0 a0 σm = some (r, σm1) ∧ Rl σc1 σm1
def wp_hard (Rl : wg_M → wg_M → Prop) : Prop := ∀ (σc σm : wg_M) (a0 a1 : Int32), Rl σc σm → ∃ (r : Int32) (σc1 σm1 : wg_M), f_X11_hard 281 a0 a1 σc = some (r, σc1) ∧ f_X12_hard 0 a0 a1 σm = some (r, σm1) ∧ Rl σc1 σm1
def wp_hears (Rl : wg_M → wg_M → Prop) : Prop := ∀ (σc σm : wg_M) (a0 : Int32), Rl σc σm → ∃ (r : Int32) (σc1 σm1 : wg_M), f_X11_hears 281 a0 σc = some (r, σc1) ∧ f_X12_hears 0 a0 σm = some (r, σm1) ∧ Rl σc1 σm1
def wp_game (Rl : wg_M → wg_M → Prop) : Prop := ∀ (σc σm : wg_M) (a0 : Int32), Rl σc σm → ∃ (r : Int32) (σc1 σm1 : wg_M), f_X11_game 281 a0 σc = some (r, σc1) ∧ f_X12_game 0 a0 σm = some (r, σm1) ∧ Rl σc1 σm1
def wp_undo (Rl : wg_M → wg_M → Prop) : Prop := ∀ (σc σm : wg_M), Rl σc σm → ∃ (r : Int32) (σc1 σm1 : wg_M), f_X11_undo 281  σc = some (r, σc1) ∧ f_X12_undo 0  σm = some (r, σm1) ∧ Rl σc1 σm1
def wp_image (Rl : wg_M → wg_M → Prop) : Prop := ∀ (σc σm : wg_M) (a0 : Int32), Rl σc σm → (a0 = 0 ∨ a0 = 1) → ∃ (r : Int32) (σc1 σm1 : wg_M), f_X11_image 281 a0 σc = some (r, σc1) ∧ f_X12_image 0 a0 σm = some (r, σm1) ∧ Rl σc1 σm1
def wp_look (Rl : wg_M → wg_M → Prop) : Prop := ∀ (σc σm : wg_M) (a0 : Int32), Rl σc σm → ∃ (r : Int32) (σc1 σm1 : wg_M), f_X11_look 281 a0 σc = some (r, σc1) ∧ f_X12_look 0 a0 σm = some (r, σm1) ∧ Rl σc1 σm1
def wp_all (Rl : wg_M → wg_M → Prop) : Prop := wp_state Rl ∧ wp_wig Rl ∧ wp_judge Rl ∧ wp_trial Rl ∧ wp_rule Rl ∧ wp_set Rl ∧ wp_tries Rl ∧ wp_act Rl ∧ wp_years Rl ∧ wp_feed Rl ∧ wp_end Rl ∧ wp_text Rl ∧ wp_fault Rl ∧ wp_of Rl ∧ wp_ruleOf Rl ∧ wp_who Rl ∧ wp_trialOf Rl ∧ wp_book Rl ∧ wp_goes Rl ∧ wp_would Rl ∧ wp_forum Rl ∧ wp_combs Rl ∧ wp_alike Rl ∧ wp_heir Rl ∧ wp_kin Rl ∧ wp_saves Rl ∧ wp_panels Rl ∧ wp_trait Rl ∧ wp_whose Rl ∧ wp_cite Rl ∧ wp_chain Rl ∧ wp_parcel Rl ∧ wp_cut Rl ∧ wp_hard Rl ∧ wp_hears Rl ∧ wp_game Rl ∧ wp_undo Rl ∧ wp_image Rl ∧ wp_look Rl
set_option maxRecDepth 20000 in
theorem wl_loop {p : Program} {l : Launch} {e : Env} {s : State} {m : MethodId} {below : List Frame} {meth : Method} {c : Code} {b L : Nat} {xs : Nat → Int32} {Ec Em : wg_E} {kc ks : Nat} (hC : wl_C p s m meth c b L xs Ec Em kc ks) (Rl : wg_M → wg_M → Prop) (hall : wp_all Rl) : ∀ (n K : Nat) (σc σm : wg_M), Rl σc σm → K ≤ L + 6 → L + 1 ≤ K + n → wl_G p l e s m below meth c b Ec Em kc ks 18 (nI K) [] σc σm := by
  obtain ⟨q_state, q_wig, q_judge, q_trial, q_rule, q_set, q_tries, q_act, q_years, q_feed, q_end, q_text, q_fault, q_of, q_ruleOf, q_who, q_trialOf, q_book, q_goes, q_would, q_forum, q_combs, q_alike, q_heir, q_kin, q_saves, q_panels, q_trait, q_whose, q_cite, q_chain, q_parcel, q_cut, q_hard, q_hears, q_game, q_undo, q_image, q_look⟩ := hall
  intro n
  induction n with
  | zero =>
    intro K σc σm hR hK hn
    have hL3 := hC.2.1
    refine wl_ldi hC (wg_da dt_law_0 10 rfl) ?_
    refine wl_ld0 hC (wg_da dt_law_0 11 rfl) ?_
    refine wl_alen hC (wg_da dt_law_0 12 rfl) ?_
    refine wl_bipush hC (6 : Int32) (by decide) (wg_da dt_law_0 13 rfl) ?_
    refine wl_isub hC (wg_da dt_law_0 14 rfl) ?_
    refine wl_icmp_gt hC 1489 (wg_da dt_law_0 15 rfl) (by decide) (fun hz => ?_) (fun hz => ?_)
    · refine wl_iconst hC (1 : Int32) (by decide) (wg_da dt_law_17 33 rfl) ?_
      exact wl_ret1 hC (wg_da dt_law_17 34 rfl)
    · exfalso
      apply hz
      rw [Int32.lt_iff_toInt_lt]
      have e1 : ((nI L) - 6).toInt = (L : Int) - 6 := by
        have := pk_sub_toInt (a := L) (b := 6) (by omega) (by omega)
        exact this
      have e2 : (nI K).toInt = (K : Int) := nI_toInt (by omega)
      show ((nI L) - 6).toInt < (nI K).toInt
      rw [e1, e2]
      omega
  | succ n ih =>
    intro K σc σm hR hK hn
    have hL3 := hC.2.1
    refine wl_ldi hC (wg_da dt_law_0 10 rfl) ?_
    refine wl_ld0 hC (wg_da dt_law_0 11 rfl) ?_
    refine wl_alen hC (wg_da dt_law_0 12 rfl) ?_
    refine wl_bipush hC (6 : Int32) (by decide) (wg_da dt_law_0 13 rfl) ?_
    refine wl_isub hC (wg_da dt_law_0 14 rfl) ?_
    refine wl_icmp_gt hC 1489 (wg_da dt_law_0 15 rfl) (by decide) (fun hz => ?_) (fun hz => ?_)
    · refine wl_iconst hC (1 : Int32) (by decide) (wg_da dt_law_17 33 rfl) ?_
      exact wl_ret1 hC (wg_da dt_law_17 34 rfl)
    have hK6 : K + 6 ≤ L := by
      rcases Nat.lt_or_ge L (K + 6) with h | h
      · exfalso
        apply hz
        rw [Int32.lt_iff_toInt_lt]
        have e1 : ((nI L) - 6).toInt = (L : Int) - 6 := pk_sub_toInt (a := L) (b := 6) (by omega) (by omega)
        have e2 : (nI K).toInt = (K : Int) := nI_toInt (by omega)
        show ((nI L) - 6).toInt < (nI K).toInt
        rw [e1, e2]
        omega
      · exact h
    have tail : ∀ σc1 σm1, Rl σc1 σm1 → wl_G p l e s m below meth c b Ec Em kc ks 1483 (nI K) [] σc1 σm1 := by
      intro σc1 σm1 hR1
      refine wl_iinc hC (c0 := 6) (wg_da dt_law_17 31 rfl) (by decide) ?_
      refine wl_goto hC 18 (wg_da dt_law_17 32 rfl) (by decide) ?_
      have e6 : nI K + 6 = nI (K + 6) := nI_add K 6
      rw [e6]
      exact ih (K + 6) σc1 σm1 hR1 (by omega) (by omega)
    refine wl_ld0 hC (wg_da dt_law_0 16 rfl) ?_
    refine wl_ldi hC (wg_da dt_law_0 17 rfl) ?_
    refine wl_iald hC (vp_in_nI (by omega) (by omega)) (wg_da dt_law_0 18 rfl) ?_
    refine wl_bipush hC (63 : Int32) (by decide) (wg_da dt_law_0 19 rfl) ?_
    refine wl_iand hC (wg_da dt_law_0 20 rfl) ?_
    refine wl_sw hC [204, 227, 260, 293, 326, 379, 422, 455, 498, 521, 584, 607, 630, 653, 686, 729, 762, 795, 828, 861, 894, 927, 960, 993, 1026, 1059, 1092, 1125, 1184, 1207, 1240, 1263, 1306, 1329, 1362, 1385, 1408, 1421, 1460] 1483 (wg_da dt_law_0 21 rfl) (by decide) (by decide) (by decide) ?_ (tail σc σm hR)
    refine List.forall_mem_cons.mpr ⟨?_, ?_⟩
    · obtain ⟨r, σc1, σm1, e1, e2, e3⟩ := q_state σc σm (wl_a xs K 1) hR 
      exact wl_case_state hC hK6 e1 e2 (tail _ _ e3)
    refine List.forall_mem_cons.mpr ⟨?_, ?_⟩
    · obtain ⟨r, σc1, σm1, e1, e2, e3⟩ := q_wig σc σm (wl_a xs K 1) (wl_a xs K 2) hR 
      exact wl_case_wig hC hK6 e1 e2 (tail _ _ e3)
    refine List.forall_mem_cons.mpr ⟨?_, ?_⟩
    · obtain ⟨r, σc1, σm1, e1, e2, e3⟩ := q_judge σc σm (wl_a xs K 1) (wl_a xs K 2) hR 
      exact wl_case_judge hC hK6 e1 e2 (tail _ _ e3)
    refine List.forall_mem_cons.mpr ⟨?_, ?_⟩
    · obtain ⟨r, σc1, σm1, e1, e2, e3⟩ := q_trial σc σm (wl_a xs K 1) (wl_a xs K 2) hR 
      exact wl_case_trial hC hK6 e1 e2 (tail _ _ e3)
    refine List.forall_mem_cons.mpr ⟨?_, ?_⟩
    · obtain ⟨r, σc1, σm1, e1, e2, e3⟩ := q_rule σc σm (wl_a xs K 1) (wl_a xs K 2) (wl_a xs K 3) (wl_a xs K 4) hR 
      exact wl_case_rule hC hK6 e1 e2 (tail _ _ e3)
    refine List.forall_mem_cons.mpr ⟨?_, ?_⟩
    · obtain ⟨r, σc1, σm1, e1, e2, e3⟩ := q_set σc σm (wl_a xs K 1) (wl_a xs K 2) (wl_a xs K 3) hR 
      exact wl_case_set hC hK6 e1 e2 (tail _ _ e3)
    refine List.forall_mem_cons.mpr ⟨?_, ?_⟩
    · obtain ⟨r, σc1, σm1, e1, e2, e3⟩ := q_tries σc σm (wl_a xs K 1) (wl_a xs K 2) hR 
      exact wl_case_tries hC hK6 e1 e2 (tail _ _ e3)
    refine List.forall_mem_cons.mpr ⟨?_, ?_⟩
    · obtain ⟨r, σc1, σm1, e1, e2, e3⟩ := q_act σc σm (wl_a xs K 1) (wl_a xs K 2) (wl_a xs K 3) hR 
      exact wl_case_act hC hK6 e1 e2 (tail _ _ e3)
    refine List.forall_mem_cons.mpr ⟨?_, ?_⟩
    · obtain ⟨r, σc1, σm1, e1, e2, e3⟩ := q_years σc σm (wl_a xs K 1) hR 
      exact wl_case_years hC hK6 e1 e2 (tail _ _ e3)
    refine List.forall_mem_cons.mpr ⟨?_, ?_⟩
    · obtain ⟨r, σc1, σm1, e1, e2, e3⟩ := q_feed σc σm (wl_a xs K 1) (wl_a xs K 2) (wl_a xs K 3) (wl_a xs K 4) (wl_a xs K 5) hR 
      exact wl_case_feed hC hK6 e1 e2 (tail _ _ e3)
    refine List.forall_mem_cons.mpr ⟨?_, ?_⟩
    · obtain ⟨r, σc1, σm1, e1, e2, e3⟩ := q_end σc σm (wl_a xs K 1) hR 
      exact wl_case_end hC hK6 e1 e2 (tail _ _ e3)
    refine List.forall_mem_cons.mpr ⟨?_, ?_⟩
    · obtain ⟨r, σc1, σm1, e1, e2, e3⟩ := q_text σc σm (wl_a xs K 1) hR 
      exact wl_case_text hC hK6 e1 e2 (tail _ _ e3)
    refine List.forall_mem_cons.mpr ⟨?_, ?_⟩
    · obtain ⟨r, σc1, σm1, e1, e2, e3⟩ := q_fault σc σm (wl_a xs K 1) hR 
      exact wl_case_fault hC hK6 e1 e2 (tail _ _ e3)
    refine List.forall_mem_cons.mpr ⟨?_, ?_⟩
    · obtain ⟨r, σc1, σm1, e1, e2, e3⟩ := q_of σc σm (wl_a xs K 1) (wl_a xs K 2) hR 
      exact wl_case_of hC hK6 e1 e2 (tail _ _ e3)
    refine List.forall_mem_cons.mpr ⟨?_, ?_⟩
    · obtain ⟨r, σc1, σm1, e1, e2, e3⟩ := q_ruleOf σc σm (wl_a xs K 1) (wl_a xs K 2) (wl_a xs K 3) hR 
      exact wl_case_ruleOf hC hK6 e1 e2 (tail _ _ e3)
    refine List.forall_mem_cons.mpr ⟨?_, ?_⟩
    · obtain ⟨r, σc1, σm1, e1, e2, e3⟩ := q_who σc σm (wl_a xs K 1) (wl_a xs K 2) hR 
      exact wl_case_who hC hK6 e1 e2 (tail _ _ e3)
    refine List.forall_mem_cons.mpr ⟨?_, ?_⟩
    · obtain ⟨r, σc1, σm1, e1, e2, e3⟩ := q_trialOf σc σm (wl_a xs K 1) (wl_a xs K 2) hR 
      exact wl_case_trialOf hC hK6 e1 e2 (tail _ _ e3)
    refine List.forall_mem_cons.mpr ⟨?_, ?_⟩
    · obtain ⟨r, σc1, σm1, e1, e2, e3⟩ := q_book σc σm (wl_a xs K 1) (wl_a xs K 2) hR 
      exact wl_case_book hC hK6 e1 e2 (tail _ _ e3)
    refine List.forall_mem_cons.mpr ⟨?_, ?_⟩
    · obtain ⟨r, σc1, σm1, e1, e2, e3⟩ := q_goes σc σm (wl_a xs K 1) (wl_a xs K 2) hR 
      exact wl_case_goes hC hK6 e1 e2 (tail _ _ e3)
    refine List.forall_mem_cons.mpr ⟨?_, ?_⟩
    · obtain ⟨r, σc1, σm1, e1, e2, e3⟩ := q_would σc σm (wl_a xs K 1) (wl_a xs K 2) hR 
      exact wl_case_would hC hK6 e1 e2 (tail _ _ e3)
    refine List.forall_mem_cons.mpr ⟨?_, ?_⟩
    · obtain ⟨r, σc1, σm1, e1, e2, e3⟩ := q_forum σc σm (wl_a xs K 1) (wl_a xs K 2) hR 
      exact wl_case_forum hC hK6 e1 e2 (tail _ _ e3)
    refine List.forall_mem_cons.mpr ⟨?_, ?_⟩
    · obtain ⟨r, σc1, σm1, e1, e2, e3⟩ := q_combs σc σm (wl_a xs K 1) (wl_a xs K 2) hR 
      exact wl_case_combs hC hK6 e1 e2 (tail _ _ e3)
    refine List.forall_mem_cons.mpr ⟨?_, ?_⟩
    · obtain ⟨r, σc1, σm1, e1, e2, e3⟩ := q_alike σc σm (wl_a xs K 1) (wl_a xs K 2) hR 
      exact wl_case_alike hC hK6 e1 e2 (tail _ _ e3)
    refine List.forall_mem_cons.mpr ⟨?_, ?_⟩
    · obtain ⟨r, σc1, σm1, e1, e2, e3⟩ := q_heir σc σm (wl_a xs K 1) (wl_a xs K 2) hR 
      exact wl_case_heir hC hK6 e1 e2 (tail _ _ e3)
    refine List.forall_mem_cons.mpr ⟨?_, ?_⟩
    · obtain ⟨r, σc1, σm1, e1, e2, e3⟩ := q_kin σc σm (wl_a xs K 1) (wl_a xs K 2) hR 
      exact wl_case_kin hC hK6 e1 e2 (tail _ _ e3)
    refine List.forall_mem_cons.mpr ⟨?_, ?_⟩
    · obtain ⟨r, σc1, σm1, e1, e2, e3⟩ := q_saves σc σm (wl_a xs K 1) (wl_a xs K 2) hR 
      exact wl_case_saves hC hK6 e1 e2 (tail _ _ e3)
    refine List.forall_mem_cons.mpr ⟨?_, ?_⟩
    · obtain ⟨r, σc1, σm1, e1, e2, e3⟩ := q_panels σc σm (wl_a xs K 1) (wl_a xs K 2) hR 
      exact wl_case_panels hC hK6 e1 e2 (tail _ _ e3)
    refine List.forall_mem_cons.mpr ⟨?_, ?_⟩
    · obtain ⟨r, σc1, σm1, e1, e2, e3⟩ := q_trait σc σm (wl_a xs K 1) (wl_a xs K 2) (wl_z (wl_a xs K 3)) hR (wl_z_bit _)
      exact wl_case_trait hC hK6 e1 e2 (tail _ _ e3)
    refine List.forall_mem_cons.mpr ⟨?_, ?_⟩
    · obtain ⟨r, σc1, σm1, e1, e2, e3⟩ := q_whose σc σm (wl_a xs K 1) hR 
      exact wl_case_whose hC hK6 e1 e2 (tail _ _ e3)
    refine List.forall_mem_cons.mpr ⟨?_, ?_⟩
    · obtain ⟨r, σc1, σm1, e1, e2, e3⟩ := q_cite σc σm (wl_a xs K 1) (wl_a xs K 2) hR 
      exact wl_case_cite hC hK6 e1 e2 (tail _ _ e3)
    refine List.forall_mem_cons.mpr ⟨?_, ?_⟩
    · obtain ⟨r, σc1, σm1, e1, e2, e3⟩ := q_chain σc σm (wl_a xs K 1) hR 
      exact wl_case_chain hC hK6 e1 e2 (tail _ _ e3)
    refine List.forall_mem_cons.mpr ⟨?_, ?_⟩
    · obtain ⟨r, σc1, σm1, e1, e2, e3⟩ := q_parcel σc σm (wl_a xs K 1) (wl_a xs K 2) (wl_a xs K 3) hR 
      exact wl_case_parcel hC hK6 e1 e2 (tail _ _ e3)
    refine List.forall_mem_cons.mpr ⟨?_, ?_⟩
    · obtain ⟨r, σc1, σm1, e1, e2, e3⟩ := q_cut σc σm (wl_a xs K 1) hR 
      exact wl_case_cut hC hK6 e1 e2 (tail _ _ e3)
    refine List.forall_mem_cons.mpr ⟨?_, ?_⟩
    · obtain ⟨r, σc1, σm1, e1, e2, e3⟩ := q_hard σc σm (wl_a xs K 1) (wl_a xs K 2) hR 
      exact wl_case_hard hC hK6 e1 e2 (tail _ _ e3)
    refine List.forall_mem_cons.mpr ⟨?_, ?_⟩
    · obtain ⟨r, σc1, σm1, e1, e2, e3⟩ := q_hears σc σm (wl_a xs K 1) hR 
      exact wl_case_hears hC hK6 e1 e2 (tail _ _ e3)
    refine List.forall_mem_cons.mpr ⟨?_, ?_⟩
    · obtain ⟨r, σc1, σm1, e1, e2, e3⟩ := q_game σc σm (wl_a xs K 1) hR 
      exact wl_case_game hC hK6 e1 e2 (tail _ _ e3)
    refine List.forall_mem_cons.mpr ⟨?_, ?_⟩
    · obtain ⟨r, σc1, σm1, e1, e2, e3⟩ := q_undo σc σm  hR 
      exact wl_case_undo hC hK6 e1 e2 (tail _ _ e3)
    refine List.forall_mem_cons.mpr ⟨?_, ?_⟩
    · obtain ⟨r, σc1, σm1, e1, e2, e3⟩ := q_image σc σm (wl_z (wl_a xs K 1)) hR (wl_z_bit _)
      exact wl_case_image hC hK6 e1 e2 (tail _ _ e3)
    refine List.forall_mem_cons.mpr ⟨?_, ?_⟩
    · obtain ⟨r, σc1, σm1, e1, e2, e3⟩ := q_look σc σm (wl_a xs K 1) hR 
      exact wl_case_look hC hK6 e1 e2 (tail _ _ e3)
    exact fun _ h => absurd h List.not_mem_nil

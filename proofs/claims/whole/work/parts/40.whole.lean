/-! the law from its entry to its loop, over a relation of memories -/
theorem wz_run {p : Program} {l : Launch} {e : Env} {s : State} {m : MethodId} {args : Array Value} {below : List Frame} {meth : Method} {c : Code} {R : Room} {cc : ByteArray} {nL : Nat} {own : String} {F : wc_F} {ad : Nat → Nat} {w w2 : wc_W} {H : Heap} {locs : List Loc} {ls : Array Slot} {pc idx nL2 mc2 ms2 x cells slots q : Nat} {y : MethodName} {cc2 : ByteArray} {rm2 : Room} {rest : List Value} {Q : State → Prop} (hx : p.tables.exec = Jvm.exec) (hb : c.code = cc) (hml : c.maxLocals = nL) (ho : s.vm.findClass own = some m.cls) (hts : ∀ w ∈ wg_T, w.before args s = true) (hK : va_K F.1 vwCl (wc_ys F) s) (hN : ∀ q ∈ wg_NW, va_Nw (.methodLinkNest q.1 q.2.1 q.2.2 "WornWigs") s) (hAO : va_AO "WornWigs$Bench" s) (hB : F.2.2.2 ≤ s.heap.size) (hin : wc_in w) (hP : va_P F.1 vwCl (wc_w F ad w) H) (hD : va_D (wc_A F) (wc_w F ad w)) (hS : va_S (wc_A F) s.heap H locs) (hls : ls.size = nL) (hd : decode cc pc = .ok (.invokespecial idx, 3)) (hm : Cond.methodLink own idx y ∈ wg_T ∧ Cond.instanceMethod y ∈ wg_T) (hy1 : y.name = "<init>") (hY : wg_Y y cc2 nL2 none 0) (hM : wc_MG l F y cc2 nL2 rm2 mc2 ms2 [.ref x] w w2) (hq : q = ad x) (h8 : (rest.map fun v => v.category).sum ≤ 8) (hR : rm2.cells = mc2 ∧ rm2.slots = ms2 ∧ rm2.frames + 1 ≤ R.frames ∧ 8 + (nL2 + 11) + rm2.locals ≤ R.locals ∧ cells + mc2 ≤ R.cells ∧ slots + ms2 ≤ R.slots) (k : ∀ (ad2 : Nat → Nat) (H2 : Heap) (locs2 : List Loc), (∀ j, j < w.length → ad2 j = ad j) → wc_in w2 → va_P F.1 vwCl (wc_w F ad2 w2) H2 → va_D (wc_A F) (wc_w F ad2 w2) → va_S (wc_A F) s.heap H2 locs2 → W p l e R s m args below meth c H2 locs2 (cells + mc2) (slots + ms2) Q (F0 m (pc + 3) ls rest)) : W p l e R s m args below meth c H locs cells slots Q (F0 m pc ls (.ref q :: rest)) := by
  subst hq
  have hrun := va_runI (n := 0) (l := l) (e := e) (below := below) (meth := meth) (locs := locs) (cells := cells) (slots := slots) (R := R) (H := H) (b := ad x) (As := []) (rest := rest) (g := F0 m pc ls (.ref (ad x) :: rest)) ⟨hx, hb, hml, ho, hts⟩ (hM ad) ⟨callB_of 0 hts (wg_good hY) rfl hR.1 hR.2.1 (hts _ hY.1) (hts _ hm.1) hY.2.2 ⟨hR.2.2.1, hR.2.2.2.1⟩, hy1, hts _ hm.2⟩ ⟨wc_blind _, fun U hU hW => ⟨rfl, by rw [hU]; exact Nat.le_trans hB hS.1, va_K.moved hW.alike hK, fun q hq => va_Nw.warmM hW (hN q hq), va_AO.moved hW.alike hAO, hin, by rw [hU]; exact hP, hD⟩⟩ rfl rfl hls rfl (by simpa using h8) hd ⟨hR.2.2.2.2.1, hR.2.2.2.2.2⟩
  intro T hT X
  obtain ⟨v, st₀, t, T', L', h0, X', hL', e1, e2, ⟨hv, ⟨ad2, hag2, hin2, hP2, hD2⟩, hz, hk⟩, st'⟩ := hrun T hT X
  cases hv
  rw [h0] at hz hk
  have hS' : va_S (wc_A F) s.heap T'.heap (locs ++ L') := ⟨Nat.le_trans hS.1 (by rw [e1]; exact hz), fun q h1 h2 => by rw [e1, hk q (Nat.lt_of_lt_of_le h1 hS.1) h2]; exact hS.2.1 q h1 h2, fun q hq => by
    rcases List.mem_append.mp hq with h | h
    · exact hS.2.2 q h
    · exact hL' q h⟩
  have kk := k ad2 T'.heap (locs ++ L') hag2 hin2 (by rw [e1]; exact hP2) hD2 hS'
  obtain ⟨t2, a1, b1⟩ := kk T' rfl X'
  exact ⟨t2, st' t2 a1, b1⟩
theorem wz_l1 : wz_1.length = 282 := by decide +kernel
theorem wz_l2 : (wz_1 ++ [((14, 0, wc_df 12) : wc_X)]).length = 283 := by rw [List.length_append, wz_l1]; rfl
theorem wz_g2 : (wz_1 ++ [((14, 0, wc_df 12) : wc_X)])[282]? = some (14, 0, wc_df 12) := by
  rw [List.getElem?_append_right (by rw [wz_l1]; exact Nat.le_refl _), wz_l1]; rfl
theorem wz_pc1 : wz_pc.getD 281 0 = 0 := by decide +kernel
theorem wz_pm1 : wz_pm.getD 0 0 = 282 := by decide +kernel
theorem wz_pcl : ∀ i, i < 282 → wz_pc.getD i 0 < 316 := by decide +kernel
theorem wz_pml : ∀ i, i < 34 → wz_pm.getD i 0 < 316 := by decide +kernel
theorem wz_Scl : Sc.length = 282 := by decide +kernel
theorem wz_Sml : Sm.length = 34 := by decide +kernel
theorem wz_OK {F : wc_F} {ad : Nat → Nat} {E : wg_E} {P : List Nat} {S : wg_S} {B sa sv : Nat} {fv : Option Nat} (hE1 : E.1 = fun k => ad (P.getD k 0)) (hE2 : E.2.2.2.2 = ((sa, sv, fv), wz_X B sa sv fv)) (hB : F.2.2.2 = B) (hS : wg_ok S = true) (hPn : ∀ i, i < S.length → ∀ j, j < S.length → P.getD i 0 = P.getD j 0 → i = j) (hPl : ∀ i, i < S.length → P.getD i 0 < wz_3.length) (hD : va_D (wc_A F) (wc_w F ad wz_3)) : wg_OK E S ∧ ∀ q, wg_A E S q → B ≤ q := by
  have hA : ∀ q, wg_A E S q → B ≤ q := by
    rintro q ⟨k, hk, rfl⟩
    rw [hE1]
    have := hD.2 _ _ (wc_w_get (F := F) (ad := ad) (List.getElem?_eq_getElem (hPl k hk)))
    rw [← hB]
    exact this
  refine ⟨⟨fun i j hi hj h => ?_, hS, fun u U hW hq hX => ?_⟩, hA⟩
  · rw [hE1] at h
    exact hPn i hi j hj (wz_inj hD (hPl i hi) (hPl j hj) h)
  · rw [hE2] at hX ⊢
    exact wz_Xm hA hW hq hX
set_option maxHeartbeats 4000000 in
set_option maxRecDepth 20000 in
theorem wz_whole (Rl : wg_M → wg_M → Prop) (hall : wp_all Rl) (hR0 : Rl wz_c0 wz_m0) {p : Program} {e : Env} {s : State} {m : MethodId} {below : List Frame} {meth : Method} {c : Code} (l : Launch) {b L : Nat} {xs : Nat → Int32} (hL : L ≤ 3072) (C0 : lw_At p s m meth c b L xs) : W p l e room_1 s m #[Value.ref b] below meth c s.heap [] 0 0 (lw_Z below #[Value.ref b] s) (entryFrame m ([Value.ref b] : List Value).toArray 4) := by
  obtain ⟨hx, hb, hr, hml, hown, hts, hX, hbl, hlocks, hgv⟩ := id C0
  obtain ⟨D, cI, cB, hK⟩ := wz_K hts
  have hN := wz_N hts
  have hAO : va_AO "WornWigs$Bench" s := va_AO.of (hts _ wz_ao)
  obtain ⟨sa, sv, fv, hXX⟩ := wz_Xof hts hgv
  have htT : ∀ w ∈ wg_T, w.before #[Value.ref b] s = true := fun w hw => hts w (wg_T_in hw)
  obtain ⟨F, hF⟩ : ∃ F : wc_F, F = (D, cI, cB, s.heap.size) := ⟨_, rfl⟩
  have hK' : va_K F.1 vwCl (wc_ys F) s := by rw [hF]; exact hK
  have hB : F.2.2.2 ≤ s.heap.size := by rw [hF]; exact Nat.le_refl _
  have hBA : ∀ q, s.heap.size ≤ q → wc_A F q := fun q hq => Nat.le_trans hB hq
  have hl := lv_entry ([.ref b]) (n := 4) (Nat.le_of_ble_eq_true rfl)
  rw [lg_entry_eq]
  generalize (lg_sl ([.ref b]) ++ List.replicate (4 - (lg_sl ([.ref b])).length) Slot.unset).toArray = ls at hl ⊢
  have hl : lv_has ls 4 [(0, .ref b)] := hl
  have hS0 : va_S (wc_A F) s.heap s.heap [] := va_S.rf
  have hP0 : va_P F.1 vwCl (wc_w F (fun _ => 0) []) s.heap := fun k q h => by simp [wc_w] at h
  have hD0 : va_D (wc_A F) (wc_w F (fun _ => 0) []) := ⟨fun i j p q h => by simp [wc_w] at h, fun k q h => by simp [wc_w] at h⟩
  obtain ⟨h1, h2, h3, h4, h5⟩ := wc_11
  refine va_new (D := F.1) (cl := vwCl) (tys := wc_ys F) (ws := wc_w F (fun _ => 0) []) (ci := 11) (fs := (wc_df 11).map (wc_v (fun _ => 0))) (C := RX11) (T := TX11) (N := 7) hx hb htT h2 tyX11 h3 hown (htT _ wq_1_22) (htT _ wq_1_23) (htT _ wq_1_1) hK' hP0 hD0 hS0 hBA h1 (wc_d11 _) (Nat.le_of_ble_eq_true rfl) (Nat.le_of_ble_eq_true rfl) (wg_da dt_law_0 0 rfl) (fun q H1 hP1 hD1 hS1 => ?_)
  obtain ⟨hP1, hD1⟩ := wc_grow (x := (13, 0, wc_df 11)) wc_in_nil (fun j hj => absurd hj (wc_e11 j)) hP1 hD1
  refine lv_dup hx hb (wg_da dt_law_0 1 rfl) rfl ?_
  refine wz_run (F := F) (ad := wc_up (fun _ => 0) 0 q) (w := [(13, 0, wc_df 11)]) (x := 0) (mc2 := 281) (ms2 := 15124) (rest := [.ref q]) hx hb hml hown htT hK' hN hAO hB (wc_in_push wc_in_nil (fun j hj => absurd hj (wc_e11 j))) hP1 hD1 hS1 hl.1 (wg_da dt_law_0 2 rfl) ⟨wq_1_24, wq_1_25⟩ rfl wy_X11_init (ct_11 l F [(13, 0, wc_df 11)] 0 rfl 1 rfl) wc_up_eq.symm (Nat.le_of_ble_eq_true rfl) ⟨rfl, rfl, Nat.le_of_ble_eq_true rfl, Nat.le_of_ble_eq_true rfl, Nat.le_of_ble_eq_true rfl, Nat.le_of_ble_eq_true rfl⟩ (fun ad1 H2 locs2 hag1 hin1 hP2 hD2 hS2 => ?_)
  have hq0 : ad1 0 = q := (hag1 0 (by decide)).trans wc_up_eq
  refine lv_astore_n (lv' := [(1, .ref q), (0, .ref b)]) hx hb (wg_da dt_law_0 3 rfl) rfl hl (by decide) rfl (fun ls hl => ?_)
  have hin1 : wc_in wz_1 := hin1
  have hP2 : va_P F.1 vwCl (wc_w F ad1 wz_1) H2 := hP2
  have hD2 : va_D (wc_A F) (wc_w F ad1 wz_1) := hD2
  obtain ⟨g1, g2, g3, g4, g5⟩ := wc_12
  refine va_new (D := F.1) (cl := vwCl) (tys := wc_ys F) (ws := wc_w F ad1 wz_1) (ci := 12) (fs := (wc_df 12).map (wc_v ad1)) (C := RX12) (T := TX12) (N := 61) hx hb htT g2 tyX12 g3 hown (htT _ wq_6_120) (htT _ wq_6_121) (htT _ wq_1_14) hK' hP2 hD2 hS2 hBA g1 (wc_d12 _) (Nat.le_of_ble_eq_true rfl) (Nat.le_of_ble_eq_true rfl) (wg_da dt_law_0 4 rfl) (fun q2 H3 hP3 hD3 hS3 => ?_)
  obtain ⟨hP3, hD3⟩ := wc_grow (x := (14, 0, wc_df 12)) hin1 (fun j hj => absurd hj (wc_e12 j)) hP3 hD3
  refine lv_dup hx hb (wg_da dt_law_0 5 rfl) rfl ?_
  refine wz_run (F := F) (ad := wc_up ad1 wz_1.length q2) (w := wz_1 ++ [(14, 0, wc_df 12)]) (x := 282) (mc2 := 33) (ms2 := 9353) (rest := [.ref q2]) hx hb hml hown htT hK' hN hAO hB (wc_in_push hin1 (fun j hj => absurd hj (wc_e12 j))) hP3 hD3 hS3 hl.1 (wg_da dt_law_0 6 rfl) ⟨wq_6_122, wq_6_123⟩ rfl wy_X12_init (ct_12 l F _ 282 wz_g2 283 wz_l2) (by rw [wz_l1]; exact wc_up_eq.symm) (Nat.le_of_ble_eq_true rfl) ⟨rfl, rfl, Nat.le_of_ble_eq_true rfl, Nat.le_of_ble_eq_true rfl, Nat.le_of_ble_eq_true rfl, Nat.le_of_ble_eq_true rfl⟩ (fun ad H4 locs4 hag2 hin2 hP4 hD4 hS4 => ?_)
  have hq1 : ad 282 = q2 := (hag2 282 (by rw [wz_l2]; decide)).trans (by rw [wz_l1]; exact wc_up_eq)
  have hq2 : ad 0 = q := (hag2 0 (by rw [wz_l2]; decide)).trans ((wc_up_lt (by rw [wz_l1]; decide)).trans hq0)
  have hP4 : va_P F.1 vwCl (wc_w F ad wz_3) H4 := hP4
  have hD4 : va_D (wc_A F) (wc_w F ad wz_3) := hD4
  refine lv_astore_n (lv' := [(2, .ref q2), (1, .ref q), (0, .ref b)]) hx hb (wg_da dt_law_0 7 rfl) rfl hl (by decide) rfl (fun ls hl => ?_)
  refine lv_iconst (v := 0) hx hb (wg_da dt_law_0 8 rfl) (by decide) ?_
  refine lv_istore_n (lv' := [(3, .int 0), (2, .ref q2), (1, .ref q), (0, .ref b)]) hx hb (wg_da dt_law_0 9 rfl) rfl hl (by decide) rfl (fun ls hl => ?_)
  obtain ⟨okc, bc⟩ := wz_OK (F := F) (ad := ad) (E := (fun k => ad (wz_pc.getD k 0), D, cI, cB, (sa, sv, fv), wz_X s.heap.size sa sv fv)) (P := wz_pc) (S := Sc) (B := s.heap.size) (sa := sa) (sv := sv) (fv := fv) rfl rfl (by rw [hF]) Sc_ok (by rw [wz_Scl]; exact wz_pcn) (by rw [wz_Scl, wz_len]; exact wz_pcl) hD4
  obtain ⟨okm, bm⟩ := wz_OK (F := F) (ad := ad) (E := (fun k => ad (wz_pm.getD k 0), D, cI, cB, (sa, sv, fv), wz_X s.heap.size sa sv fv)) (P := wz_pm) (S := Sm) (B := s.heap.size) (sa := sa) (sv := sv) (fv := fv) rfl rfl (by rw [hF]) Sm_ok (by rw [wz_Sml]; exact wz_pmn) (by rw [wz_Sml, wz_len]; exact wz_pml) hD4
  have hC : wl_C p s m meth c b L xs (fun k => ad (wz_pc.getD k 0), D, cI, cB, (sa, sv, fv), wz_X s.heap.size sa sv fv) (fun k => ad (wz_pm.getD k 0), D, cI, cB, (sa, sv, fv), wz_X s.heap.size sa sv fv) (0 + 1 + 281 + 1 + 33) (0 + 7 + 15124 + 61 + 9353) := by
    refine ⟨C0, hL, ⟨okc, okm⟩, ⟨⟨hK, hN, hXX⟩, ⟨hK, hN, hXX⟩⟩, ?_, ⟨bc, bm⟩, wz_Xs rfl bc, Nat.le_of_ble_eq_true rfl, Nat.le_of_ble_eq_true rfl⟩
    rintro q ⟨i, hi, hqi⟩ ⟨j, hj, hqj⟩
    rw [wz_Scl] at hi
    rw [wz_Sml] at hj
    exact wz_pcm i hi j hj (wz_inj hD4 (by rw [wz_len]; exact wz_pcl i hi) (by rw [wz_len]; exact wz_pml j hj) (hqi.symm.trans hqj))
  have hfin := wl_loop (p := p) (l := l) (e := e) (below := below) hC Rl hall (L + 1) 0 wz_c0 wz_m0 hR0 (by omega) (by omega)
  have hPc := wz_P (E := (fun k => ad (wz_pc.getD k 0), D, cI, cB, (sa, sv, fv), wz_X s.heap.size sa sv fv)) wz_fc (by rw [hF]) (by rw [hF]) (by rw [hF]) (fun _ => rfl) hP4
  have hPm := wz_P (E := (fun k => ad (wz_pm.getD k 0), D, cI, cB, (sa, sv, fv), wz_X s.heap.size sa sv fv)) wz_fm (by rw [hF]) (by rw [hF]) (by rw [hF]) (fun _ => rfl) hP4
  refine hfin H4 locs4 ls ⟨hPc, hPm, by rw [hF] at hS4; exact hS4⟩ ?_
  have e1 : ad (wz_pc.getD 281 0) = q := by rw [wz_pc1]; exact hq2
  have e2 : ad (wz_pm.getD 0 0) = q2 := by rw [wz_pm1]; exact hq1
  show lv_has ls 4 [(0, .ref b), (1, .ref (ad (wz_pc.getD 281 0))), (2, .ref (ad (wz_pm.getD 0 0))), (3, .int (nI 0))]
  rw [e1, e2]
  exact lv_sub hl [3, 2, 1, 0] rfl

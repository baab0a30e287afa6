/-! the law's beginning -/
theorem arr_at {args : Array Value} {s : State} {ty : FieldType} (h : (Cond.arrayClass ty).before args s = true) : ∃ cA, ArrOfT s cA ty ∧ s.vm.findClass ("[" ++ ty.toString) = some cA := by
  obtain ⟨cA, kA, comp, h1, h2, h3⟩ := Cond.arrayClass_spec h
  exact ⟨cA, fun n z => ⟨(fun k h => by cases h), kA, h2, comp, h3⟩, h1⟩
theorem wK1 : Cond.methodLinkNest RX4 9 yX1_init "VeiledFiles" ∈ lw_tbl := by decide +kernel
theorem wK2 : Cond.methodLinkNest RX4 34 yX0_init "VeiledFiles" ∈ lw_tbl := by decide +kernel
theorem wK3 : Cond.methodLinkNest RX4 41 yX2_init "VeiledFiles" ∈ lw_tbl := by decide +kernel
theorem wK4 : Cond.castable eIO eIO ∈ lw_tbl := by decide +kernel
theorem wK5 : Cond.castable eIS eIS ∈ lw_tbl := by decide +kernel
theorem wK6 : Cond.declares (kxI "java/lang/RuntimeException") ∈ lw_tbl := by decide +kernel
theorem wK7 : Cond.declares (kxI "java/lang/Exception") ∈ lw_tbl := by decide +kernel
theorem wK8 : Cond.declares (kxI "java/lang/Throwable") ∈ lw_tbl := by decide +kernel
theorem wK9 : Cond.laysStatic Bundle.tN "UNASSIGNED_STACK" Bundle.steD ∈ lw_tbl := by decide +kernel
theorem wK10 : Cond.laysStatic Bundle.tN "SUPPRESSED_SENTINEL" Bundle.listD ∈ lw_tbl := by decide +kernel
theorem wK11 : Cond.initialized Bundle.tN ∈ lw_tbl := by decide +kernel
/-- the six classes, the three array classes -/
theorem law_known {args : Array Value} {s : State} (hts0 : ∀ w ∈ lw_tbl, w.before args s = true) : ∃ (D : va_G) (cI cZ cJ : ClassId), va_K D vwCl (kty cI cZ cJ) s := by
  have hts : ∀ w ∈ wsL_law, w.before args s = true := fun w hw => hts0 w (wsL_law_in w hw)
  obtain ⟨c0, i0, k0⟩ := u_known (C := RX0) (T := TX0) (N := 4) hts0 inX0 (hts _ (List.mem_of_getElem? (i := 26) rfl))
  obtain ⟨c1, i1, k1⟩ := u_known (C := RX1) (T := TX1) (N := 1) hts0 inX1 (hts _ (List.mem_of_getElem? (i := 15) rfl))
  obtain ⟨c2, i2, k2⟩ := u_known (C := RX2) (T := TX2) (N := 3) hts0 inX2 (hts _ (List.mem_of_getElem? (i := 30) rfl))
  obtain ⟨c3, i3, k3⟩ := u_known (C := RX3) (T := TX3) (N := 11) hts0 inX3 (hts _ (List.mem_of_getElem? (i := 19) rfl))
  obtain ⟨c4, i4, k4⟩ := u_known (C := RX4) (T := TX4) (N := 7) hts0 inX4 (hts _ (List.mem_of_getElem? (i := 1) rfl))
  obtain ⟨c5, i5, k5⟩ := u_known (C := RX5) (T := TX5) (N := 20) hts0 inX5 (hts _ (List.mem_of_getElem? (i := 4) rfl))
  obtain ⟨cI, aI, nI0⟩ := arr_at (ty := .int) (hts _ (List.mem_of_getElem? (i := 23) rfl))
  obtain ⟨cZ, aZ, nZ⟩ := arr_at (ty := .boolean) (hts _ (List.mem_of_getElem? (i := 47) rfl))
  obtain ⟨cJ, aJ, nJ⟩ := arr_at (ty := .long) (hts _ (List.mem_of_getElem? (i := 6) rfl))
  refine ⟨(fun n => match n with | 0 => c0 | 1 => c1 | 2 => c2 | 3 => c3 | 4 => c4 | _ => c5, fun n => match n with | 0 => i0 | 1 => i1 | 2 => i2 | 3 => i3 | 4 => i4 | _ => i5), cI, cZ, cJ, fun k q hq => ?_, fun k q hq => ?_⟩
  · match k, hq with
    | 0, hq => cases hq; exact k0
    | 1, hq => cases hq; exact k1
    | 2, hq => cases hq; exact k2
    | 3, hq => cases hq; exact k3
    | 4, hq => cases hq; exact k4
    | 5, hq => cases hq; exact k5
    | (n + 6), hq => exact absurd (List.getElem?_eq_some_iff.mp hq).1 (by show ¬ n + 6 < 6; omega)
  · match k, hq with
    | 0, hq => cases hq; exact ⟨aI, nI0⟩
    | 1, hq => cases hq; exact ⟨aZ, nZ⟩
    | 2, hq => cases hq; exact ⟨aJ, nJ⟩
    | (n + 3), hq => exact absurd (List.getElem?_eq_some_iff.mp hq).1 (by show ¬ n + 3 < 3; omega)
/-- what Throwable's making asks of the start -/
theorem law_kxC {b : Nat} {s : State} (hts0 : ∀ w ∈ lw_tbl, w.before #[Value.ref b] s = true) (hgv : (Jvm.Cond.and given_1 narrow_1).before #[Value.ref b] s = true) : kxC (fun q => s.heap.size ≤ q) s s.heap ∧ kxL s := by
  have hs := flat_of_before _ hgv
  have r1 : (Cond.isRef (.static Bundle.tN "UNASSIGNED_STACK" Bundle.steD)).before #[Value.ref b] s = true := hs _ (by decide +kernel)
  have r2 : (Cond.isRef (.static Bundle.tN "SUPPRESSED_SENTINEL" Bundle.listD)).before #[Value.ref b] s = true := hs _ (by decide +kernel)
  have r3 : (Cond.not (.castable eIS eIO)).before #[Value.ref b] s = true := hs _ (by decide +kernel)
  have hA : ∀ a : Nat, a < s.heap.size → ¬ (fun q => s.heap.size ≤ q) a := fun a h1 h2 => absurd (show s.heap.size ≤ a from h2) (by omega)
  refine ⟨⟨vx_Zqof (hts0 _ wK9) (hts0 _ wK11) r1 hA, vx_Zqof (hts0 _ wK10) (hts0 _ wK11) r2 hA, ⟨⟨va_Nw.of rfl (hts0 _ wK4), va_Nw.of rfl (hts0 _ wK5), va_Nc.of r3⟩, va_Nw.of rfl (hts0 _ wK6), va_Nw.of rfl (hts0 _ wK7), va_Nw.of rfl (hts0 _ wK8)⟩⟩, va_Nw.of rfl (hts0 _ wK1), va_Nw.of rfl (hts0 _ wK2), va_Nw.of rfl (hts0 _ wK3)⟩
theorem nil_P {D : va_G} {H : Heap} : va_P D vwCl [] H := fun k q hq => by cases hq
theorem nil_D {A : Nat → Prop} : va_D A [] := ⟨(fun i j x y hi => by cases hi), (fun k q hq => by cases hq)⟩
set_option maxHeartbeats 1600000 in
set_option maxRecDepth 100000 in
theorem law_body {p : Program} {l : Launch} {e : Env} {s : State} {m : MethodId} {args : Array Value} {below : List Frame} {meth : Method} {c : Code} {Q : State → Prop} {A : Nat → Prop} {D : va_G} {cI cZ cJ : ClassId} {b L : Nat} {xs : Nat → Int32} (hlS : l.stackTraces = false) (hts0 : ∀ w ∈ lw_tbl, w.before args s = true) (hL : kxL s) (hC : lC3 p s m args c A D (kty cI cZ cJ) b L xs) (hL2 : L ≤ 2560) {ls : Array Slot} (hl : lv_has ls 7 [(0, .ref b)])
    (fin : ∀ (H : Heap) (locs : List Loc) (ls : Array Slot) (cells slots : Nat), cells ≤ 1000 → slots ≤ 20000 → va_S A s.heap H locs → W p l e room_1 s m args below meth c H locs cells slots Q (F0 m 730 ls [])) :
    W p l e room_1 s m args below meth c s.heap [] 0 0 Q (F0 m 0 ls []) := by
  obtain ⟨⟨hx, hb, hml, hown, hts⟩, hA, hK, hCx, hX0, hbl, hbA⟩ := hC
  have hC : lC3 p s m args c A D (kty cI cZ cJ) b L xs := ⟨⟨hx, hb, hml, hown, hts⟩, hA, hK, hCx, hX0, hbl, hbA⟩
  have hS : va_S A s.heap s.heap [] := va_S.rf
  refine va_new (D := D) (ci := 4) (fs := [.null, .null, .null, .null, .null, .null, .int 0]) (C := RX4) (T := TX4) (N := 7) (ws := []) (A := A) (cl := vwCl) (tys := kty cI cZ cJ) hx hb hts0 inX4 tyX4 tyX4_ok hown (hts _ (List.mem_of_getElem? (i := 0) rfl)) (hts _ (List.mem_of_getElem? (i := 1) rfl)) (hts _ (List.mem_of_getElem? (i := 2) rfl)) hK nil_P nil_D hS hA rfl (fun j hj => by match j, hj with | 0, _ => rfl | 1, _ => rfl | 2, _ => rfl | 3, _ => rfl | 4, _ => rfl | 5, _ => rfl | 6, _ => rfl | (n + 7), h => exact absurd h (by omega)) (Nat.le_of_ble_eq_true rfl) (Nat.le_of_ble_eq_true rfl) dL_law_0 (fun vf H hP hD hS => ?_)
  have hP : va_P D vwCl [(vf, .inr (4, [.null, .null, .null, .null, .null, .null, .int 0]))] _ := hP
  have hD : va_D A [(vf, .inr (4, [.null, .null, .null, .null, .null, .null, .int 0]))] := hD
  refine lv_dup hx hb dL_law_3 rfl ?_
  refine k_ivl (As := []) (rest := [.ref vf]) (w2 := fun u : Nat × Nat × Nat × Nat × Nat × Nat × Nat × Nat × Nat × Nat × Nat × Nat × Nat × Nat × Nat × Nat × Nat × Nat × Nat × Nat × Nat × Nat => (wV cI cZ cJ vf u.1 u.2.1 u.2.2.1 u.2.2.2.1 u.2.2.2.2.1 u.2.2.2.2.2.1 u.2.2.2.2.2.2.1 u.2.2.2.2.2.2.2.1 u.2.2.2.2.2.2.2.2.1 u.2.2.2.2.2.2.2.2.2.1 u.2.2.2.2.2.2.2.2.2.2.1 u.2.2.2.2.2.2.2.2.2.2.2.1 u.2.2.2.2.2.2.2.2.2.2.2.2.1 u.2.2.2.2.2.2.2.2.2.2.2.2.2.1 u.2.2.2.2.2.2.2.2.2.2.2.2.2.2.1 u.2.2.2.2.2.2.2.2.2.2.2.2.2.2.2.1 u.2.2.2.2.2.2.2.2.2.2.2.2.2.2.2.2.1 u.2.2.2.2.2.2.2.2.2.2.2.2.2.2.2.2.2.1 u.2.2.2.2.2.2.2.2.2.2.2.2.2.2.2.2.2.2.1 u.2.2.2.2.2.2.2.2.2.2.2.2.2.2.2.2.2.2.2.1 u.2.2.2.2.2.2.2.2.2.2.2.2.2.2.2.2.2.2.2.2.1 u.2.2.2.2.2.2.2.2.2.2.2.2.2.2.2.2.2.2.2.2.2 (dG (gS (nI 1)) 72) (nI 0) (s0S (nI 0) (gS (nI 1))) (fun _ => 1) (o0S (gS (nI 1))) (l0S (gS (nI 1))) (w0S (gS (nI 1))) (nI 0) (s1S (nI 0) (gS (nI 1))) (fun _ => 1) (o1S (gS (nI 1))) (l1S (gS (nI 1))) (fun _ => zrow) (mpS (gS (nI 1))) (fun _ => 0) (fun _ => 0) (fun _ => 0) (fun _ => 0) (fun _ => 0) (fun _ => 0) (fun _ => 0) 0 0)) ⟨hx, hb, hml, hown, hts⟩ (c_i_vf l D cI cZ cJ vf) (cwI 0 hts gL_law_X4_init rfl rfl rfl (hts _ (List.mem_of_getElem? (i := 2) rfl)) (hts _ (List.mem_of_getElem? (i := 8) rfl)) (hts _ (List.mem_of_getElem? (i := 9) rfl)) rfl (by decide +kernel) ⟨Nat.le_of_ble_eq_true rfl, Nat.le_of_ble_eq_true rfl⟩) hL hP hD hK hS hA [0] [] [0, 1, 2, 3, 4, 5, 6, 7, 8, 9, 10, 11, 12, 13, 14, 15, 16, 17, 18, 19, 20, 21, 22] rfl rfl (by decide) (fun u => rfl) rfl hl.1 rfl (Nat.le_of_ble_eq_true rfl) dL_law_4 ⟨Nat.le_of_ble_eq_true rfl, Nat.le_of_ble_eq_true rfl⟩ (fun u H locs hu hP hD hS => ?_)
  refine lv_astore_n (lv' := [(1, .ref vf), (0, .ref b)]) hx hb dL_law_7 rfl hl (by decide) rfl (fun ls hl => ?_)
  refine va_new (D := D) (ci := 5) (fs := [.int 0, .int 0, .int 0, .int 0, .int 0, .null, .null, .null, .null, .null, .null, .null, .null, .null, .null, .null, .null, .null, .null, .int 0]) (C := RX5) (T := TX5) (N := 20) (A := A) (cl := vwCl) (tys := kty cI cZ cJ) hx hb hts0 inX5 tyX5 tyX5_ok hown (hts _ (List.mem_of_getElem? (i := 3) rfl)) (hts _ (List.mem_of_getElem? (i := 4) rfl)) (hts _ (List.mem_of_getElem? (i := 5) rfl)) hK hP hD hS hA rfl (fun j hj => by match j, hj with | 0, _ => rfl | 1, _ => rfl | 2, _ => rfl | 3, _ => rfl | 4, _ => rfl | 5, _ => rfl | 6, _ => rfl | 7, _ => rfl | 8, _ => rfl | 9, _ => rfl | 10, _ => rfl | 11, _ => rfl | 12, _ => rfl | 13, _ => rfl | 14, _ => rfl | 15, _ => rfl | 16, _ => rfl | 17, _ => rfl | 18, _ => rfl | 19, _ => rfl | (n + 20), h => exact absurd h (by omega)) (Nat.le_of_ble_eq_true rfl) (Nat.le_of_ble_eq_true rfl) dL_law_8 (fun mo H hP hD hS => ?_)
  refine lv_dup hx hb dL_law_11 rfl ?_
  refine k_iv (As := []) (rest := [.ref mo]) (w2 := fun v : Nat × Nat × Nat × Nat × Nat × Nat × Nat × Nat × Nat × Nat × Nat × Nat × Nat × Nat × (Nat → Int32) => (wV cI cZ cJ vf u.1 u.2.1 u.2.2.1 u.2.2.2.1 u.2.2.2.2.1 u.2.2.2.2.2.1 u.2.2.2.2.2.2.1 u.2.2.2.2.2.2.2.1 u.2.2.2.2.2.2.2.2.1 u.2.2.2.2.2.2.2.2.2.1 u.2.2.2.2.2.2.2.2.2.2.1 u.2.2.2.2.2.2.2.2.2.2.2.1 u.2.2.2.2.2.2.2.2.2.2.2.2.1 u.2.2.2.2.2.2.2.2.2.2.2.2.2.1 u.2.2.2.2.2.2.2.2.2.2.2.2.2.2.1 u.2.2.2.2.2.2.2.2.2.2.2.2.2.2.2.1 u.2.2.2.2.2.2.2.2.2.2.2.2.2.2.2.2.1 u.2.2.2.2.2.2.2.2.2.2.2.2.2.2.2.2.2.1 u.2.2.2.2.2.2.2.2.2.2.2.2.2.2.2.2.2.2.1 u.2.2.2.2.2.2.2.2.2.2.2.2.2.2.2.2.2.2.2.1 u.2.2.2.2.2.2.2.2.2.2.2.2.2.2.2.2.2.2.2.2.1 u.2.2.2.2.2.2.2.2.2.2.2.2.2.2.2.2.2.2.2.2.2 (dG (gS (nI 1)) 72) (nI 0) (s0S (nI 0) (gS (nI 1))) (fun _ => 1) (o0S (gS (nI 1))) (l0S (gS (nI 1))) (w0S (gS (nI 1))) (nI 0) (s1S (nI 0) (gS (nI 1))) (fun _ => 1) (o1S (gS (nI 1))) (l1S (gS (nI 1))) (fun _ => zrow) (mpS (gS (nI 1))) (fun _ => 0) (fun _ => 0) (fun _ => 0) (fun _ => 0) (fun _ => 0) (fun _ => 0) (fun _ => 0) 0 0) ++ (wM cI cZ cJ mo v.1 v.2.1 v.2.2.1 v.2.2.2.1 v.2.2.2.2.1 v.2.2.2.2.2.1 v.2.2.2.2.2.2.1 v.2.2.2.2.2.2.2.1 v.2.2.2.2.2.2.2.2.1 v.2.2.2.2.2.2.2.2.2.1 v.2.2.2.2.2.2.2.2.2.2.1 v.2.2.2.2.2.2.2.2.2.2.2.1 v.2.2.2.2.2.2.2.2.2.2.2.2.1 v.2.2.2.2.2.2.2.2.2.2.2.2.2.1 0 (dG (gS (nI 1)) 72) (nI 0) 0 0 0 (s0S (nI 0) (gS (nI 1))) (fun _ => 1) (o0S (gS (nI 1))) (l0S (gS (nI 1))) (w0S (gS (nI 1))) (s1S (nI 0) (gS (nI 1))) (fun _ => 1) (o1S (gS (nI 1))) (l1S (gS (nI 1))) (fun _ => zrow) (mpS (gS (nI 1))) v.2.2.2.2.2.2.2.2.2.2.2.2.2.2 (fun _ => 0) (fun _ => 0) (fun _ => 0) (fun _ => 0) (fun _ => 0) (fun _ => 0) (fun _ => 0))) ⟨hx, hb, hml, hown, hts⟩ (c_i_mo l D cI cZ cJ mo) (cwI 0 hts gL_law_X5_init rfl rfl rfl (hts _ (List.mem_of_getElem? (i := 5) rfl)) (hts _ (List.mem_of_getElem? (i := 161) rfl)) (hts _ (List.mem_of_getElem? (i := 162) rfl)) rfl (by decide +kernel) ⟨Nat.le_of_ble_eq_true rfl, Nat.le_of_ble_eq_true rfl⟩) hP hD hK hS hA [23] [0, 1, 2, 3, 4, 5, 6, 7, 8, 9, 10, 11, 12, 13, 14, 15, 16, 17, 18, 19, 20, 21, 22] [0, 1, 2, 3, 4, 5, 6, 7, 8, 9, 10, 11, 12, 13, 14, 15, 16, 17, 18, 19, 20, 21, 22, 23, 24, 25, 26, 27, 28, 29, 30, 31, 32, 33, 34, 35, 36, 37] rfl rfl (by decide) (fun v => rfl) rfl hl.1 rfl (Nat.le_of_ble_eq_true rfl) dL_law_12 ⟨Nat.le_of_ble_eq_true rfl, Nat.le_of_ble_eq_true rfl⟩ (fun v H locs hv hP hD hS => ?_)
  refine lv_astore_n (lv' := [(2, .ref mo), (1, .ref vf), (0, .ref b)]) hx hb dL_law_15 rfl hl (by decide) rfl (fun ls hl => ?_)
  refine lv_iconst (v := nI 1) hx hb dL_law_16 (by decide) ?_
  refine k_newJ hx hb (hts _ (List.mem_of_getElem? (i := 6) rfl)) hK hP hD hS hA 1 (by decide) (Nat.le_of_ble_eq_true rfl) (Nat.le_of_ble_eq_true rfl) dL_law_17 (fun oz H hP hD hS => ?_)
  refine lv_astore_n (lv' := [(3, .ref oz), (2, .ref mo), (1, .ref vf), (0, .ref b)]) hx hb dL_law_19 rfl hl (by decide) rfl (fun ls hl => ?_)
  refine lv_iconst (v := nI 0) hx hb dL_law_20 (by decide) ?_
  refine lv_istore (lv' := [(4, .int (nI 0)), (3, .ref oz), (2, .ref mo), (1, .ref vf), (0, .ref b)]) hx hb dL_law_21 hl (by decide) rfl (fun ls hl => ?_)
  obtain ⟨hP1, hPo⟩ := cat_P hP
  obtain ⟨hPx, hPm⟩ := cat_P hP1
  obtain ⟨hD1, hDo, hdo⟩ := cat_D hD
  obtain ⟨hDx, hDm, hdm⟩ := cat_D hD1
  have hdo := dis_of_cat hdo.symm
  have hLS : lS3 D A (wV cI cZ cJ vf u.1 u.2.1 u.2.2.1 u.2.2.2.1 u.2.2.2.2.1 u.2.2.2.2.2.1 u.2.2.2.2.2.2.1 u.2.2.2.2.2.2.2.1 u.2.2.2.2.2.2.2.2.1 u.2.2.2.2.2.2.2.2.2.1 u.2.2.2.2.2.2.2.2.2.2.1 u.2.2.2.2.2.2.2.2.2.2.2.1 u.2.2.2.2.2.2.2.2.2.2.2.2.1 u.2.2.2.2.2.2.2.2.2.2.2.2.2.1 u.2.2.2.2.2.2.2.2.2.2.2.2.2.2.1 u.2.2.2.2.2.2.2.2.2.2.2.2.2.2.2.1 u.2.2.2.2.2.2.2.2.2.2.2.2.2.2.2.2.1 u.2.2.2.2.2.2.2.2.2.2.2.2.2.2.2.2.2.1 u.2.2.2.2.2.2.2.2.2.2.2.2.2.2.2.2.2.2.1 u.2.2.2.2.2.2.2.2.2.2.2.2.2.2.2.2.2.2.2.1 u.2.2.2.2.2.2.2.2.2.2.2.2.2.2.2.2.2.2.2.2.1 u.2.2.2.2.2.2.2.2.2.2.2.2.2.2.2.2.2.2.2.2.2 (dG (gS (nI 1)) 72) (nI 0) (s0S (nI 0) (gS (nI 1))) (fun _ => 1) (o0S (gS (nI 1))) (l0S (gS (nI 1))) (w0S (gS (nI 1))) (nI 0) (s1S (nI 0) (gS (nI 1))) (fun _ => 1) (o1S (gS (nI 1))) (l1S (gS (nI 1))) (fun _ => zrow) (mpS (gS (nI 1))) (fun _ => 0) (fun _ => 0) (fun _ => 0) (fun _ => 0) (fun _ => 0) (fun _ => 0) (fun _ => 0) 0 0) (wM cI cZ cJ mo v.1 v.2.1 v.2.2.1 v.2.2.2.1 v.2.2.2.2.1 v.2.2.2.2.2.1 v.2.2.2.2.2.2.1 v.2.2.2.2.2.2.2.1 v.2.2.2.2.2.2.2.2.1 v.2.2.2.2.2.2.2.2.2.1 v.2.2.2.2.2.2.2.2.2.2.1 v.2.2.2.2.2.2.2.2.2.2.2.1 v.2.2.2.2.2.2.2.2.2.2.2.2.1 v.2.2.2.2.2.2.2.2.2.2.2.2.2.1 0 (dG (gS (nI 1)) 72) (nI 0) 0 0 0 (s0S (nI 0) (gS (nI 1))) (fun _ => 1) (o0S (gS (nI 1))) (l0S (gS (nI 1))) (w0S (gS (nI 1))) (s1S (nI 0) (gS (nI 1))) (fun _ => 1) (o1S (gS (nI 1))) (l1S (gS (nI 1))) (fun _ => zrow) (mpS (gS (nI 1))) v.2.2.2.2.2.2.2.2.2.2.2.2.2.2 (fun _ => 0) (fun _ => 0) (fun _ => 0) (fun _ => 0) (fun _ => 0) (fun _ => 0) (fun _ => 0)) [(oz, .inl (cJ, 1, .inr (.inl (fun _ => 0))))] H := ⟨⟨hPx, hDx⟩, ⟨hPm, hDm⟩, ⟨hPo, hDo⟩, hdm, hdo.1.symm, hdo.2.symm⟩
  exact law_loop hlS hC hL2 fin 512 0 0 _ _ _ _ _ H locs ls (by omega) rfl (by omega) (by decide) (by decide) (ix ⟨fun _ => rfl, vS_s0 _ _, vL_l0 _ _, vS_s1 _ _, vL_l1 _ _, fun j => drw_lt (n := 2) _ (by decide), bI_zero, Nat.zero_le _⟩) hLS hS (lv_sub hl [4, 3, 2, 1, 0] rfl)

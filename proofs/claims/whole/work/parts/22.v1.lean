abbrev wV (cI cZ cJ : ClassId) (vf : Nat) (di : Nat) (t0 : Nat) (st0 : Nat) (ct0 : Nat) (hd0 : Nat) (lv0 : Nat) (wd0 : Nat) (t1 : Nat) (st1 : Nat) (ct1 : Nat) (hd1 : Nat) (lv1 : Nat) (wd1 : Nat) (mp : Nat) (bk : Nat) (nm : Nat) (ln : Nat) (pt : Nat) (tk : Nat) (tr : Nat) (ml : Nat) (dl : Nat) (G : Int32) (ky0 : Int32) (S0 : Nat → Nat → Int32) (C0 : Nat → Int32) (O0 : Nat → Int32) (L0 : Nat → Int32) (W0 : Nat → Nat → Int32) (ky1 : Int32) (S1 : Nat → Nat → Int32) (C1 : Nat → Int32) (O1 : Nat → Int32) (L1 : Nat → Int32) (W1 : Nat → Nat → Int32) (MP : Nat → Nat) (NM : Nat → Int64) (TH : Nat → Int32) (SZ : Nat → Nat) (PT : Nat → Nat) (TK : Nat → Int32) (ML : Nat → Int32) (DL : Nat → Int32) (cn : Nat) (DE : Int32) : va_W := [(vf, .inr (4, [.ref di, .ref t0, .ref t1, .ref mp, .ref bk, .ref tr, .int DE])), (di, .inr (1, [.int G])), (t0, .inr (3, [.int 0, .int (nI 4), .int (nI 3), .int (nI 7), .int (nI 8), .ref st0, .ref ct0, .ref hd0, .ref lv0, .ref wd0, .int ky0])), (st0, .inl (cI, 25 * 7, .inl (fl25 S0))), (ct0, .inl (cI, 7, .inl C0)), (hd0, .inl (cZ, 8, .inl O0)), (lv0, .inl (cI, 8, .inl L0)), (wd0, .inl (cI, 4 * 8, .inl (fl4 W0))), (t1, .inr (3, [.int 1, .int (nI 32), .int (nI 6), .int (nI 63), .int (nI 64), .ref st1, .ref ct1, .ref hd1, .ref lv1, .ref wd1, .int ky1])), (st1, .inl (cI, 25 * 63, .inl (fl25 S1))), (ct1, .inl (cI, 63, .inl C1)), (hd1, .inl (cZ, 64, .inl O1)), (lv1, .inl (cI, 64, .inl L1)), (wd1, .inl (cI, 4 * 64, .inl (fl4 W1))), (mp, .inl (cI, 8, .inl (nIf MP))), (bk, .inr (0, [.ref nm, .ref ln, .ref pt, .ref tk])), (nm, .inl (cJ, 8, .inr (.inl NM))), (ln, .inl (cI, 8, .inl (lenF TH SZ))), (pt, .inl (cI, 48, .inl (nIf PT))), (tk, .inl (cZ, 64, .inl TK)), (tr, .inr (2, [.ref ml, .ref dl, .int (nI cn)])), (ml, .inl (cI, 64, .inl ML)), (dl, .inl (cI, 64, .inl DL))]
abbrev wVr (cI cZ cJ : ClassId) (vf : Nat) (di : Nat) (t0 : Nat) (st0 : Nat) (ct0 : Nat) (hd0 : Nat) (lv0 : Nat) (wd0 : Nat) (t1 : Nat) (st1 : Nat) (ct1 : Nat) (hd1 : Nat) (lv1 : Nat) (wd1 : Nat) (mp : Nat) (bk : Nat) (nm : Nat) (ln : Nat) (pt : Nat) (tk : Nat) (tr : Nat) (ml : Nat) (dl : Nat) (G : Int32) (ky0 : Int32) (S0 : Nat → Nat → Int32) (C0 : Nat → Int32) (O0 : Nat → Int32) (L0 : Nat → Int32) (W0 : Nat → Nat → Int32) (ky1 : Int32) (S1 : Nat → Nat → Int32) (C1 : Nat → Int32) (O1 : Nat → Int32) (L1 : Nat → Int32) (W1 : Nat → Nat → Int32) (MP : Nat → Int32) (NM : Nat → Int64) (TH : Nat → Int32) (SZ : Nat → Nat) (PT : Nat → Nat) (TK : Nat → Int32) (ML : Nat → Int32) (DL : Nat → Int32) (cn : Nat) (DE : Int32) : va_W := [(vf, .inr (4, [.ref di, .ref t0, .ref t1, .ref mp, .ref bk, .ref tr, .int DE])), (di, .inr (1, [.int G])), (t0, .inr (3, [.int 0, .int (nI 4), .int (nI 3), .int (nI 7), .int (nI 8), .ref st0, .ref ct0, .ref hd0, .ref lv0, .ref wd0, .int ky0])), (st0, .inl (cI, 25 * 7, .inl (fl25 S0))), (ct0, .inl (cI, 7, .inl C0)), (hd0, .inl (cZ, 8, .inl O0)), (lv0, .inl (cI, 8, .inl L0)), (wd0, .inl (cI, 4 * 8, .inl (fl4 W0))), (t1, .inr (3, [.int 1, .int (nI 32), .int (nI 6), .int (nI 63), .int (nI 64), .ref st1, .ref ct1, .ref hd1, .ref lv1, .ref wd1, .int ky1])), (st1, .inl (cI, 25 * 63, .inl (fl25 S1))), (ct1, .inl (cI, 63, .inl C1)), (hd1, .inl (cZ, 64, .inl O1)), (lv1, .inl (cI, 64, .inl L1)), (wd1, .inl (cI, 4 * 64, .inl (fl4 W1))), (mp, .inl (cI, 8, .inl MP)), (bk, .inr (0, [.ref nm, .ref ln, .ref pt, .ref tk])), (nm, .inl (cJ, 8, .inr (.inl NM))), (ln, .inl (cI, 8, .inl (lenF TH SZ))), (pt, .inl (cI, 48, .inl (nIf PT))), (tk, .inl (cZ, 64, .inl TK)), (tr, .inr (2, [.ref ml, .ref dl, .int (nI cn)])), (ml, .inl (cI, 64, .inl ML)), (dl, .inl (cI, 64, .inl DL))]
set_option maxHeartbeats 800000 in
set_option maxRecDepth 100000 in
theorem c_entryShift (l : Launch) (D : va_G) (cI cZ cJ : ClassId)  (i : Nat) (hi : i < 1000) : KI l yX4_entryShift wsX4_entryShift ({ frames := 0, cells := 0, slots := 0, locals := 0 }) D (kty cI cZ cJ) [.int (nI i)] (wN cI cZ cJ ) (fun r (_ : Unit) => r = nI (16 * (i % 2))) (fun _ : Unit => (wN cI cZ cJ )) 0 0 := by
  refine k_headI (cc := cX4_entryShift) (maxL := 1) (ret := (some .int)) (by decide) rfl (Nat.le_of_ble_eq_true rfl) ?_
  intro p e s m below meth c A ls args Q hx hb hr hml hts hown hlk hnm hA hK hP hD hS hl hQ
  have hl : lv_has ls 1 [(0, .int (nI i))] := hl
  refine lv_bipush (v := nI 16) hx hb dX4_entryShift_0 (by decide) ?_
  refine lv_iload_n hx hb dX4_entryShift_2 rfl (lv_at hl 0 rfl) ?_
  refine lv_iconst (v := nI 2) hx hb dX4_entryShift_3 (by decide) ?_
  refine lv_irem hx hb dX4_entryShift_4 (by decide) ?_
  refine k_t1 (show (nI i) - (nI i) / (nI 2) * (nI 2) = nI (i % 2) from pk_rem (by omega) (by omega) (by omega)) ?_
  refine lv_imul hx hb dX4_entryShift_5 ?_
  refine k_t1 (show (nI 16) * (nI (i % 2)) = nI (16 * (i % 2)) from pk_mul _ _) ?_
  exact k_reti () hx hb hr hK hS hlk dX4_entryShift_6 hP hD (rfl) hQ

set_option maxHeartbeats 800000 in
set_option maxRecDepth 100000 in
theorem c_entryOf (l : Launch) (D : va_G) (cI cZ cJ : ClassId) (vf : Nat) (di : Nat) (t0 : Nat) (st0 : Nat) (ct0 : Nat) (hd0 : Nat) (lv0 : Nat) (wd0 : Nat) (t1 : Nat) (st1 : Nat) (ct1 : Nat) (hd1 : Nat) (lv1 : Nat) (wd1 : Nat) (mp : Nat) (bk : Nat) (nm : Nat) (ln : Nat) (pt : Nat) (tk : Nat) (tr : Nat) (ml : Nat) (dl : Nat) (G : Int32) (ky0 : Int32) (S0 : Nat → Nat → Int32) (C0 : Nat → Int32) (O0 : Nat → Int32) (L0 : Nat → Int32) (W0 : Nat → Nat → Int32) (ky1 : Int32) (S1 : Nat → Nat → Int32) (C1 : Nat → Int32) (O1 : Nat → Int32) (L1 : Nat → Int32) (W1 : Nat → Nat → Int32) (MP : Nat → Nat) (NM : Nat → Int64) (TH : Nat → Int32) (SZ : Nat → Nat) (PT : Nat → Nat) (TK : Nat → Int32) (ML : Nat → Int32) (DL : Nat → Int32) (cn : Nat) (DE : Int32) (d : Nat) (hd : d < 64) : KI l yX4_entryOf wsX4_entryOf ({ frames := 1, cells := 0, slots := 0, locals := 22 }) D (kty cI cZ cJ) [.ref vf, .int (nI d)] (wV cI cZ cJ vf di t0 st0 ct0 hd0 lv0 wd0 t1 st1 ct1 hd1 lv1 wd1 mp bk nm ln pt tk tr ml dl G ky0 S0 C0 O0 L0 W0 ky1 S1 C1 O1 L1 W1 MP NM TH SZ PT TK ML DL cn DE) (fun r (_ : Unit) => r = nI (entM (W0 (d / 8) (d % 8 / 2)) (d % 8 % 2))) (fun _ : Unit => (wV cI cZ cJ vf di t0 st0 ct0 hd0 lv0 wd0 t1 st1 ct1 hd1 lv1 wd1 mp bk nm ln pt tk tr ml dl G ky0 S0 C0 O0 L0 W0 ky1 S1 C1 O1 L1 W1 MP NM TH SZ PT TK ML DL cn DE)) 0 0 := by
  refine k_headI (cc := cX4_entryOf) (maxL := 4) (ret := (some .int)) (by decide) rfl (Nat.le_of_ble_eq_true rfl) ?_
  intro p e s m below meth c A ls args Q hx hb hr hml hts hown hlk hnm hA hK hP hD hS hl hQ
  have hl : lv_has ls 4 [(0, .ref vf), (1, .int (nI d))] := hl
  refine lv_iload_n hx hb dX4_entryOf_0 rfl (lv_at hl 1 rfl) ?_
  refine lv_bipush (v := nI 8) hx hb dX4_entryOf_1 (by decide) ?_
  refine lv_irem hx hb dX4_entryOf_3 (by decide) ?_
  refine k_t1 (show (nI d) - (nI d) / (nI 8) * (nI 8) = nI (d % 8) from pk_rem (by omega) (by omega) (by omega)) ?_
  refine lv_istore_n (lv' := [(2, .int (nI (d % 8))), (0, .ref vf), (1, .int (nI d))]) hx hb dX4_entryOf_4 rfl hl (by decide) rfl (fun ls hl => ?_)
  refine lv_aload_n hx hb dX4_entryOf_5 rfl (lv_at hl 1 rfl) ?_
  refine va_get (D := D) (ci := 4) (v := .ref t0) (C := RX4) (T := TX4) (N := 7) hx hb hts (by decide +kernel) hown hK hP 0 rfl rfl 1 (by decide) (hts (.fieldLink RX4 21 "VeiledFiles" "map" "LVeiledFiles$Tree;") (by decide +kernel)) (fun _ h9 => h9) rfl dX4_entryOf_6 ?_
  refine lv_iload_n hx hb dX4_entryOf_9 rfl (lv_at hl 2 rfl) ?_
  refine lv_bipush (v := nI 8) hx hb dX4_entryOf_10 (by decide) ?_
  refine lv_idiv hx hb dX4_entryOf_12 (by decide) ?_
  refine k_t1 (show (nI d) / (nI 8) = nI (d / 8) from pk_div (by omega) (by omega) (by omega)) ?_
  refine lv_iload_n hx hb dX4_entryOf_13 rfl (lv_at hl 0 rfl) ?_
  refine lv_iconst (v := nI 2) hx hb dX4_entryOf_14 (by decide) ?_
  refine lv_idiv hx hb dX4_entryOf_15 (by decide) ?_
  refine k_t1 (show (nI (d % 8)) / (nI 2) = nI ((d % 8) / 2) from pk_div (by omega) (by omega) (by omega)) ?_
  refine k_vi (As := [.int (nI (d / 8)), .int (nI ((d % 8) / 2))]) (rest := []) (w2 := fun u : Unit => (wV cI cZ cJ vf di t0 st0 ct0 hd0 lv0 wd0 t1 st1 ct1 hd1 lv1 wd1 mp bk nm ln pt tk tr ml dl G ky0 S0 C0 O0 L0 W0 ky1 S1 C1 O1 L1 W1 MP NM TH SZ PT TK ML DL cn DE)) ⟨hx, hb, hml, hown, hts⟩ (c_wordOf l D cI cZ cJ t0 st0 ct0 hd0 lv0 wd0 0 4 3 7 8 ky0 S0 C0 O0 L0 W0 (d / 8) (d % 8 / 2) tp0 (by omega) (by omega)) (cwV 2 hts gX4_entryOf_X3_wordOf rfl rfl rfl (by decide +kernel) ⟨Nat.le_of_ble_eq_true rfl, Nat.le_of_ble_eq_true rfl⟩) hP hD hK hS hA [2, 3, 4, 5, 6, 7] [0, 1, 8, 9, 10, 11, 12, 13, 14, 15, 16, 17, 18, 19, 20, 21, 22] [0, 1, 17, 18, 19, 20, 21, 22, 2, 3, 4, 5, 6, 7, 8, 9, 10, 11, 12, 13, 14, 15, 16] rfl rfl (by decide) (fun u => rfl) rfl rfl (q0 := 0) rfl rfl hl.1 rfl (Nat.le_of_ble_eq_true rfl) dX4_entryOf_16 ⟨Nat.le_of_ble_eq_true rfl, Nat.le_of_ble_eq_true rfl⟩ (fun r u H locs hu1 hP hD hS => ?_)
  refine k_t1 (show r = W0 (d / 8) (d % 8 / 2) from hu1) ?_
  refine lv_istore_n (lv' := [(3, .int (W0 (d / 8) (d % 8 / 2))), (2, .int (nI (d % 8))), (0, .ref vf), (1, .int (nI d))]) hx hb dX4_entryOf_19 rfl hl (by decide) rfl (fun ls hl => ?_)
  refine lv_iload_n hx hb dX4_entryOf_20 rfl (lv_at hl 0 rfl) ?_
  refine lv_iload_n hx hb dX4_entryOf_21 rfl (lv_at hl 1 rfl) ?_
  refine k_si (As := [.int (nI (d % 8))]) (rest := [.int (W0 (d / 8) (d % 8 / 2))]) (w2 := fun u : Unit => (wV cI cZ cJ vf di t0 st0 ct0 hd0 lv0 wd0 t1 st1 ct1 hd1 lv1 wd1 mp bk nm ln pt tk tr ml dl G ky0 S0 C0 O0 L0 W0 ky1 S1 C1 O1 L1 W1 MP NM TH SZ PT TK ML DL cn DE)) ⟨hx, hb, hml, hown, hts⟩ (c_entryShift l D cI cZ cJ  (d % 8) (by omega)) (va_cwS 1 hts gX4_entryOf_X4_entryShift rfl rfl rfl (by decide +kernel) ⟨Nat.le_of_ble_eq_true rfl, Nat.le_of_ble_eq_true rfl⟩) hP hD hK hS hA [] [0, 1, 2, 3, 4, 5, 6, 7, 8, 9, 10, 11, 12, 13, 14, 15, 16, 17, 18, 19, 20, 21, 22] [0, 1, 2, 3, 4, 5, 6, 7, 8, 9, 10, 11, 12, 13, 14, 15, 16, 17, 18, 19, 20, 21, 22] rfl rfl (by decide) (fun u => rfl) rfl hl.1 rfl (Nat.le_of_ble_eq_true rfl) dX4_entryOf_22 ⟨Nat.le_of_ble_eq_true rfl, Nat.le_of_ble_eq_true rfl⟩ (fun r u H locs hu2 hP hD hS => ?_)
  refine k_t1 (show r = nI (16 * (d % 8 % 2)) from hu2) ?_
  refine lv_iushr (v := ush (W0 (d / 8) (d % 8 / 2)) (nI (16 * (d % 8 % 2)))) hx hb dX4_entryOf_25 rfl ?_
  refine lv_bipush (v := nI 31) hx hb dX4_entryOf_26 (by decide) ?_
  refine lv_iand hx hb dX4_entryOf_28 ?_
  exact k_reti () hx hb hr hK hS hlk dX4_entryOf_29 hP hD (by exact entM_ush _ (by omega)) hQ

set_option maxHeartbeats 800000 in
set_option maxRecDepth 100000 in
theorem c_setEntry (l : Launch) (D : va_G) (cI cZ cJ : ClassId) (vf : Nat) (di : Nat) (t0 : Nat) (st0 : Nat) (ct0 : Nat) (hd0 : Nat) (lv0 : Nat) (wd0 : Nat) (t1 : Nat) (st1 : Nat) (ct1 : Nat) (hd1 : Nat) (lv1 : Nat) (wd1 : Nat) (mp : Nat) (bk : Nat) (nm : Nat) (ln : Nat) (pt : Nat) (tk : Nat) (tr : Nat) (ml : Nat) (dl : Nat) (G : Int32) (ky0 : Int32) (S0 : Nat → Nat → Int32) (C0 : Nat → Int32) (O0 : Nat → Int32) (L0 : Nat → Int32) (W0 : Nat → Nat → Int32) (ky1 : Int32) (S1 : Nat → Nat → Int32) (C1 : Nat → Int32) (O1 : Nat → Int32) (L1 : Nat → Int32) (W1 : Nat → Nat → Int32) (MP : Nat → Nat) (NM : Nat → Int64) (TH : Nat → Int32) (SZ : Nat → Nat) (PT : Nat → Nat) (TK : Nat → Int32) (ML : Nat → Int32) (DL : Nat → Int32) (cn : Nat) (DE : Int32) (d v0 : Nat) (hd : d < 64) : KV l yX4_setEntry wsX4_setEntry ({ frames := 1, cells := 0, slots := 0, locals := 23 }) D (kty cI cZ cJ) [.ref vf, .int (nI d), .int (nI v0)] (wV cI cZ cJ vf di t0 st0 ct0 hd0 lv0 wd0 t1 st1 ct1 hd1 lv1 wd1 mp bk nm ln pt tk tr ml dl G ky0 S0 C0 O0 L0 W0 ky1 S1 C1 O1 L1 W1 MP NM TH SZ PT TK ML DL cn DE) (fun (_ : Unit) => True) (fun _ : Unit => (wV cI cZ cJ vf di t0 st0 ct0 hd0 lv0 wd0 t1 st1 ct1 hd1 lv1 wd1 mp bk nm ln pt tk tr ml dl G ky0 S0 C0 O0 L0 (setRow W0 (d / 8) (upd (W0 (d / 8)) (d % 8 / 2) (setE (W0 (d / 8) (d % 8 / 2)) (d % 8 % 2) (nI v0)))) ky1 S1 C1 O1 L1 W1 MP NM TH SZ PT TK ML DL cn DE)) 0 0 := by
  refine k_headV (cc := cX4_setEntry) (maxL := 6) (ret := none) (by decide) rfl (Nat.le_of_ble_eq_true rfl) ?_
  intro p e s m below meth c A ls args Q hx hb hr hml hts hown hlk hnm hA hK hP hD hS hl hQ
  have hl : lv_has ls 6 [(0, .ref vf), (1, .int (nI d)), (2, .int (nI v0))] := hl
  refine lv_iload_n hx hb dX4_setEntry_0 rfl (lv_at hl 1 rfl) ?_
  refine lv_bipush (v := nI 8) hx hb dX4_setEntry_1 (by decide) ?_
  refine lv_irem hx hb dX4_setEntry_3 (by decide) ?_
  refine k_t1 (show (nI d) - (nI d) / (nI 8) * (nI 8) = nI (d % 8) from pk_rem (by omega) (by omega) (by omega)) ?_
  refine lv_istore_n (lv' := [(3, .int (nI (d % 8))), (0, .ref vf), (1, .int (nI d)), (2, .int (nI v0))]) hx hb dX4_setEntry_4 rfl hl (by decide) rfl (fun ls hl => ?_)
  refine lv_iload_n hx hb dX4_setEntry_5 rfl (lv_at hl 0 rfl) ?_
  refine k_si (As := [.int (nI (d % 8))]) (rest := []) (w2 := fun u : Unit => (wV cI cZ cJ vf di t0 st0 ct0 hd0 lv0 wd0 t1 st1 ct1 hd1 lv1 wd1 mp bk nm ln pt tk tr ml dl G ky0 S0 C0 O0 L0 W0 ky1 S1 C1 O1 L1 W1 MP NM TH SZ PT TK ML DL cn DE)) ⟨hx, hb, hml, hown, hts⟩ (c_entryShift l D cI cZ cJ  (d % 8) (by omega)) (va_cwS 1 hts gX4_setEntry_X4_entryShift rfl rfl rfl (by decide +kernel) ⟨Nat.le_of_ble_eq_true rfl, Nat.le_of_ble_eq_true rfl⟩) hP hD hK hS hA [] [0, 1, 2, 3, 4, 5, 6, 7, 8, 9, 10, 11, 12, 13, 14, 15, 16, 17, 18, 19, 20, 21, 22] [0, 1, 2, 3, 4, 5, 6, 7, 8, 9, 10, 11, 12, 13, 14, 15, 16, 17, 18, 19, 20, 21, 22] rfl rfl (by decide) (fun u => rfl) rfl hl.1 rfl (Nat.le_of_ble_eq_true rfl) dX4_setEntry_6 ⟨Nat.le_of_ble_eq_true rfl, Nat.le_of_ble_eq_true rfl⟩ (fun r u H locs hu1 hP hD hS => ?_)
  refine k_t1 (show r = nI (16 * (d % 8 % 2)) from hu1) ?_
  refine lv_istore (lv' := [(4, .int (nI (16 * (d % 8 % 2)))), (3, .int (nI (d % 8))), (0, .ref vf), (1, .int (nI d)), (2, .int (nI v0))]) hx hb dX4_setEntry_9 hl (by decide) rfl (fun ls hl => ?_)
  refine lv_aload_n hx hb dX4_setEntry_11 rfl (lv_at hl 2 rfl) ?_
  refine va_get (D := D) (ci := 4) (v := .ref t0) (C := RX4) (T := TX4) (N := 7) hx hb hts (by decide +kernel) hown hK hP 0 rfl rfl 1 (by decide) (hts (.fieldLink RX4 21 "VeiledFiles" "map" "LVeiledFiles$Tree;") (by decide +kernel)) (fun _ h9 => h9) rfl dX4_setEntry_12 ?_
  refine lv_iload_n hx hb dX4_setEntry_15 rfl (lv_at hl 3 rfl) ?_
  refine lv_bipush (v := nI 8) hx hb dX4_setEntry_16 (by decide) ?_
  refine lv_idiv hx hb dX4_setEntry_18 (by decide) ?_
  refine k_t1 (show (nI d) / (nI 8) = nI (d / 8) from pk_div (by omega) (by omega) (by omega)) ?_
  refine lv_iload_n hx hb dX4_setEntry_19 rfl (lv_at hl 1 rfl) ?_
  refine lv_iconst (v := nI 2) hx hb dX4_setEntry_20 (by decide) ?_
  refine lv_idiv hx hb dX4_setEntry_21 (by decide) ?_
  refine k_t1 (show (nI (d % 8)) / (nI 2) = nI ((d % 8) / 2) from pk_div (by omega) (by omega) (by omega)) ?_
  refine k_vi (As := [.int (nI (d / 8)), .int (nI ((d % 8) / 2))]) (rest := []) (w2 := fun u : Unit => (wV cI cZ cJ vf di t0 st0 ct0 hd0 lv0 wd0 t1 st1 ct1 hd1 lv1 wd1 mp bk nm ln pt tk tr ml dl G ky0 S0 C0 O0 L0 W0 ky1 S1 C1 O1 L1 W1 MP NM TH SZ PT TK ML DL cn DE)) ⟨hx, hb, hml, hown, hts⟩ (c_wordOf l D cI cZ cJ t0 st0 ct0 hd0 lv0 wd0 0 4 3 7 8 ky0 S0 C0 O0 L0 W0 (d / 8) (d % 8 / 2) tp0 (by omega) (by omega)) (cwV 2 hts gX4_setEntry_X3_wordOf rfl rfl rfl (by decide +kernel) ⟨Nat.le_of_ble_eq_true rfl, Nat.le_of_ble_eq_true rfl⟩) hP hD hK hS hA [2, 3, 4, 5, 6, 7] [0, 1, 8, 9, 10, 11, 12, 13, 14, 15, 16, 17, 18, 19, 20, 21, 22] [0, 1, 17, 18, 19, 20, 21, 22, 2, 3, 4, 5, 6, 7, 8, 9, 10, 11, 12, 13, 14, 15, 16] rfl rfl (by decide) (fun u => rfl) rfl rfl (q0 := 0) rfl rfl hl.1 rfl (Nat.le_of_ble_eq_true rfl) dX4_setEntry_22 ⟨Nat.le_of_ble_eq_true rfl, Nat.le_of_ble_eq_true rfl⟩ (fun r u H locs hu2 hP hD hS => ?_)
  refine k_t1 (show r = W0 (d / 8) (d % 8 / 2) from hu2) ?_
  refine lv_bipush (v := nI 31) hx hb dX4_setEntry_25 (by decide) ?_
  refine lv_iload hx hb dX4_setEntry_27 (lv_at hl 0 rfl) ?_
  refine lv_ishl hx hb dX4_setEntry_29 ?_
  refine lv_iconst (v := -1) hx hb dX4_setEntry_30 (by decide) ?_
  refine lv_ixor hx hb dX4_setEntry_31 ?_
  refine lv_iand hx hb dX4_setEntry_32 ?_
  refine lv_istore (lv' := [(5, .int ((W0 (d / 8) (d % 8 / 2)) &&& (((nI 31) <<< ((nI (16 * (d % 8 % 2))) &&& 31)) ^^^ (-1)))), (4, .int (nI (16 * (d % 8 % 2)))), (3, .int (nI (d % 8))), (0, .ref vf), (1, .int (nI d)), (2, .int (nI v0))]) hx hb dX4_setEntry_33 hl (by decide) rfl (fun ls hl => ?_)
  refine lv_aload_n hx hb dX4_setEntry_35 rfl (lv_at hl 3 rfl) ?_
  refine va_get (D := D) (ci := 4) (v := .ref t0) (C := RX4) (T := TX4) (N := 7) hx hb hts (by decide +kernel) hown hK hP 0 rfl rfl 1 (by decide) (hts (.fieldLink RX4 21 "VeiledFiles" "map" "LVeiledFiles$Tree;") (by decide +kernel)) (fun _ h9 => h9) rfl dX4_setEntry_36 ?_
  refine lv_iload_n hx hb dX4_setEntry_39 rfl (lv_at hl 4 rfl) ?_
  refine lv_bipush (v := nI 8) hx hb dX4_setEntry_40 (by decide) ?_
  refine lv_idiv hx hb dX4_setEntry_42 (by decide) ?_
  refine k_t1 (show (nI d) / (nI 8) = nI (d / 8) from pk_div (by omega) (by omega) (by omega)) ?_
  refine lv_iload_n hx hb dX4_setEntry_43 rfl (lv_at hl 2 rfl) ?_
  refine lv_iconst (v := nI 2) hx hb dX4_setEntry_44 (by decide) ?_
  refine lv_idiv hx hb dX4_setEntry_45 (by decide) ?_
  refine k_t1 (show (nI (d % 8)) / (nI 2) = nI ((d % 8) / 2) from pk_div (by omega) (by omega) (by omega)) ?_
  refine lv_iload hx hb dX4_setEntry_46 (lv_at hl 0 rfl) ?_
  refine lv_iload_n hx hb dX4_setEntry_48 rfl (lv_at hl 5 rfl) ?_
  refine lv_iload hx hb dX4_setEntry_49 (lv_at hl 1 rfl) ?_
  refine lv_ishl hx hb dX4_setEntry_51 ?_
  refine lv_ior hx hb dX4_setEntry_52 ?_
  refine k_t1 (show ((W0 (d / 8) (d % 8 / 2)) &&& (((nI 31) <<< ((nI (16 * (d % 8 % 2))) &&& 31)) ^^^ (-1))) ||| ((nI v0) <<< ((nI (16 * (d % 8 % 2))) &&& 31)) = (setE (W0 (d / 8) (d % 8 / 2)) (d % 8 % 2) (nI v0)) from rfl) ?_
  refine k_vv (As := [.int (nI (d / 8)), .int (nI ((d % 8) / 2)), .int (setE (W0 (d / 8) (d % 8 / 2)) (d % 8 % 2) (nI v0))]) (rest := []) (w2 := fun u : Unit => (wV cI cZ cJ vf di t0 st0 ct0 hd0 lv0 wd0 t1 st1 ct1 hd1 lv1 wd1 mp bk nm ln pt tk tr ml dl G ky0 S0 C0 O0 L0 (setRow W0 (d / 8) (upd (W0 (d / 8)) (d % 8 / 2) (setE (W0 (d / 8) (d % 8 / 2)) (d % 8 % 2) (nI v0)))) ky1 S1 C1 O1 L1 W1 MP NM TH SZ PT TK ML DL cn DE)) ⟨hx, hb, hml, hown, hts⟩ (c_setWord l D cI cZ cJ t0 st0 ct0 hd0 lv0 wd0 0 4 3 7 8 ky0 S0 C0 O0 L0 W0 (d / 8) (d % 8 / 2) (setE (W0 (d / 8) (d % 8 / 2)) (d % 8 % 2) (nI v0)) tp0 (by omega) (by omega)) (cwV 3 hts gX4_setEntry_X3_setWord rfl rfl rfl (by decide +kernel) ⟨Nat.le_of_ble_eq_true rfl, Nat.le_of_ble_eq_true rfl⟩) hP hD hK hS hA [2, 3, 4, 5, 6, 7] [0, 1, 8, 9, 10, 11, 12, 13, 14, 15, 16, 17, 18, 19, 20, 21, 22] [0, 1, 17, 18, 19, 20, 21, 22, 2, 3, 4, 5, 6, 7, 8, 9, 10, 11, 12, 13, 14, 15, 16] rfl rfl (by decide) (fun u => rfl) rfl rfl (q0 := 0) rfl rfl hl.1 rfl (Nat.le_of_ble_eq_true rfl) dX4_setEntry_53 ⟨Nat.le_of_ble_eq_true rfl, Nat.le_of_ble_eq_true rfl⟩ (fun u H locs hu3 hP hD hS => ?_)
  exact k_retv () hx hb hr hK hS hlk dX4_setEntry_56 hP hD (trivial) hQ

set_option maxHeartbeats 800000 in
set_option maxRecDepth 100000 in
theorem c_drawAll (l : Launch) (D : va_G) (cI cZ cJ : ClassId) (vf : Nat) (di : Nat) (t0 : Nat) (st0 : Nat) (ct0 : Nat) (hd0 : Nat) (lv0 : Nat) (wd0 : Nat) (t1 : Nat) (st1 : Nat) (ct1 : Nat) (hd1 : Nat) (lv1 : Nat) (wd1 : Nat) (mp : Nat) (bk : Nat) (nm : Nat) (ln : Nat) (pt : Nat) (tk : Nat) (tr : Nat) (ml : Nat) (dl : Nat) (G : Int32) (ky0 : Int32) (S0 : Nat → Nat → Int32) (C0 : Nat → Int32) (O0 : Nat → Int32) (L0 : Nat → Int32) (W0 : Nat → Nat → Int32) (ky1 : Int32) (S1 : Nat → Nat → Int32) (C1 : Nat → Int32) (O1 : Nat → Int32) (L1 : Nat → Int32) (W1 : Nat → Nat → Int32) (MP : Nat → Nat) (NM : Nat → Int64) (TH : Nat → Int32) (SZ : Nat → Nat) (PT : Nat → Nat) (TK : Nat → Int32) (ML : Nat → Int32) (DL : Nat → Int32) (cn : Nat) (DE : Int32)  (hW : W0 = fun _ => zrow) : KV l yX4_drawAllLeaves wsX4_drawAllLeaves ({ frames := 2, cells := 0, slots := 0, locals := 48 }) D (kty cI cZ cJ) [.ref vf] (wV cI cZ cJ vf di t0 st0 ct0 hd0 lv0 wd0 t1 st1 ct1 hd1 lv1 wd1 mp bk nm ln pt tk tr ml dl G ky0 S0 C0 O0 L0 W0 ky1 S1 C1 O1 L1 W1 MP NM TH SZ PT TK ML DL cn DE) (fun (_ : Unit) => True) (fun _ : Unit => (wV cI cZ cJ vf di t0 st0 ct0 hd0 lv0 wd0 t1 st1 ct1 hd1 lv1 wd1 mp bk nm ln pt tk tr ml dl (dG G 72) ky0 S0 C0 O0 (l0S G) (w0S G) ky1 S1 C1 O1 (l1S G) W1 (mpS G) NM TH SZ PT TK ML DL cn DE)) 0 0 := by
  refine k_headV (cc := cX4_drawAllLeaves) (maxL := 3) (ret := none) (by decide) rfl (Nat.le_of_ble_eq_true rfl) ?_
  intro p e s m below meth c A ls args Q hx hb hr hml hts hown hlk hnm hA hK hP hD hS hl hQ
  have hl : lv_has ls 3 [(0, .ref vf)] := hl
  refine lv_iconst (v := nI 0) hx hb dX4_drawAllLeaves_0 (by decide) ?_
  refine lv_istore_n (lv' := [(1, .int (nI 0)), (0, .ref vf)]) hx hb dX4_drawAllLeaves_1 rfl hl (by decide) rfl (fun ls hl => ?_)
  have hP : va_P D vwCl (wVr cI cZ cJ vf di t0 st0 ct0 hd0 lv0 wd0 t1 st1 ct1 hd1 lv1 wd1 mp bk nm ln pt tk tr ml dl G ky0 S0 C0 O0 L0 W0 ky1 S1 C1 O1 L1 W1 (nIf MP) NM TH SZ PT TK ML DL cn DE) _ := hP
  have hD : va_D A (wVr cI cZ cJ vf di t0 st0 ct0 hd0 lv0 wd0 t1 st1 ct1 hd1 lv1 wd1 mp bk nm ln pt tk tr ml dl G ky0 S0 C0 O0 L0 W0 ky1 S1 C1 O1 L1 W1 (nIf MP) NM TH SZ PT TK ML DL cn DE) := hD
  have hE1 : (wVr cI cZ cJ vf di t0 st0 ct0 hd0 lv0 wd0 t1 st1 ct1 hd1 lv1 wd1 mp bk nm ln pt tk tr ml dl G ky0 S0 C0 O0 L0 W0 ky1 S1 C1 O1 L1 W1 (nIf MP) NM TH SZ PT TK ML DL cn DE) = (wVr cI cZ cJ vf di t0 st0 ct0 hd0 lv0 wd0 t1 st1 ct1 hd1 lv1 wd1 mp bk nm ln pt tk tr ml dl G ky0 S0 C0 O0 L0 W0 ky1 S1 C1 O1 L1 W1 (miK (nIf MP) (nIf (mpS G)) 0) NM TH SZ PT TK ML DL cn DE) := by rw [miK_0]
  rw [hE1] at hP hD
  have hE2 : (wVr cI cZ cJ vf di t0 st0 ct0 hd0 lv0 wd0 t1 st1 ct1 hd1 lv1 wd1 mp bk nm ln pt tk tr ml dl G ky0 S0 C0 O0 L0 W0 ky1 S1 C1 O1 L1 W1 (miK (nIf MP) (nIf (mpS G)) 0) NM TH SZ PT TK ML DL cn DE) = (wVr cI cZ cJ vf di t0 st0 ct0 hd0 lv0 wd0 t1 st1 ct1 hd1 lv1 wd1 mp bk nm ln pt tk tr ml dl G ky0 S0 C0 O0 (miK L0 (l0S G) 0) W0 ky1 S1 C1 O1 L1 W1 (miK (nIf MP) (nIf (mpS G)) 0) NM TH SZ PT TK ML DL cn DE) := by rw [show miK L0 (l0S G) 0 = L0 from miK_0]
  rw [hE2] at hP hD
  have hE3 : (wVr cI cZ cJ vf di t0 st0 ct0 hd0 lv0 wd0 t1 st1 ct1 hd1 lv1 wd1 mp bk nm ln pt tk tr ml dl G ky0 S0 C0 O0 (miK L0 (l0S G) 0) W0 ky1 S1 C1 O1 L1 W1 (miK (nIf MP) (nIf (mpS G)) 0) NM TH SZ PT TK ML DL cn DE) = (wVr cI cZ cJ vf di t0 st0 ct0 hd0 lv0 wd0 t1 st1 ct1 hd1 lv1 wd1 mp bk nm ln pt tk tr ml dl (dG G 0) ky0 S0 C0 O0 (miK L0 (l0S G) 0) W0 ky1 S1 C1 O1 L1 W1 (miK (nIf MP) (nIf (mpS G)) 0) NM TH SZ PT TK ML DL cn DE) := rfl
  rw [hE3] at hP hD
  have L1l : ∀ (nf k : Nat) (hvL1l : k ≤ 8) (hFL1l : 8 - k < nf) (H : Heap) (locs : List Loc) (ls : Array Slot), va_P D vwCl (wVr cI cZ cJ vf di t0 st0 ct0 hd0 lv0 wd0 t1 st1 ct1 hd1 lv1 wd1 mp bk nm ln pt tk tr ml dl (dG G k) ky0 S0 C0 O0 (miK L0 (l0S G) k) W0 ky1 S1 C1 O1 L1 W1 (miK (nIf MP) (nIf (mpS G)) k) NM TH SZ PT TK ML DL cn DE) H → va_D A (wVr cI cZ cJ vf di t0 st0 ct0 hd0 lv0 wd0 t1 st1 ct1 hd1 lv1 wd1 mp bk nm ln pt tk tr ml dl (dG G k) ky0 S0 C0 O0 (miK L0 (l0S G) k) W0 ky1 S1 C1 O1 L1 W1 (miK (nIf MP) (nIf (mpS G)) k) NM TH SZ PT TK ML DL cn DE) → va_S A s.heap H locs → lv_has ls 3 [(0, .ref vf), (1, .int (nI k))] → W p l e ({ frames := 2, cells := 0, slots := 0, locals := 48 } : Room) s m args below meth c H locs 0 0 Q (F0 m 2 ls []) := by
    intro nf
    induction nf with
    | zero => intro k  hvL1l hFL1l; omega
    | succ nf ihL1l =>
      intro k  hvL1l hFL1l  H locs ls hP hD hS hl
      refine lv_iload_n hx hb dX4_drawAllLeaves_2 rfl (lv_at hl 1 rfl) ?_
      refine lv_bipush (v := nI 8) hx hb dX4_drawAllLeaves_3 (by decide) ?_
      refine k_icmp_ge (tgt := 42) hx hb (by omega) (by omega) dX4_drawAllLeaves_5 (by decide) (fun c1 => ?_) (fun c1 => ?_)
      · skip
        obtain rfl : k = 8 := by omega
        have hP : va_P D vwCl (wVr cI cZ cJ vf di t0 st0 ct0 hd0 lv0 wd0 t1 st1 ct1 hd1 lv1 wd1 mp bk nm ln pt tk tr ml dl (dG G 8) ky0 S0 C0 O0 (miK L0 (l0S G) 8) W0 ky1 S1 C1 O1 L1 W1 (nIf (mpS G)) NM TH SZ PT TK ML DL cn DE) H := k_extP (q0 := 14) hP rfl (fun j hj => miK_lt hj)
        have hD : va_D A (wVr cI cZ cJ vf di t0 st0 ct0 hd0 lv0 wd0 t1 st1 ct1 hd1 lv1 wd1 mp bk nm ln pt tk tr ml dl (dG G 8) ky0 S0 C0 O0 (miK L0 (l0S G) 8) W0 ky1 S1 C1 O1 L1 W1 (nIf (mpS G)) NM TH SZ PT TK ML DL cn DE) := hD.set (p := 14) rfl
        have hP : va_P D vwCl (wVr cI cZ cJ vf di t0 st0 ct0 hd0 lv0 wd0 t1 st1 ct1 hd1 lv1 wd1 mp bk nm ln pt tk tr ml dl (dG G 8) ky0 S0 C0 O0 (l0S G) W0 ky1 S1 C1 O1 L1 W1 (nIf (mpS G)) NM TH SZ PT TK ML DL cn DE) H := k_extP (q0 := 6) hP rfl (fun j hj => miK_lt hj)
        have hD : va_D A (wVr cI cZ cJ vf di t0 st0 ct0 hd0 lv0 wd0 t1 st1 ct1 hd1 lv1 wd1 mp bk nm ln pt tk tr ml dl (dG G 8) ky0 S0 C0 O0 (l0S G) W0 ky1 S1 C1 O1 L1 W1 (nIf (mpS G)) NM TH SZ PT TK ML DL cn DE) := hD.set (p := 6) rfl
        have hP : va_P D vwCl (wV cI cZ cJ vf di t0 st0 ct0 hd0 lv0 wd0 t1 st1 ct1 hd1 lv1 wd1 mp bk nm ln pt tk tr ml dl (dG G 8) ky0 S0 C0 O0 (l0S G) W0 ky1 S1 C1 O1 L1 W1 (mpS G) NM TH SZ PT TK ML DL cn DE) _ := hP
        have hD : va_D A (wV cI cZ cJ vf di t0 st0 ct0 hd0 lv0 wd0 t1 st1 ct1 hd1 lv1 wd1 mp bk nm ln pt tk tr ml dl (dG G 8) ky0 S0 C0 O0 (l0S G) W0 ky1 S1 C1 O1 L1 W1 (mpS G) NM TH SZ PT TK ML DL cn DE) := hD
        refine lv_iconst (v := nI 0) hx hb dX4_drawAllLeaves_42 (by decide) ?_
        refine lv_istore_n (lv' := [(1, .int (nI 0)), (0, .ref vf)]) hx hb dX4_drawAllLeaves_43 rfl hl (by decide) rfl (fun ls hl => ?_)
        have hE4 : (wV cI cZ cJ vf di t0 st0 ct0 hd0 lv0 wd0 t1 st1 ct1 hd1 lv1 wd1 mp bk nm ln pt tk tr ml dl (dG G 8) ky0 S0 C0 O0 (l0S G) W0 ky1 S1 C1 O1 L1 W1 (mpS G) NM TH SZ PT TK ML DL cn DE) = (wV cI cZ cJ vf di t0 st0 ct0 hd0 lv0 wd0 t1 st1 ct1 hd1 lv1 wd1 mp bk nm ln pt tk tr ml dl (dG G 8) ky0 S0 C0 O0 (l0S G) W0 ky1 S1 C1 O1 (miK L1 (l1S G) 0) W1 (mpS G) NM TH SZ PT TK ML DL cn DE) := by rw [miK_0]
        rw [hE4] at hP hD
        have hW2 : W0 = vaK (dG G 8) 0 := by rw [hW]; funext j i; exact vaK_0.symm
        have hE5 : (wV cI cZ cJ vf di t0 st0 ct0 hd0 lv0 wd0 t1 st1 ct1 hd1 lv1 wd1 mp bk nm ln pt tk tr ml dl (dG G 8) ky0 S0 C0 O0 (l0S G) W0 ky1 S1 C1 O1 (miK L1 (l1S G) 0) W1 (mpS G) NM TH SZ PT TK ML DL cn DE) = (wV cI cZ cJ vf di t0 st0 ct0 hd0 lv0 wd0 t1 st1 ct1 hd1 lv1 wd1 mp bk nm ln pt tk tr ml dl (dG G 8) ky0 S0 C0 O0 (l0S G) (vaK (dG G 8) 0) ky1 S1 C1 O1 (miK L1 (l1S G) 0) W1 (mpS G) NM TH SZ PT TK ML DL cn DE) := by rw [hW2]
        rw [hE5] at hP hD
        have hE6 : (wV cI cZ cJ vf di t0 st0 ct0 hd0 lv0 wd0 t1 st1 ct1 hd1 lv1 wd1 mp bk nm ln pt tk tr ml dl (dG G 8) ky0 S0 C0 O0 (l0S G) (vaK (dG G 8) 0) ky1 S1 C1 O1 (miK L1 (l1S G) 0) W1 (mpS G) NM TH SZ PT TK ML DL cn DE) = (wV cI cZ cJ vf di t0 st0 ct0 hd0 lv0 wd0 t1 st1 ct1 hd1 lv1 wd1 mp bk nm ln pt tk tr ml dl (dG (dG G 8) 0) ky0 S0 C0 O0 (l0S G) (vaK (dG G 8) 0) ky1 S1 C1 O1 (miK L1 (l1S G) 0) W1 (mpS G) NM TH SZ PT TK ML DL cn DE) := rfl
        rw [hE6] at hP hD
        have L2l : ∀ (nf k : Nat) (hvL2l : k ≤ 64) (hFL2l : 64 - k < nf) (H : Heap) (locs : List Loc) (ls : Array Slot), va_P D vwCl (wV cI cZ cJ vf di t0 st0 ct0 hd0 lv0 wd0 t1 st1 ct1 hd1 lv1 wd1 mp bk nm ln pt tk tr ml dl (dG (dG G 8) k) ky0 S0 C0 O0 (l0S G) (vaK (dG G 8) k) ky1 S1 C1 O1 (miK L1 (l1S G) k) W1 (mpS G) NM TH SZ PT TK ML DL cn DE) H → va_D A (wV cI cZ cJ vf di t0 st0 ct0 hd0 lv0 wd0 t1 st1 ct1 hd1 lv1 wd1 mp bk nm ln pt tk tr ml dl (dG (dG G 8) k) ky0 S0 C0 O0 (l0S G) (vaK (dG G 8) k) ky1 S1 C1 O1 (miK L1 (l1S G) k) W1 (mpS G) NM TH SZ PT TK ML DL cn DE) → va_S A s.heap H locs → lv_has ls 3 [(0, .ref vf), (1, .int (nI k))] → W p l e ({ frames := 2, cells := 0, slots := 0, locals := 48 } : Room) s m args below meth c H locs 0 0 Q (F0 m 44 ls []) := by
          intro nf
          induction nf with
          | zero => intro k  hvL2l hFL2l; omega
          | succ nf ihL2l =>
            intro k  hvL2l hFL2l  H locs ls hP hD hS hl
            refine lv_iload_n hx hb dX4_drawAllLeaves_44 rfl (lv_at hl 1 rfl) ?_
            refine lv_bipush (v := nI 64) hx hb dX4_drawAllLeaves_45 (by decide) ?_
            refine k_icmp_ge (tgt := 80) hx hb (by omega) (by omega) dX4_drawAllLeaves_47 (by decide) (fun c2 => ?_) (fun c2 => ?_)
            · skip
              obtain rfl : k = 64 := by omega
              have hP : va_P D vwCl (wV cI cZ cJ vf di t0 st0 ct0 hd0 lv0 wd0 t1 st1 ct1 hd1 lv1 wd1 mp bk nm ln pt tk tr ml dl (dG (dG G 8) 64) ky0 S0 C0 O0 (l0S G) (vaK (dG G 8) 64) ky1 S1 C1 O1 (l1S G) W1 (mpS G) NM TH SZ PT TK ML DL cn DE) H := k_extP (q0 := 12) hP rfl (fun j hj => miK_lt hj)
              have hD : va_D A (wV cI cZ cJ vf di t0 st0 ct0 hd0 lv0 wd0 t1 st1 ct1 hd1 lv1 wd1 mp bk nm ln pt tk tr ml dl (dG (dG G 8) 64) ky0 S0 C0 O0 (l0S G) (vaK (dG G 8) 64) ky1 S1 C1 O1 (l1S G) W1 (mpS G) NM TH SZ PT TK ML DL cn DE) := hD.set (p := 12) rfl
              have hE7 : (wV cI cZ cJ vf di t0 st0 ct0 hd0 lv0 wd0 t1 st1 ct1 hd1 lv1 wd1 mp bk nm ln pt tk tr ml dl (dG (dG G 8) 64) ky0 S0 C0 O0 (l0S G) (vaK (dG G 8) 64) ky1 S1 C1 O1 (l1S G) W1 (mpS G) NM TH SZ PT TK ML DL cn DE) = (wV cI cZ cJ vf di t0 st0 ct0 hd0 lv0 wd0 t1 st1 ct1 hd1 lv1 wd1 mp bk nm ln pt tk tr ml dl (dG (dG G 8) 64) ky0 S0 C0 O0 (l0S G) (w0S G) ky1 S1 C1 O1 (l1S G) W1 (mpS G) NM TH SZ PT TK ML DL cn DE) := rfl
              rw [hE7] at hP hD
              have hE8 : (wV cI cZ cJ vf di t0 st0 ct0 hd0 lv0 wd0 t1 st1 ct1 hd1 lv1 wd1 mp bk nm ln pt tk tr ml dl (dG (dG G 8) 64) ky0 S0 C0 O0 (l0S G) (w0S G) ky1 S1 C1 O1 (l1S G) W1 (mpS G) NM TH SZ PT TK ML DL cn DE) = (wV cI cZ cJ vf di t0 st0 ct0 hd0 lv0 wd0 t1 st1 ct1 hd1 lv1 wd1 mp bk nm ln pt tk tr ml dl (dG G 72) ky0 S0 C0 O0 (l0S G) (w0S G) ky1 S1 C1 O1 (l1S G) W1 (mpS G) NM TH SZ PT TK ML DL cn DE) := by rw [dG_add]
              rw [hE8] at hP hD
              exact k_retv () hx hb hr hK hS hlk dX4_drawAllLeaves_80 hP hD (trivial) hQ
            · skip
              refine lv_aload_n hx hb dX4_drawAllLeaves_50 rfl (lv_at hl 0 rfl) ?_
              refine va_get (D := D) (ci := 4) (v := .ref di) (C := RX4) (T := TX4) (N := 7) hx hb hts (by decide +kernel) hown hK hP 0 rfl rfl 0 (by decide) (hts (.fieldLink RX4 10 "VeiledFiles" "dice" "LVeiledFiles$Dice;") (by decide +kernel)) (fun _ h9 => h9) rfl dX4_drawAllLeaves_51 ?_
              refine lv_iconst (v := nI 5) hx hb dX4_drawAllLeaves_54 (by decide) ?_
              refine k_vi (As := [.int (nI 5)]) (rest := []) (w2 := fun u : Unit => (wV cI cZ cJ vf di t0 st0 ct0 hd0 lv0 wd0 t1 st1 ct1 hd1 lv1 wd1 mp bk nm ln pt tk tr ml dl (dstep (dG (dG G 8) k)) ky0 S0 C0 O0 (l0S G) (vaK (dG G 8) k) ky1 S1 C1 O1 (miK L1 (l1S G) k) W1 (mpS G) NM TH SZ PT TK ML DL cn DE)) ⟨hx, hb, hml, hown, hts⟩ (c_draw l D cI cZ cJ di (dG (dG G 8) k) 5 (by omega)) (cwV 1 hts gX4_drawAllLeaves_X1_draw rfl rfl rfl (by decide +kernel) ⟨Nat.le_of_ble_eq_true rfl, Nat.le_of_ble_eq_true rfl⟩) hP hD hK hS hA [1] [0, 2, 3, 4, 5, 6, 7, 8, 9, 10, 11, 12, 13, 14, 15, 16, 17, 18, 19, 20, 21, 22] [0, 22, 1, 2, 3, 4, 5, 6, 7, 8, 9, 10, 11, 12, 13, 14, 15, 16, 17, 18, 19, 20, 21] rfl rfl (by decide) (fun u => rfl) rfl rfl (q0 := 0) rfl rfl hl.1 rfl (Nat.le_of_ble_eq_true rfl) dX4_drawAllLeaves_55 ⟨Nat.le_of_ble_eq_true rfl, Nat.le_of_ble_eq_true rfl⟩ (fun r u H locs hu9 hP hD hS => ?_)
              refine k_t1 (show r = nI (drw 5 (dG (dG G 8) k)) from hu9) ?_
              have hE10 : (wV cI cZ cJ vf di t0 st0 ct0 hd0 lv0 wd0 t1 st1 ct1 hd1 lv1 wd1 mp bk nm ln pt tk tr ml dl (dstep (dG (dG G 8) k)) ky0 S0 C0 O0 (l0S G) (vaK (dG G 8) k) ky1 S1 C1 O1 (miK L1 (l1S G) k) W1 (mpS G) NM TH SZ PT TK ML DL cn DE) = (wV cI cZ cJ vf di t0 st0 ct0 hd0 lv0 wd0 t1 st1 ct1 hd1 lv1 wd1 mp bk nm ln pt tk tr ml dl (dG (dG G 8) (k + 1)) ky0 S0 C0 O0 (l0S G) (vaK (dG G 8) k) ky1 S1 C1 O1 (miK L1 (l1S G) k) W1 (mpS G) NM TH SZ PT TK ML DL cn DE) := rfl
              rw [hE10] at hP hD
              refine lv_istore_n (lv' := [(2, .int (nI (drw 5 (dG (dG G 8) k)))), (0, .ref vf), (1, .int (nI k))]) hx hb dX4_drawAllLeaves_58 rfl hl (by decide) rfl (fun ls hl => ?_)
              refine lv_aload_n hx hb dX4_drawAllLeaves_59 rfl (lv_at hl 1 rfl) ?_
              refine va_get (D := D) (ci := 4) (v := .ref t1) (C := RX4) (T := TX4) (N := 7) hx hb hts (by decide +kernel) hown hK hP 0 rfl rfl 2 (by decide) (hts (.fieldLink RX4 25 "VeiledFiles" "data" "LVeiledFiles$Tree;") (by decide +kernel)) (fun _ h9 => h9) rfl dX4_drawAllLeaves_60 ?_
              refine lv_iload_n hx hb dX4_drawAllLeaves_63 rfl (lv_at hl 2 rfl) ?_
              refine lv_iload_n hx hb dX4_drawAllLeaves_64 rfl (lv_at hl 0 rfl) ?_
              refine k_vv (As := [.int (nI k), .int (nI (drw 5 (dG (dG G 8) k)))]) (rest := []) (w2 := fun u : Unit => (wV cI cZ cJ vf di t0 st0 ct0 hd0 lv0 wd0 t1 st1 ct1 hd1 lv1 wd1 mp bk nm ln pt tk tr ml dl (dG (dG G 8) (k + 1)) ky0 S0 C0 O0 (l0S G) (vaK (dG G 8) k) ky1 S1 C1 O1 (upd (miK L1 (l1S G) k) k (nI (drw 5 (dG (dG G 8) k)))) W1 (mpS G) NM TH SZ PT TK ML DL cn DE)) ⟨hx, hb, hml, hown, hts⟩ (c_moveTo l D cI cZ cJ t1 st1 ct1 hd1 lv1 wd1 1 32 6 63 64 ky1 S1 C1 O1 (miK L1 (l1S G) k) W1 k (nI (drw 5 (dG (dG G 8) k))) tp1 c2) (cwV 2 hts gX4_drawAllLeaves_X3_moveTo rfl rfl rfl (by decide +kernel) ⟨Nat.le_of_ble_eq_true rfl, Nat.le_of_ble_eq_true rfl⟩) hP hD hK hS hA [8, 9, 10, 11, 12, 13] [0, 1, 2, 3, 4, 5, 6, 7, 14, 15, 16, 17, 18, 19, 20, 21, 22] [0, 1, 2, 3, 4, 5, 6, 7, 17, 18, 19, 20, 21, 22, 8, 9, 10, 11, 12, 13, 14, 15, 16] rfl rfl (by decide) (fun u => rfl) rfl rfl (q0 := 0) rfl rfl hl.1 rfl (Nat.le_of_ble_eq_true rfl) dX4_drawAllLeaves_65 ⟨Nat.le_of_ble_eq_true rfl, Nat.le_of_ble_eq_true rfl⟩ (fun u H locs hu11 hP hD hS => ?_)
              have hE12 : (wV cI cZ cJ vf di t0 st0 ct0 hd0 lv0 wd0 t1 st1 ct1 hd1 lv1 wd1 mp bk nm ln pt tk tr ml dl (dG (dG G 8) (k + 1)) ky0 S0 C0 O0 (l0S G) (vaK (dG G 8) k) ky1 S1 C1 O1 (upd (miK L1 (l1S G) k) k (nI (drw 5 (dG (dG G 8) k)))) W1 (mpS G) NM TH SZ PT TK ML DL cn DE) = (wV cI cZ cJ vf di t0 st0 ct0 hd0 lv0 wd0 t1 st1 ct1 hd1 lv1 wd1 mp bk nm ln pt tk tr ml dl (dG (dG G 8) (k + 1)) ky0 S0 C0 O0 (l0S G) (vaK (dG G 8) k) ky1 S1 C1 O1 (miK L1 (l1S G) (k + 1)) W1 (mpS G) NM TH SZ PT TK ML DL cn DE) := by rw [← miK_s]; rfl
              rw [hE12] at hP hD
              refine lv_aload_n hx hb dX4_drawAllLeaves_68 rfl (lv_at hl 1 rfl) ?_
              refine lv_iload_n hx hb dX4_drawAllLeaves_69 rfl (lv_at hl 2 rfl) ?_
              refine lv_iload_n hx hb dX4_drawAllLeaves_70 rfl (lv_at hl 0 rfl) ?_
              refine k_vv (As := [.int (nI k), .int (nI (drw 5 (dG (dG G 8) k)))]) (rest := []) (w2 := fun u : Unit => (wV cI cZ cJ vf di t0 st0 ct0 hd0 lv0 wd0 t1 st1 ct1 hd1 lv1 wd1 mp bk nm ln pt tk tr ml dl (dG (dG G 8) (k + 1)) ky0 S0 C0 O0 (l0S G) (setRow (vaK (dG G 8) k) (k / 8) (upd ((vaK (dG G 8) k) (k / 8)) (k % 8 / 2) (setE ((vaK (dG G 8) k) (k / 8) (k % 8 / 2)) (k % 8 % 2) (nI (drw 5 (dG (dG G 8) k)))))) ky1 S1 C1 O1 (miK L1 (l1S G) (k + 1)) W1 (mpS G) NM TH SZ PT TK ML DL cn DE)) ⟨hx, hb, hml, hown, hts⟩ (c_setEntry l D cI cZ cJ vf di t0 st0 ct0 hd0 lv0 wd0 t1 st1 ct1 hd1 lv1 wd1 mp bk nm ln pt tk tr ml dl (dG (dG G 8) (k + 1)) ky0 S0 C0 O0 (l0S G) (vaK (dG G 8) k) ky1 S1 C1 O1 (miK L1 (l1S G) (k + 1)) W1 (mpS G) NM TH SZ PT TK ML DL cn DE k (drw 5 (dG (dG G 8) k)) c2) (cwV 2 hts gX4_drawAllLeaves_X4_setEntry rfl rfl rfl (by decide +kernel) ⟨Nat.le_of_ble_eq_true rfl, Nat.le_of_ble_eq_true rfl⟩) hP hD hK hS hA [0, 1, 2, 3, 4, 5, 6, 7, 8, 9, 10, 11, 12, 13, 14, 15, 16, 17, 18, 19, 20, 21, 22] [] [0, 1, 2, 3, 4, 5, 6, 7, 8, 9, 10, 11, 12, 13, 14, 15, 16, 17, 18, 19, 20, 21, 22] rfl rfl (by decide) (fun u => rfl) rfl rfl (q0 := 0) rfl rfl hl.1 rfl (Nat.le_of_ble_eq_true rfl) dX4_drawAllLeaves_71 ⟨Nat.le_of_ble_eq_true rfl, Nat.le_of_ble_eq_true rfl⟩ (fun u H locs hu13 hP hD hS => ?_)
              have hP : va_P D vwCl (wV cI cZ cJ vf di t0 st0 ct0 hd0 lv0 wd0 t1 st1 ct1 hd1 lv1 wd1 mp bk nm ln pt tk tr ml dl (dG (dG G 8) (k + 1)) ky0 S0 C0 O0 (l0S G) (vaK (dG G 8) (k + 1)) ky1 S1 C1 O1 (miK L1 (l1S G) (k + 1)) W1 (mpS G) NM TH SZ PT TK ML DL cn DE) H := k_extP (q0 := 7) hP rfl (fun j hj => congrFun (vaK_row vaK_at.1) j)
              have hD : va_D A (wV cI cZ cJ vf di t0 st0 ct0 hd0 lv0 wd0 t1 st1 ct1 hd1 lv1 wd1 mp bk nm ln pt tk tr ml dl (dG (dG G 8) (k + 1)) ky0 S0 C0 O0 (l0S G) (vaK (dG G 8) (k + 1)) ky1 S1 C1 O1 (miK L1 (l1S G) (k + 1)) W1 (mpS G) NM TH SZ PT TK ML DL cn DE) := hD.set (p := 7) rfl
              refine lv_iinc (v := nI (k + 1)) (lv' := [(1, .int (nI (k + 1))), (2, .int (nI (drw 5 (dG (dG G 8) k)))), (0, .ref vf)]) hx hb dX4_drawAllLeaves_74 hl (k := 2) rfl (nI_add k 1) (by decide) rfl (fun ls hl => ?_)
              refine lv_goto (tgt := 44) hx hb dX4_drawAllLeaves_77 (by decide) ?_
              exact ihL2l (k + 1)  (by omega) (by omega)  _ _ _ hP hD hS (lv_sub hl [2, 0] rfl)
        exact L2l (64 + 1) 0  (by omega) (by omega)  _ _ _ hP hD hS (lv_sub hl [1, 0] rfl)
      · skip
        refine lv_aload_n hx hb dX4_drawAllLeaves_8 rfl (lv_at hl 0 rfl) ?_
        refine va_get (D := D) (ci := 4) (v := .ref mp) (C := RX4) (T := TX4) (N := 7) hx hb hts (by decide +kernel) hown hK hP 0 rfl rfl 3 (by decide) (hts (.fieldLink RX4 28 "VeiledFiles" "mapLeaves" "[I") (by decide +kernel)) (fun _ h9 => h9) rfl dX4_drawAllLeaves_9 ?_
        refine lv_iload_n hx hb dX4_drawAllLeaves_12 rfl (lv_at hl 1 rfl) ?_
        refine lv_aload_n hx hb dX4_drawAllLeaves_13 rfl (lv_at hl 0 rfl) ?_
        refine va_get (D := D) (ci := 4) (v := .ref di) (C := RX4) (T := TX4) (N := 7) hx hb hts (by decide +kernel) hown hK hP 0 rfl rfl 0 (by decide) (hts (.fieldLink RX4 10 "VeiledFiles" "dice" "LVeiledFiles$Dice;") (by decide +kernel)) (fun _ h9 => h9) rfl dX4_drawAllLeaves_14 ?_
        refine lv_iconst (v := nI 2) hx hb dX4_drawAllLeaves_17 (by decide) ?_
        refine k_vi (As := [.int (nI 2)]) (rest := [.int (nI k), .ref mp]) (w2 := fun u : Unit => (wVr cI cZ cJ vf di t0 st0 ct0 hd0 lv0 wd0 t1 st1 ct1 hd1 lv1 wd1 mp bk nm ln pt tk tr ml dl (dstep (dG G k)) ky0 S0 C0 O0 (miK L0 (l0S G) k) W0 ky1 S1 C1 O1 L1 W1 (miK (nIf MP) (nIf (mpS G)) k) NM TH SZ PT TK ML DL cn DE)) ⟨hx, hb, hml, hown, hts⟩ (c_draw l D cI cZ cJ di (dG G k) 2 (by omega)) (cwV 1 hts gX4_drawAllLeaves_X1_draw rfl rfl rfl (by decide +kernel) ⟨Nat.le_of_ble_eq_true rfl, Nat.le_of_ble_eq_true rfl⟩) hP hD hK hS hA [1] [0, 2, 3, 4, 5, 6, 7, 8, 9, 10, 11, 12, 13, 14, 15, 16, 17, 18, 19, 20, 21, 22] [0, 22, 1, 2, 3, 4, 5, 6, 7, 8, 9, 10, 11, 12, 13, 14, 15, 16, 17, 18, 19, 20, 21] rfl rfl (by decide) (fun u => rfl) rfl rfl (q0 := 0) rfl rfl hl.1 rfl (Nat.le_of_ble_eq_true rfl) dX4_drawAllLeaves_18 ⟨Nat.le_of_ble_eq_true rfl, Nat.le_of_ble_eq_true rfl⟩ (fun r u H locs hu14 hP hD hS => ?_)
        refine k_t1 (show r = nI (drw 2 (dG G k)) from hu14) ?_
        have hE15 : (wVr cI cZ cJ vf di t0 st0 ct0 hd0 lv0 wd0 t1 st1 ct1 hd1 lv1 wd1 mp bk nm ln pt tk tr ml dl (dstep (dG G k)) ky0 S0 C0 O0 (miK L0 (l0S G) k) W0 ky1 S1 C1 O1 L1 W1 (miK (nIf MP) (nIf (mpS G)) k) NM TH SZ PT TK ML DL cn DE) = (wVr cI cZ cJ vf di t0 st0 ct0 hd0 lv0 wd0 t1 st1 ct1 hd1 lv1 wd1 mp bk nm ln pt tk tr ml dl (dG G (k + 1)) ky0 S0 C0 O0 (miK L0 (l0S G) k) W0 ky1 S1 C1 O1 L1 W1 (miK (nIf MP) (nIf (mpS G)) k) NM TH SZ PT TK ML DL cn DE) := rfl
        rw [hE15] at hP hD
        refine k_iast hx hb hK hP hD hS 14 0 rfl rfl k (by omega) (by omega) (g := (miK (nIf MP) (nIf (mpS G)) (k + 1))) (miK_s) dX4_drawAllLeaves_21 (fun H locs hP hD hS => ?_)
        have hP : va_P D vwCl (wVr cI cZ cJ vf di t0 st0 ct0 hd0 lv0 wd0 t1 st1 ct1 hd1 lv1 wd1 mp bk nm ln pt tk tr ml dl (dG G (k + 1)) ky0 S0 C0 O0 (miK L0 (l0S G) k) W0 ky1 S1 C1 O1 L1 W1 (miK (nIf MP) (nIf (mpS G)) (k + 1)) NM TH SZ PT TK ML DL cn DE) _ := hP
        have hD : va_D A (wVr cI cZ cJ vf di t0 st0 ct0 hd0 lv0 wd0 t1 st1 ct1 hd1 lv1 wd1 mp bk nm ln pt tk tr ml dl (dG G (k + 1)) ky0 S0 C0 O0 (miK L0 (l0S G) k) W0 ky1 S1 C1 O1 L1 W1 (miK (nIf MP) (nIf (mpS G)) (k + 1)) NM TH SZ PT TK ML DL cn DE) := hD
        refine lv_aload_n hx hb dX4_drawAllLeaves_22 rfl (lv_at hl 0 rfl) ?_
        refine va_get (D := D) (ci := 4) (v := .ref t0) (C := RX4) (T := TX4) (N := 7) hx hb hts (by decide +kernel) hown hK hP 0 rfl rfl 1 (by decide) (hts (.fieldLink RX4 21 "VeiledFiles" "map" "LVeiledFiles$Tree;") (by decide +kernel)) (fun _ h9 => h9) rfl dX4_drawAllLeaves_23 ?_
        refine lv_iload_n hx hb dX4_drawAllLeaves_26 rfl (lv_at hl 1 rfl) ?_
        refine lv_aload_n hx hb dX4_drawAllLeaves_27 rfl (lv_at hl 0 rfl) ?_
        refine va_get (D := D) (ci := 4) (v := .ref mp) (C := RX4) (T := TX4) (N := 7) hx hb hts (by decide +kernel) hown hK hP 0 rfl rfl 3 (by decide) (hts (.fieldLink RX4 28 "VeiledFiles" "mapLeaves" "[I") (by decide +kernel)) (fun _ h9 => h9) rfl dX4_drawAllLeaves_28 ?_
        refine lv_iload_n hx hb dX4_drawAllLeaves_31 rfl (lv_at hl 1 rfl) ?_
        refine k_iald hx hb hK hP 14 0 rfl rfl k (by omega) (by omega) (v := nIf (mpS G) k) (miK_lt (by omega)) dX4_drawAllLeaves_32 ?_
        refine k_vv (As := [.int (nI k), .int (nIf (mpS G) k)]) (rest := []) (w2 := fun u : Unit => (wVr cI cZ cJ vf di t0 st0 ct0 hd0 lv0 wd0 t1 st1 ct1 hd1 lv1 wd1 mp bk nm ln pt tk tr ml dl (dG G (k + 1)) ky0 S0 C0 O0 (upd (miK L0 (l0S G) k) k (nIf (mpS G) k)) W0 ky1 S1 C1 O1 L1 W1 (miK (nIf MP) (nIf (mpS G)) (k + 1)) NM TH SZ PT TK ML DL cn DE)) ⟨hx, hb, hml, hown, hts⟩ (c_moveTo l D cI cZ cJ t0 st0 ct0 hd0 lv0 wd0 0 4 3 7 8 ky0 S0 C0 O0 (miK L0 (l0S G) k) W0 k (nIf (mpS G) k) tp0 c1) (cwV 2 hts gX4_drawAllLeaves_X3_moveTo rfl rfl rfl (by decide +kernel) ⟨Nat.le_of_ble_eq_true rfl, Nat.le_of_ble_eq_true rfl⟩) hP hD hK hS hA [2, 3, 4, 5, 6, 7] [0, 1, 8, 9, 10, 11, 12, 13, 14, 15, 16, 17, 18, 19, 20, 21, 22] [0, 1, 17, 18, 19, 20, 21, 22, 2, 3, 4, 5, 6, 7, 8, 9, 10, 11, 12, 13, 14, 15, 16] rfl rfl (by decide) (fun u => rfl) rfl rfl (q0 := 0) rfl rfl hl.1 rfl (Nat.le_of_ble_eq_true rfl) dX4_drawAllLeaves_33 ⟨Nat.le_of_ble_eq_true rfl, Nat.le_of_ble_eq_true rfl⟩ (fun u H locs hu16 hP hD hS => ?_)
        have hE17 : (wVr cI cZ cJ vf di t0 st0 ct0 hd0 lv0 wd0 t1 st1 ct1 hd1 lv1 wd1 mp bk nm ln pt tk tr ml dl (dG G (k + 1)) ky0 S0 C0 O0 (upd (miK L0 (l0S G) k) k (nIf (mpS G) k)) W0 ky1 S1 C1 O1 L1 W1 (miK (nIf MP) (nIf (mpS G)) (k + 1)) NM TH SZ PT TK ML DL cn DE) = (wVr cI cZ cJ vf di t0 st0 ct0 hd0 lv0 wd0 t1 st1 ct1 hd1 lv1 wd1 mp bk nm ln pt tk tr ml dl (dG G (k + 1)) ky0 S0 C0 O0 (miK L0 (l0S G) (k + 1)) W0 ky1 S1 C1 O1 L1 W1 (miK (nIf MP) (nIf (mpS G)) (k + 1)) NM TH SZ PT TK ML DL cn DE) := by rw [show upd (miK L0 (l0S G) k) k (nIf (mpS G) k) = miK L0 (l0S G) (k + 1) from miK_s]
        rw [hE17] at hP hD
        refine lv_iinc (v := nI (k + 1)) (lv' := [(1, .int (nI (k + 1))), (0, .ref vf)]) hx hb dX4_drawAllLeaves_36 hl (k := 1) rfl (nI_add k 1) (by decide) rfl (fun ls hl => ?_)
        refine lv_goto (tgt := 2) hx hb dX4_drawAllLeaves_39 (by decide) ?_
        exact ihL1l (k + 1)  (by omega) (by omega)  _ _ _ hP hD hS (lv_sub hl [1, 0] rfl)
  exact L1l (8 + 1) 0  (by omega) (by omega)  _ _ _ hP hD hS (lv_sub hl [1, 0] rfl)

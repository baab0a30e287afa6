/-! constructors of the four nested classes -/
set_option maxHeartbeats 800000 in
set_option maxRecDepth 100000 in
theorem c_i_dice (l : Launch) (D : va_G) (cI cZ cJ : ClassId) (di : Nat)   : KV l yX1_init wsX1_init ({ frames := 1, cells := 0, slots := 0, locals := 12 }) D (kty cI cZ cJ) [.ref di] [(di, .inr (1, [.int 0]))] (fun (_ : Unit) => True) (fun _ : Unit => wDi cI cZ cJ di 0) 0 0 := by
  refine k_headV (cc := cX1_init) (maxL := 1) (ret := none) (by decide) rfl (Nat.le_of_ble_eq_true rfl) ?_
  intro p e s m below meth c A ls args Q hx hb hr hml hts hown hlk hnm hA hK hP hD hS hl hQ
  have hl : lv_has ls 1 [(0, .ref di)] := hl
  refine lv_aload_n hx hb dX1_init_0 rfl (lv_at hl 0 rfl) ?_
  refine W.objInit hx hb hown (hts (.methodLink RX1 1 objectInit) (by decide +kernel)) (hts (.instanceMethod objectInit) (by decide +kernel)) (hts _ (List.mem_of_getElem? (i := 3) rfl)) rfl (by rw [hml]; exact hl.1) rfl dX1_init_1 (Nat.le_of_ble_eq_true rfl) (Nat.le_of_ble_eq_true rfl) ?_
  refine W.eq (g2 := F0 m 4 ls []) rfl ?_
  exact k_retv () hx hb hr hK hS hlk dX1_init_4 hP hD (trivial) hQ

set_option maxHeartbeats 800000 in
set_option maxRecDepth 100000 in
theorem c_i_trail (l : Launch) (D : va_G) (cI cZ cJ : ClassId) (tr : Nat)   : KV l yX2_init wsX2_init ({ frames := 1, cells := 2, slots := 128, locals := 12 }) D (kty cI cZ cJ) [.ref tr] [(tr, .inr (2, [.null, .null, .int 0]))] (fun (_ : Nat × Nat) => True) (fun u : Nat × Nat => wTl cI cZ cJ tr u.1 u.2 (fun _ => 0) (fun _ => 0) 0) 2 128 := by
  refine k_headV (cc := cX2_init) (maxL := 1) (ret := none) (by decide) rfl (Nat.le_of_ble_eq_true rfl) ?_
  intro p e s m below meth c A ls args Q hx hb hr hml hts hown hlk hnm hA hK hP hD hS hl hQ
  have hl : lv_has ls 1 [(0, .ref tr)] := hl
  refine lv_aload_n hx hb dX2_init_0 rfl (lv_at hl 0 rfl) ?_
  refine W.objInit hx hb hown (hts (.methodLink RX2 3 objectInit) (by decide +kernel)) (hts (.instanceMethod objectInit) (by decide +kernel)) (hts _ (List.mem_of_getElem? (i := 3) rfl)) rfl (by rw [hml]; exact hl.1) rfl dX2_init_1 (Nat.le_of_ble_eq_true rfl) (Nat.le_of_ble_eq_true rfl) ?_
  refine W.eq (g2 := F0 m 4 ls []) rfl ?_
  refine lv_aload_n hx hb dX2_init_4 rfl (lv_at hl 0 rfl) ?_
  refine lv_bipush (v := nI 64) hx hb dX2_init_5 (by decide) ?_
  refine k_newI hx hb (hts (.arrayClass .int) (by decide +kernel)) hK hP hD hS hA 64 (by decide) (Nat.le_of_ble_eq_true rfl) (Nat.le_of_ble_eq_true rfl) dX2_init_7 (fun ml H hP hD hS => ?_)
  have hP : va_P D vwCl [(tr, .inr (2, [.null, .null, .int 0])), (ml, .inl (cI, 64, .inl (fun _ => 0)))] _ := hP
  have hD : va_D A [(tr, .inr (2, [.null, .null, .int 0])), (ml, .inl (cI, 64, .inl (fun _ => 0)))] := hD
  refine va_putF (D := D) (ci := 2) (v := .ref ml) (ty := .array .int) (C := RX2) (T := TX2) (N := 3) hx hb hts (by decide +kernel) tyX2 tyX2_ok nmX2 hown hK hP hD hS 0 rfl rfl 0 (by decide) (hts (.fieldLink RX2 11 "VeiledFiles$Trail" "mapLeaf" "[I") (by decide +kernel)) (fun _ h9 => h9) rfl hnm rfl (by decide +kernel) rfl rfl (Nat.le_of_ble_eq_true rfl) dX2_init_9 (fun H locs hP hD hS => ?_)
  have hP : va_P D vwCl [(tr, .inr (2, [.ref ml, .null, .int 0])), (ml, .inl (cI, 64, .inl (fun _ => 0)))] _ := hP
  have hD : va_D A [(tr, .inr (2, [.ref ml, .null, .int 0])), (ml, .inl (cI, 64, .inl (fun _ => 0)))] := hD
  refine lv_aload_n hx hb dX2_init_12 rfl (lv_at hl 0 rfl) ?_
  refine lv_bipush (v := nI 64) hx hb dX2_init_13 (by decide) ?_
  refine k_newI hx hb (hts (.arrayClass .int) (by decide +kernel)) hK hP hD hS hA 64 (by decide) (Nat.le_of_ble_eq_true rfl) (Nat.le_of_ble_eq_true rfl) dX2_init_15 (fun dl H hP hD hS => ?_)
  have hP : va_P D vwCl [(tr, .inr (2, [.ref ml, .null, .int 0])), (ml, .inl (cI, 64, .inl (fun _ => 0))), (dl, .inl (cI, 64, .inl (fun _ => 0)))] _ := hP
  have hD : va_D A [(tr, .inr (2, [.ref ml, .null, .int 0])), (ml, .inl (cI, 64, .inl (fun _ => 0))), (dl, .inl (cI, 64, .inl (fun _ => 0)))] := hD
  refine va_putF (D := D) (ci := 2) (v := .ref dl) (ty := .array .int) (C := RX2) (T := TX2) (N := 3) hx hb hts (by decide +kernel) tyX2 tyX2_ok nmX2 hown hK hP hD hS 0 rfl rfl 1 (by decide) (hts (.fieldLink RX2 15 "VeiledFiles$Trail" "dataLeaf" "[I") (by decide +kernel)) (fun _ h9 => h9) rfl hnm rfl (by decide +kernel) rfl rfl (Nat.le_of_ble_eq_true rfl) dX2_init_17 (fun H locs hP hD hS => ?_)
  have hP : va_P D vwCl [(tr, .inr (2, [.ref ml, .ref dl, .int 0])), (ml, .inl (cI, 64, .inl (fun _ => 0))), (dl, .inl (cI, 64, .inl (fun _ => 0)))] _ := hP
  have hD : va_D A [(tr, .inr (2, [.ref ml, .ref dl, .int 0])), (ml, .inl (cI, 64, .inl (fun _ => 0))), (dl, .inl (cI, 64, .inl (fun _ => 0)))] := hD
  exact k_retv (ml, dl) hx hb hr hK hS hlk dX2_init_20 hP hD (trivial) hQ

set_option maxHeartbeats 800000 in
set_option maxRecDepth 100000 in
theorem c_i_book (l : Launch) (D : va_G) (cI cZ cJ : ClassId) (bk : Nat)   : KV l yX0_init wsX0_init ({ frames := 1, cells := 4, slots := 128, locals := 12 }) D (kty cI cZ cJ) [.ref bk] [(bk, .inr (0, [.null, .null, .null, .null]))] (fun (_ : Nat × Nat × Nat × Nat) => True) (fun u : Nat × Nat × Nat × Nat => wBr cI cZ cJ bk u.1 u.2.1 u.2.2.1 u.2.2.2 (fun _ => 0) (fun _ => 0) (fun _ => 0) (fun _ => 0)) 4 128 := by
  refine k_headV (cc := cX0_init) (maxL := 1) (ret := none) (by decide) rfl (Nat.le_of_ble_eq_true rfl) ?_
  intro p e s m below meth c A ls args Q hx hb hr hml hts hown hlk hnm hA hK hP hD hS hl hQ
  have hl : lv_has ls 1 [(0, .ref bk)] := hl
  refine lv_aload_n hx hb dX0_init_0 rfl (lv_at hl 0 rfl) ?_
  refine W.objInit hx hb hown (hts (.methodLink RX0 5 objectInit) (by decide +kernel)) (hts (.instanceMethod objectInit) (by decide +kernel)) (hts _ (List.mem_of_getElem? (i := 3) rfl)) rfl (by rw [hml]; exact hl.1) rfl dX0_init_1 (Nat.le_of_ble_eq_true rfl) (Nat.le_of_ble_eq_true rfl) ?_
  refine W.eq (g2 := F0 m 4 ls []) rfl ?_
  refine lv_aload_n hx hb dX0_init_4 rfl (lv_at hl 0 rfl) ?_
  refine lv_bipush (v := nI 8) hx hb dX0_init_5 (by decide) ?_
  refine k_newJ hx hb (hts (.arrayClass .long) (by decide +kernel)) hK hP hD hS hA 8 (by decide) (Nat.le_of_ble_eq_true rfl) (Nat.le_of_ble_eq_true rfl) dX0_init_7 (fun nm H hP hD hS => ?_)
  have hP : va_P D vwCl [(bk, .inr (0, [.null, .null, .null, .null])), (nm, .inl (cJ, 8, .inr (.inl (fun _ => 0))))] _ := hP
  have hD : va_D A [(bk, .inr (0, [.null, .null, .null, .null])), (nm, .inl (cJ, 8, .inr (.inl (fun _ => 0))))] := hD
  refine va_putF (D := D) (ci := 0) (v := .ref nm) (ty := .array .long) (C := RX0) (T := TX0) (N := 4) hx hb hts (by decide +kernel) tyX0 tyX0_ok nmX0 hown hK hP hD hS 0 rfl rfl 0 (by decide) (hts (.fieldLink RX0 11 "VeiledFiles$Book" "names" "[J") (by decide +kernel)) (fun _ h9 => h9) rfl hnm rfl (by decide +kernel) rfl rfl (Nat.le_of_ble_eq_true rfl) dX0_init_9 (fun H locs hP hD hS => ?_)
  have hP : va_P D vwCl [(bk, .inr (0, [.ref nm, .null, .null, .null])), (nm, .inl (cJ, 8, .inr (.inl (fun _ => 0))))] _ := hP
  have hD : va_D A [(bk, .inr (0, [.ref nm, .null, .null, .null])), (nm, .inl (cJ, 8, .inr (.inl (fun _ => 0))))] := hD
  refine lv_aload_n hx hb dX0_init_12 rfl (lv_at hl 0 rfl) ?_
  refine lv_bipush (v := nI 8) hx hb dX0_init_13 (by decide) ?_
  refine k_newI hx hb (hts (.arrayClass .int) (by decide +kernel)) hK hP hD hS hA 8 (by decide) (Nat.le_of_ble_eq_true rfl) (Nat.le_of_ble_eq_true rfl) dX0_init_15 (fun ln H hP hD hS => ?_)
  have hP : va_P D vwCl [(bk, .inr (0, [.ref nm, .null, .null, .null])), (nm, .inl (cJ, 8, .inr (.inl (fun _ => 0)))), (ln, .inl (cI, 8, .inl (fun _ => 0)))] _ := hP
  have hD : va_D A [(bk, .inr (0, [.ref nm, .null, .null, .null])), (nm, .inl (cJ, 8, .inr (.inl (fun _ => 0)))), (ln, .inl (cI, 8, .inl (fun _ => 0)))] := hD
  refine va_putF (D := D) (ci := 0) (v := .ref ln) (ty := .array .int) (C := RX0) (T := TX0) (N := 4) hx hb hts (by decide +kernel) tyX0 tyX0_ok nmX0 hown hK hP hD hS 0 rfl rfl 1 (by decide) (hts (.fieldLink RX0 15 "VeiledFiles$Book" "lengths" "[I") (by decide +kernel)) (fun _ h9 => h9) rfl hnm rfl (by decide +kernel) rfl rfl (Nat.le_of_ble_eq_true rfl) dX0_init_17 (fun H locs hP hD hS => ?_)
  have hP : va_P D vwCl [(bk, .inr (0, [.ref nm, .ref ln, .null, .null])), (nm, .inl (cJ, 8, .inr (.inl (fun _ => 0)))), (ln, .inl (cI, 8, .inl (fun _ => 0)))] _ := hP
  have hD : va_D A [(bk, .inr (0, [.ref nm, .ref ln, .null, .null])), (nm, .inl (cJ, 8, .inr (.inl (fun _ => 0)))), (ln, .inl (cI, 8, .inl (fun _ => 0)))] := hD
  refine lv_aload_n hx hb dX0_init_20 rfl (lv_at hl 0 rfl) ?_
  refine lv_bipush (v := nI 48) hx hb dX0_init_21 (by decide) ?_
  refine k_newI hx hb (hts (.arrayClass .int) (by decide +kernel)) hK hP hD hS hA 48 (by decide) (Nat.le_of_ble_eq_true rfl) (Nat.le_of_ble_eq_true rfl) dX0_init_23 (fun pt H hP hD hS => ?_)
  have hP : va_P D vwCl [(bk, .inr (0, [.ref nm, .ref ln, .null, .null])), (nm, .inl (cJ, 8, .inr (.inl (fun _ => 0)))), (ln, .inl (cI, 8, .inl (fun _ => 0))), (pt, .inl (cI, 48, .inl (fun _ => 0)))] _ := hP
  have hD : va_D A [(bk, .inr (0, [.ref nm, .ref ln, .null, .null])), (nm, .inl (cJ, 8, .inr (.inl (fun _ => 0)))), (ln, .inl (cI, 8, .inl (fun _ => 0))), (pt, .inl (cI, 48, .inl (fun _ => 0)))] := hD
  refine va_putF (D := D) (ci := 0) (v := .ref pt) (ty := .array .int) (C := RX0) (T := TX0) (N := 4) hx hb hts (by decide +kernel) tyX0 tyX0_ok nmX0 hown hK hP hD hS 0 rfl rfl 2 (by decide) (hts (.fieldLink RX0 19 "VeiledFiles$Book" "partBlocks" "[I") (by decide +kernel)) (fun _ h9 => h9) rfl hnm rfl (by decide +kernel) rfl rfl (Nat.le_of_ble_eq_true rfl) dX0_init_25 (fun H locs hP hD hS => ?_)
  have hP : va_P D vwCl [(bk, .inr (0, [.ref nm, .ref ln, .ref pt, .null])), (nm, .inl (cJ, 8, .inr (.inl (fun _ => 0)))), (ln, .inl (cI, 8, .inl (fun _ => 0))), (pt, .inl (cI, 48, .inl (fun _ => 0)))] _ := hP
  have hD : va_D A [(bk, .inr (0, [.ref nm, .ref ln, .ref pt, .null])), (nm, .inl (cJ, 8, .inr (.inl (fun _ => 0)))), (ln, .inl (cI, 8, .inl (fun _ => 0))), (pt, .inl (cI, 48, .inl (fun _ => 0)))] := hD
  refine lv_aload_n hx hb dX0_init_28 rfl (lv_at hl 0 rfl) ?_
  refine lv_bipush (v := nI 64) hx hb dX0_init_29 (by decide) ?_
  refine k_newZ hx hb (hts (.arrayClass .boolean) (by decide +kernel)) hK hP hD hS hA 64 (by decide) (Nat.le_of_ble_eq_true rfl) (Nat.le_of_ble_eq_true rfl) dX0_init_31 (fun tk H hP hD hS => ?_)
  have hP : va_P D vwCl [(bk, .inr (0, [.ref nm, .ref ln, .ref pt, .null])), (nm, .inl (cJ, 8, .inr (.inl (fun _ => 0)))), (ln, .inl (cI, 8, .inl (fun _ => 0))), (pt, .inl (cI, 48, .inl (fun _ => 0))), (tk, .inl (cZ, 64, .inl (fun _ => 0)))] _ := hP
  have hD : va_D A [(bk, .inr (0, [.ref nm, .ref ln, .ref pt, .null])), (nm, .inl (cJ, 8, .inr (.inl (fun _ => 0)))), (ln, .inl (cI, 8, .inl (fun _ => 0))), (pt, .inl (cI, 48, .inl (fun _ => 0))), (tk, .inl (cZ, 64, .inl (fun _ => 0)))] := hD
  refine va_putF (D := D) (ci := 0) (v := .ref tk) (ty := .array .boolean) (C := RX0) (T := TX0) (N := 4) hx hb hts (by decide +kernel) tyX0 tyX0_ok nmX0 hown hK hP hD hS 0 rfl rfl 3 (by decide) (hts (.fieldLink RX0 22 "VeiledFiles$Book" "taken" "[Z") (by decide +kernel)) (fun _ h9 => h9) rfl hnm rfl (by decide +kernel) rfl rfl (Nat.le_of_ble_eq_true rfl) dX0_init_33 (fun H locs hP hD hS => ?_)
  have hP : va_P D vwCl [(bk, .inr (0, [.ref nm, .ref ln, .ref pt, .ref tk])), (nm, .inl (cJ, 8, .inr (.inl (fun _ => 0)))), (ln, .inl (cI, 8, .inl (fun _ => 0))), (pt, .inl (cI, 48, .inl (fun _ => 0))), (tk, .inl (cZ, 64, .inl (fun _ => 0)))] _ := hP
  have hD : va_D A [(bk, .inr (0, [.ref nm, .ref ln, .ref pt, .ref tk])), (nm, .inl (cJ, 8, .inr (.inl (fun _ => 0)))), (ln, .inl (cI, 8, .inl (fun _ => 0))), (pt, .inl (cI, 48, .inl (fun _ => 0))), (tk, .inl (cZ, 64, .inl (fun _ => 0)))] := hD
  exact k_retv (nm, ln, pt, tk) hx hb hr hK hS hlk dX0_init_36 hP hD (trivial) hQ

set_option maxHeartbeats 800000 in
set_option maxRecDepth 100000 in
theorem c_i_tree0 (l : Launch) (D : va_G) (cI cZ cJ : ClassId) (t : Nat)   : KV l yX3_init wsX3_init ({ frames := 1, cells := 5, slots := 230, locals := 12 }) D (kty cI cZ cJ) [.ref t, .int 0, .int (nI 2), .int (nI 8)] [(t, .inr (3, [.int 0, .int 0, .int 0, .int 0, .int 0, .null, .null, .null, .null, .null, .int 0]))] (fun (_ : Nat × Nat × Nat × Nat × Nat) => True) (fun u : Nat × Nat × Nat × Nat × Nat => wT cI cZ cJ t u.1 u.2.1 u.2.2.1 u.2.2.2.1 u.2.2.2.2 0 4 3 7 8 0 (fun _ _ => 0) (fun _ => 0) (fun _ => 0) (fun _ => 0) (fun _ _ => 0)) 5 230 := by
  refine k_headV (cc := cX3_init) (maxL := 4) (ret := none) (by decide) rfl (Nat.le_of_ble_eq_true rfl) ?_
  intro p e s m below meth c A ls args Q hx hb hr hml hts hown hlk hnm hA hK hP hD hS hl hQ
  have hl : lv_has ls 4 [(0, .ref t), (1, .int 0), (2, .int (nI 2)), (3, .int (nI 8))] := hl
  refine lv_aload_n hx hb dX3_init_0 rfl (lv_at hl 0 rfl) ?_
  refine W.objInit hx hb hown (hts (.methodLink RX3 3 objectInit) (by decide +kernel)) (hts (.instanceMethod objectInit) (by decide +kernel)) (hts _ (List.mem_of_getElem? (i := 3) rfl)) rfl (by rw [hml]; exact hl.1) rfl dX3_init_1 (Nat.le_of_ble_eq_true rfl) (Nat.le_of_ble_eq_true rfl) ?_
  refine W.eq (g2 := F0 m 4 ls []) rfl ?_
  refine lv_aload_n hx hb dX3_init_4 rfl (lv_at hl 0 rfl) ?_
  refine lv_iload_n hx hb dX3_init_5 rfl (lv_at hl 1 rfl) ?_
  refine va_putF (D := D) (ci := 3) (v := .int 0) (ty := .int) (C := RX3) (T := TX3) (N := 11) hx hb hts (by decide +kernel) tyX3 tyX3_ok nmX3 hown hK hP hD hS 0 rfl rfl 0 (by decide) (hts (.fieldLink RX3 9 "VeiledFiles$Tree" "number" "I") (by decide +kernel)) (fun _ h9 => h9) rfl hnm rfl (by decide +kernel) rfl rfl (Nat.le_of_ble_eq_true rfl) dX3_init_6 (fun H locs hP hD hS => ?_)
  have hP : va_P D vwCl [(t, .inr (3, [.int 0, .int 0, .int 0, .int 0, .int 0, .null, .null, .null, .null, .null, .int 0]))] _ := hP
  have hD : va_D A [(t, .inr (3, [.int 0, .int 0, .int 0, .int 0, .int 0, .null, .null, .null, .null, .null, .int 0]))] := hD
  refine lv_aload_n hx hb dX3_init_9 rfl (lv_at hl 0 rfl) ?_
  refine lv_iconst (v := nI 1) hx hb dX3_init_10 (by decide) ?_
  refine lv_iload_n hx hb dX3_init_11 rfl (lv_at hl 2 rfl) ?_
  refine lv_ishl hx hb dX3_init_12 ?_
  refine k_t1 (show (nI 1) <<< ((nI 2) &&& 31) = nI 4 from by decide +kernel) ?_
  refine va_putF (D := D) (ci := 3) (v := .int (nI 4)) (ty := .int) (C := RX3) (T := TX3) (N := 11) hx hb hts (by decide +kernel) tyX3 tyX3_ok nmX3 hown hK hP hD hS 0 rfl rfl 1 (by decide) (hts (.fieldLink RX3 15 "VeiledFiles$Tree" "leafCount" "I") (by decide +kernel)) (fun _ h9 => h9) rfl hnm rfl (by decide +kernel) rfl rfl (Nat.le_of_ble_eq_true rfl) dX3_init_13 (fun H locs hP hD hS => ?_)
  have hP : va_P D vwCl [(t, .inr (3, [.int 0, .int (nI 4), .int 0, .int 0, .int 0, .null, .null, .null, .null, .null, .int 0]))] _ := hP
  have hD : va_D A [(t, .inr (3, [.int 0, .int (nI 4), .int 0, .int 0, .int 0, .null, .null, .null, .null, .null, .int 0]))] := hD
  refine lv_aload_n hx hb dX3_init_16 rfl (lv_at hl 0 rfl) ?_
  refine lv_iload_n hx hb dX3_init_17 rfl (lv_at hl 2 rfl) ?_
  refine lv_iconst (v := nI 1) hx hb dX3_init_18 (by decide) ?_
  refine lv_iadd hx hb dX3_init_19 ?_
  refine k_t1 (show (nI 2) + (nI 1) = nI 3 from by decide +kernel) ?_
  refine va_putF (D := D) (ci := 3) (v := .int (nI 3)) (ty := .int) (C := RX3) (T := TX3) (N := 11) hx hb hts (by decide +kernel) tyX3 tyX3_ok nmX3 hown hK hP hD hS 0 rfl rfl 2 (by decide) (hts (.fieldLink RX3 18 "VeiledFiles$Tree" "levels" "I") (by decide +kernel)) (fun _ h9 => h9) rfl hnm rfl (by decide +kernel) rfl rfl (Nat.le_of_ble_eq_true rfl) dX3_init_20 (fun H locs hP hD hS => ?_)
  have hP : va_P D vwCl [(t, .inr (3, [.int 0, .int (nI 4), .int (nI 3), .int 0, .int 0, .null, .null, .null, .null, .null, .int 0]))] _ := hP
  have hD : va_D A [(t, .inr (3, [.int 0, .int (nI 4), .int (nI 3), .int 0, .int 0, .null, .null, .null, .null, .null, .int 0]))] := hD
  refine lv_aload_n hx hb dX3_init_23 rfl (lv_at hl 0 rfl) ?_
  refine lv_iconst (v := nI 2) hx hb dX3_init_24 (by decide) ?_
  refine lv_aload_n hx hb dX3_init_25 rfl (lv_at hl 0 rfl) ?_
  refine va_get (D := D) (ci := 3) (v := .int (nI 4)) (C := RX3) (T := TX3) (N := 11) hx hb hts (by decide +kernel) hown hK hP 0 rfl rfl 1 (by decide) (hts (.fieldLink RX3 15 "VeiledFiles$Tree" "leafCount" "I") (by decide +kernel)) (fun _ h9 => h9) rfl dX3_init_26 ?_
  refine lv_imul hx hb dX3_init_29 ?_
  refine k_t1 (show (nI 2) * (nI 4) = nI 8 from by decide +kernel) ?_
  refine lv_iconst (v := nI 1) hx hb dX3_init_30 (by decide) ?_
  refine lv_isub hx hb dX3_init_31 ?_
  refine k_t1 (show (nI 8) - (nI 1) = nI 7 from by decide +kernel) ?_
  refine va_putF (D := D) (ci := 3) (v := .int (nI 7)) (ty := .int) (C := RX3) (T := TX3) (N := 11) hx hb hts (by decide +kernel) tyX3 tyX3_ok nmX3 hown hK hP hD hS 0 rfl rfl 3 (by decide) (hts (.fieldLink RX3 21 "VeiledFiles$Tree" "buckets" "I") (by decide +kernel)) (fun _ h9 => h9) rfl hnm rfl (by decide +kernel) rfl rfl (Nat.le_of_ble_eq_true rfl) dX3_init_32 (fun H locs hP hD hS => ?_)
  have hP : va_P D vwCl [(t, .inr (3, [.int 0, .int (nI 4), .int (nI 3), .int (nI 7), .int 0, .null, .null, .null, .null, .null, .int 0]))] _ := hP
  have hD : va_D A [(t, .inr (3, [.int 0, .int (nI 4), .int (nI 3), .int (nI 7), .int 0, .null, .null, .null, .null, .null, .int 0]))] := hD
  refine lv_aload_n hx hb dX3_init_35 rfl (lv_at hl 0 rfl) ?_
  refine lv_iload_n hx hb dX3_init_36 rfl (lv_at hl 3 rfl) ?_
  refine va_putF (D := D) (ci := 3) (v := .int (nI 8)) (ty := .int) (C := RX3) (T := TX3) (N := 11) hx hb hts (by decide +kernel) tyX3 tyX3_ok nmX3 hown hK hP hD hS 0 rfl rfl 4 (by decide) (hts (.fieldLink RX3 24 "VeiledFiles$Tree" "blocks" "I") (by decide +kernel)) (fun _ h9 => h9) rfl hnm rfl (by decide +kernel) rfl rfl (Nat.le_of_ble_eq_true rfl) dX3_init_37 (fun H locs hP hD hS => ?_)
  have hP : va_P D vwCl [(t, .inr (3, [.int 0, .int (nI 4), .int (nI 3), .int (nI 7), .int (nI 8), .null, .null, .null, .null, .null, .int 0]))] _ := hP
  have hD : va_D A [(t, .inr (3, [.int 0, .int (nI 4), .int (nI 3), .int (nI 7), .int (nI 8), .null, .null, .null, .null, .null, .int 0]))] := hD
  refine lv_aload_n hx hb dX3_init_40 rfl (lv_at hl 0 rfl) ?_
  refine lv_aload_n hx hb dX3_init_41 rfl (lv_at hl 0 rfl) ?_
  refine va_get (D := D) (ci := 3) (v := .int (nI 7)) (C := RX3) (T := TX3) (N := 11) hx hb hts (by decide +kernel) hown hK hP 0 rfl rfl 3 (by decide) (hts (.fieldLink RX3 21 "VeiledFiles$Tree" "buckets" "I") (by decide +kernel)) (fun _ h9 => h9) rfl dX3_init_42 ?_
  refine lv_bipush (v := nI 25) hx hb dX3_init_45 (by decide) ?_
  refine lv_imul hx hb dX3_init_47 ?_
  refine k_t1 (show (nI 7) * (nI 25) = nI 175 from by decide +kernel) ?_
  refine k_newI hx hb (hts (.arrayClass .int) (by decide +kernel)) hK hP hD hS hA 175 (by decide) (Nat.le_of_ble_eq_true rfl) (Nat.le_of_ble_eq_true rfl) dX3_init_48 (fun st H hP hD hS => ?_)
  have hP : va_P D vwCl [(t, .inr (3, [.int 0, .int (nI 4), .int (nI 3), .int (nI 7), .int (nI 8), .null, .null, .null, .null, .null, .int 0])), (st, .inl (cI, 175, .inl (fun _ => 0)))] _ := hP
  have hD : va_D A [(t, .inr (3, [.int 0, .int (nI 4), .int (nI 3), .int (nI 7), .int (nI 8), .null, .null, .null, .null, .null, .int 0])), (st, .inl (cI, 175, .inl (fun _ => 0)))] := hD
  refine va_putF (D := D) (ci := 3) (v := .ref st) (ty := .array .int) (C := RX3) (T := TX3) (N := 11) hx hb hts (by decide +kernel) tyX3 tyX3_ok nmX3 hown hK hP hD hS 0 rfl rfl 5 (by decide) (hts (.fieldLink RX3 27 "VeiledFiles$Tree" "store" "[I") (by decide +kernel)) (fun _ h9 => h9) rfl hnm rfl (by decide +kernel) rfl rfl (Nat.le_of_ble_eq_true rfl) dX3_init_50 (fun H locs hP hD hS => ?_)
  have hP : va_P D vwCl [(t, .inr (3, [.int 0, .int (nI 4), .int (nI 3), .int (nI 7), .int (nI 8), .ref st, .null, .null, .null, .null, .int 0])), (st, .inl (cI, 175, .inl (fun _ => 0)))] _ := hP
  have hD : va_D A [(t, .inr (3, [.int 0, .int (nI 4), .int (nI 3), .int (nI 7), .int (nI 8), .ref st, .null, .null, .null, .null, .int 0])), (st, .inl (cI, 175, .inl (fun _ => 0)))] := hD
  refine lv_aload_n hx hb dX3_init_53 rfl (lv_at hl 0 rfl) ?_
  refine lv_aload_n hx hb dX3_init_54 rfl (lv_at hl 0 rfl) ?_
  refine va_get (D := D) (ci := 3) (v := .int (nI 7)) (C := RX3) (T := TX3) (N := 11) hx hb hts (by decide +kernel) hown hK hP 0 rfl rfl 3 (by decide) (hts (.fieldLink RX3 21 "VeiledFiles$Tree" "buckets" "I") (by decide +kernel)) (fun _ h9 => h9) rfl dX3_init_55 ?_
  refine k_newI hx hb (hts (.arrayClass .int) (by decide +kernel)) hK hP hD hS hA 7 (by decide) (Nat.le_of_ble_eq_true rfl) (Nat.le_of_ble_eq_true rfl) dX3_init_58 (fun ct H hP hD hS => ?_)
  have hP : va_P D vwCl [(t, .inr (3, [.int 0, .int (nI 4), .int (nI 3), .int (nI 7), .int (nI 8), .ref st, .null, .null, .null, .null, .int 0])), (st, .inl (cI, 175, .inl (fun _ => 0))), (ct, .inl (cI, 7, .inl (fun _ => 0)))] _ := hP
  have hD : va_D A [(t, .inr (3, [.int 0, .int (nI 4), .int (nI 3), .int (nI 7), .int (nI 8), .ref st, .null, .null, .null, .null, .int 0])), (st, .inl (cI, 175, .inl (fun _ => 0))), (ct, .inl (cI, 7, .inl (fun _ => 0)))] := hD
  refine va_putF (D := D) (ci := 3) (v := .ref ct) (ty := .array .int) (C := RX3) (T := TX3) (N := 11) hx hb hts (by decide +kernel) tyX3 tyX3_ok nmX3 hown hK hP hD hS 0 rfl rfl 6 (by decide) (hts (.fieldLink RX3 31 "VeiledFiles$Tree" "counters" "[I") (by decide +kernel)) (fun _ h9 => h9) rfl hnm rfl (by decide +kernel) rfl rfl (Nat.le_of_ble_eq_true rfl) dX3_init_60 (fun H locs hP hD hS => ?_)
  have hP : va_P D vwCl [(t, .inr (3, [.int 0, .int (nI 4), .int (nI 3), .int (nI 7), .int (nI 8), .ref st, .ref ct, .null, .null, .null, .int 0])), (st, .inl (cI, 175, .inl (fun _ => 0))), (ct, .inl (cI, 7, .inl (fun _ => 0)))] _ := hP
  have hD : va_D A [(t, .inr (3, [.int 0, .int (nI 4), .int (nI 3), .int (nI 7), .int (nI 8), .ref st, .ref ct, .null, .null, .null, .int 0])), (st, .inl (cI, 175, .inl (fun _ => 0))), (ct, .inl (cI, 7, .inl (fun _ => 0)))] := hD
  refine lv_aload_n hx hb dX3_init_63 rfl (lv_at hl 0 rfl) ?_
  refine lv_iload_n hx hb dX3_init_64 rfl (lv_at hl 3 rfl) ?_
  refine k_newZ hx hb (hts (.arrayClass .boolean) (by decide +kernel)) hK hP hD hS hA 8 (by decide) (Nat.le_of_ble_eq_true rfl) (Nat.le_of_ble_eq_true rfl) dX3_init_65 (fun hd H hP hD hS => ?_)
  have hP : va_P D vwCl [(t, .inr (3, [.int 0, .int (nI 4), .int (nI 3), .int (nI 7), .int (nI 8), .ref st, .ref ct, .null, .null, .null, .int 0])), (st, .inl (cI, 175, .inl (fun _ => 0))), (ct, .inl (cI, 7, .inl (fun _ => 0))), (hd, .inl (cZ, 8, .inl (fun _ => 0)))] _ := hP
  have hD : va_D A [(t, .inr (3, [.int 0, .int (nI 4), .int (nI 3), .int (nI 7), .int (nI 8), .ref st, .ref ct, .null, .null, .null, .int 0])), (st, .inl (cI, 175, .inl (fun _ => 0))), (ct, .inl (cI, 7, .inl (fun _ => 0))), (hd, .inl (cZ, 8, .inl (fun _ => 0)))] := hD
  refine va_putF (D := D) (ci := 3) (v := .ref hd) (ty := .array .boolean) (C := RX3) (T := TX3) (N := 11) hx hb hts (by decide +kernel) tyX3 tyX3_ok nmX3 hown hK hP hD hS 0 rfl rfl 7 (by decide) (hts (.fieldLink RX3 34 "VeiledFiles$Tree" "held" "[Z") (by decide +kernel)) (fun _ h9 => h9) rfl hnm rfl (by decide +kernel) rfl rfl (Nat.le_of_ble_eq_true rfl) dX3_init_67 (fun H locs hP hD hS => ?_)
  have hP : va_P D vwCl [(t, .inr (3, [.int 0, .int (nI 4), .int (nI 3), .int (nI 7), .int (nI 8), .ref st, .ref ct, .ref hd, .null, .null, .int 0])), (st, .inl (cI, 175, .inl (fun _ => 0))), (ct, .inl (cI, 7, .inl (fun _ => 0))), (hd, .inl (cZ, 8, .inl (fun _ => 0)))] _ := hP
  have hD : va_D A [(t, .inr (3, [.int 0, .int (nI 4), .int (nI 3), .int (nI 7), .int (nI 8), .ref st, .ref ct, .ref hd, .null, .null, .int 0])), (st, .inl (cI, 175, .inl (fun _ => 0))), (ct, .inl (cI, 7, .inl (fun _ => 0))), (hd, .inl (cZ, 8, .inl (fun _ => 0)))] := hD
  refine lv_aload_n hx hb dX3_init_70 rfl (lv_at hl 0 rfl) ?_
  refine lv_iload_n hx hb dX3_init_71 rfl (lv_at hl 3 rfl) ?_
  refine k_newI hx hb (hts (.arrayClass .int) (by decide +kernel)) hK hP hD hS hA 8 (by decide) (Nat.le_of_ble_eq_true rfl) (Nat.le_of_ble_eq_true rfl) dX3_init_72 (fun lv H hP hD hS => ?_)
  have hP : va_P D vwCl [(t, .inr (3, [.int 0, .int (nI 4), .int (nI 3), .int (nI 7), .int (nI 8), .ref st, .ref ct, .ref hd, .null, .null, .int 0])), (st, .inl (cI, 175, .inl (fun _ => 0))), (ct, .inl (cI, 7, .inl (fun _ => 0))), (hd, .inl (cZ, 8, .inl (fun _ => 0))), (lv, .inl (cI, 8, .inl (fun _ => 0)))] _ := hP
  have hD : va_D A [(t, .inr (3, [.int 0, .int (nI 4), .int (nI 3), .int (nI 7), .int (nI 8), .ref st, .ref ct, .ref hd, .null, .null, .int 0])), (st, .inl (cI, 175, .inl (fun _ => 0))), (ct, .inl (cI, 7, .inl (fun _ => 0))), (hd, .inl (cZ, 8, .inl (fun _ => 0))), (lv, .inl (cI, 8, .inl (fun _ => 0)))] := hD
  refine va_putF (D := D) (ci := 3) (v := .ref lv) (ty := .array .int) (C := RX3) (T := TX3) (N := 11) hx hb hts (by decide +kernel) tyX3 tyX3_ok nmX3 hown hK hP hD hS 0 rfl rfl 8 (by decide) (hts (.fieldLink RX3 38 "VeiledFiles$Tree" "leaves" "[I") (by decide +kernel)) (fun _ h9 => h9) rfl hnm rfl (by decide +kernel) rfl rfl (Nat.le_of_ble_eq_true rfl) dX3_init_74 (fun H locs hP hD hS => ?_)
  have hP : va_P D vwCl [(t, .inr (3, [.int 0, .int (nI 4), .int (nI 3), .int (nI 7), .int (nI 8), .ref st, .ref ct, .ref hd, .ref lv, .null, .int 0])), (st, .inl (cI, 175, .inl (fun _ => 0))), (ct, .inl (cI, 7, .inl (fun _ => 0))), (hd, .inl (cZ, 8, .inl (fun _ => 0))), (lv, .inl (cI, 8, .inl (fun _ => 0)))] _ := hP
  have hD : va_D A [(t, .inr (3, [.int 0, .int (nI 4), .int (nI 3), .int (nI 7), .int (nI 8), .ref st, .ref ct, .ref hd, .ref lv, .null, .int 0])), (st, .inl (cI, 175, .inl (fun _ => 0))), (ct, .inl (cI, 7, .inl (fun _ => 0))), (hd, .inl (cZ, 8, .inl (fun _ => 0))), (lv, .inl (cI, 8, .inl (fun _ => 0)))] := hD
  refine lv_aload_n hx hb dX3_init_77 rfl (lv_at hl 0 rfl) ?_
  refine lv_iload_n hx hb dX3_init_78 rfl (lv_at hl 3 rfl) ?_
  refine lv_iconst (v := nI 4) hx hb dX3_init_79 (by decide) ?_
  refine lv_imul hx hb dX3_init_80 ?_
  refine k_t1 (show (nI 8) * (nI 4) = nI 32 from by decide +kernel) ?_
  refine k_newI hx hb (hts (.arrayClass .int) (by decide +kernel)) hK hP hD hS hA 32 (by decide) (Nat.le_of_ble_eq_true rfl) (Nat.le_of_ble_eq_true rfl) dX3_init_81 (fun wd H hP hD hS => ?_)
  have hP : va_P D vwCl [(t, .inr (3, [.int 0, .int (nI 4), .int (nI 3), .int (nI 7), .int (nI 8), .ref st, .ref ct, .ref hd, .ref lv, .null, .int 0])), (st, .inl (cI, 175, .inl (fun _ => 0))), (ct, .inl (cI, 7, .inl (fun _ => 0))), (hd, .inl (cZ, 8, .inl (fun _ => 0))), (lv, .inl (cI, 8, .inl (fun _ => 0))), (wd, .inl (cI, 32, .inl (fun _ => 0)))] _ := hP
  have hD : va_D A [(t, .inr (3, [.int 0, .int (nI 4), .int (nI 3), .int (nI 7), .int (nI 8), .ref st, .ref ct, .ref hd, .ref lv, .null, .int 0])), (st, .inl (cI, 175, .inl (fun _ => 0))), (ct, .inl (cI, 7, .inl (fun _ => 0))), (hd, .inl (cZ, 8, .inl (fun _ => 0))), (lv, .inl (cI, 8, .inl (fun _ => 0))), (wd, .inl (cI, 32, .inl (fun _ => 0)))] := hD
  refine va_putF (D := D) (ci := 3) (v := .ref wd) (ty := .array .int) (C := RX3) (T := TX3) (N := 11) hx hb hts (by decide +kernel) tyX3 tyX3_ok nmX3 hown hK hP hD hS 0 rfl rfl 9 (by decide) (hts (.fieldLink RX3 41 "VeiledFiles$Tree" "words" "[I") (by decide +kernel)) (fun _ h9 => h9) rfl hnm rfl (by decide +kernel) rfl rfl (Nat.le_of_ble_eq_true rfl) dX3_init_83 (fun H locs hP hD hS => ?_)
  have hP : va_P D vwCl [(t, .inr (3, [.int 0, .int (nI 4), .int (nI 3), .int (nI 7), .int (nI 8), .ref st, .ref ct, .ref hd, .ref lv, .ref wd, .int 0])), (st, .inl (cI, 175, .inl (fun _ => 0))), (ct, .inl (cI, 7, .inl (fun _ => 0))), (hd, .inl (cZ, 8, .inl (fun _ => 0))), (lv, .inl (cI, 8, .inl (fun _ => 0))), (wd, .inl (cI, 32, .inl (fun _ => 0)))] _ := hP
  have hD : va_D A [(t, .inr (3, [.int 0, .int (nI 4), .int (nI 3), .int (nI 7), .int (nI 8), .ref st, .ref ct, .ref hd, .ref lv, .ref wd, .int 0])), (st, .inl (cI, 175, .inl (fun _ => 0))), (ct, .inl (cI, 7, .inl (fun _ => 0))), (hd, .inl (cZ, 8, .inl (fun _ => 0))), (lv, .inl (cI, 8, .inl (fun _ => 0))), (wd, .inl (cI, 32, .inl (fun _ => 0)))] := hD
  exact k_retv (st, ct, hd, lv, wd) hx hb hr hK hS hlk dX3_init_86 hP hD (trivial) hQ

set_option maxHeartbeats 800000 in
set_option maxRecDepth 100000 in
theorem c_i_tree1 (l : Launch) (D : va_G) (cI cZ cJ : ClassId) (t : Nat)   : KV l yX3_init wsX3_init ({ frames := 1, cells := 5, slots := 2022, locals := 12 }) D (kty cI cZ cJ) [.ref t, .int 1, .int (nI 5), .int (nI 64)] [(t, .inr (3, [.int 0, .int 0, .int 0, .int 0, .int 0, .null, .null, .null, .null, .null, .int 0]))] (fun (_ : Nat × Nat × Nat × Nat × Nat) => True) (fun u : Nat × Nat × Nat × Nat × Nat => wT cI cZ cJ t u.1 u.2.1 u.2.2.1 u.2.2.2.1 u.2.2.2.2 1 32 6 63 64 0 (fun _ _ => 0) (fun _ => 0) (fun _ => 0) (fun _ => 0) (fun _ _ => 0)) 5 2022 := by
  refine k_headV (cc := cX3_init) (maxL := 4) (ret := none) (by decide) rfl (Nat.le_of_ble_eq_true rfl) ?_
  intro p e s m below meth c A ls args Q hx hb hr hml hts hown hlk hnm hA hK hP hD hS hl hQ
  have hl : lv_has ls 4 [(0, .ref t), (1, .int 1), (2, .int (nI 5)), (3, .int (nI 64))] := hl
  refine lv_aload_n hx hb dX3_init_0 rfl (lv_at hl 0 rfl) ?_
  refine W.objInit hx hb hown (hts (.methodLink RX3 3 objectInit) (by decide +kernel)) (hts (.instanceMethod objectInit) (by decide +kernel)) (hts _ (List.mem_of_getElem? (i := 3) rfl)) rfl (by rw [hml]; exact hl.1) rfl dX3_init_1 (Nat.le_of_ble_eq_true rfl) (Nat.le_of_ble_eq_true rfl) ?_
  refine W.eq (g2 := F0 m 4 ls []) rfl ?_
  refine lv_aload_n hx hb dX3_init_4 rfl (lv_at hl 0 rfl) ?_
  refine lv_iload_n hx hb dX3_init_5 rfl (lv_at hl 1 rfl) ?_
  refine va_putF (D := D) (ci := 3) (v := .int 1) (ty := .int) (C := RX3) (T := TX3) (N := 11) hx hb hts (by decide +kernel) tyX3 tyX3_ok nmX3 hown hK hP hD hS 0 rfl rfl 0 (by decide) (hts (.fieldLink RX3 9 "VeiledFiles$Tree" "number" "I") (by decide +kernel)) (fun _ h9 => h9) rfl hnm rfl (by decide +kernel) rfl rfl (Nat.le_of_ble_eq_true rfl) dX3_init_6 (fun H locs hP hD hS => ?_)
  have hP : va_P D vwCl [(t, .inr (3, [.int 1, .int 0, .int 0, .int 0, .int 0, .null, .null, .null, .null, .null, .int 0]))] _ := hP
  have hD : va_D A [(t, .inr (3, [.int 1, .int 0, .int 0, .int 0, .int 0, .null, .null, .null, .null, .null, .int 0]))] := hD
  refine lv_aload_n hx hb dX3_init_9 rfl (lv_at hl 0 rfl) ?_
  refine lv_iconst (v := nI 1) hx hb dX3_init_10 (by decide) ?_
  refine lv_iload_n hx hb dX3_init_11 rfl (lv_at hl 2 rfl) ?_
  refine lv_ishl hx hb dX3_init_12 ?_
  refine k_t1 (show (nI 1) <<< ((nI 5) &&& 31) = nI 32 from by decide +kernel) ?_
  refine va_putF (D := D) (ci := 3) (v := .int (nI 32)) (ty := .int) (C := RX3) (T := TX3) (N := 11) hx hb hts (by decide +kernel) tyX3 tyX3_ok nmX3 hown hK hP hD hS 0 rfl rfl 1 (by decide) (hts (.fieldLink RX3 15 "VeiledFiles$Tree" "leafCount" "I") (by decide +kernel)) (fun _ h9 => h9) rfl hnm rfl (by decide +kernel) rfl rfl (Nat.le_of_ble_eq_true rfl) dX3_init_13 (fun H locs hP hD hS => ?_)
  have hP : va_P D vwCl [(t, .inr (3, [.int 1, .int (nI 32), .int 0, .int 0, .int 0, .null, .null, .null, .null, .null, .int 0]))] _ := hP
  have hD : va_D A [(t, .inr (3, [.int 1, .int (nI 32), .int 0, .int 0, .int 0, .null, .null, .null, .null, .null, .int 0]))] := hD
  refine lv_aload_n hx hb dX3_init_16 rfl (lv_at hl 0 rfl) ?_
  refine lv_iload_n hx hb dX3_init_17 rfl (lv_at hl 2 rfl) ?_
  refine lv_iconst (v := nI 1) hx hb dX3_init_18 (by decide) ?_
  refine lv_iadd hx hb dX3_init_19 ?_
  refine k_t1 (show (nI 5) + (nI 1) = nI 6 from by decide +kernel) ?_
  refine va_putF (D := D) (ci := 3) (v := .int (nI 6)) (ty := .int) (C := RX3) (T := TX3) (N := 11) hx hb hts (by decide +kernel) tyX3 tyX3_ok nmX3 hown hK hP hD hS 0 rfl rfl 2 (by decide) (hts (.fieldLink RX3 18 "VeiledFiles$Tree" "levels" "I") (by decide +kernel)) (fun _ h9 => h9) rfl hnm rfl (by decide +kernel) rfl rfl (Nat.le_of_ble_eq_true rfl) dX3_init_20 (fun H locs hP hD hS => ?_)
  have hP : va_P D vwCl [(t, .inr (3, [.int 1, .int (nI 32), .int (nI 6), .int 0, .int 0, .null, .null, .null, .null, .null, .int 0]))] _ := hP
  have hD : va_D A [(t, .inr (3, [.int 1, .int (nI 32), .int (nI 6), .int 0, .int 0, .null, .null, .null, .null, .null, .int 0]))] := hD
  refine lv_aload_n hx hb dX3_init_23 rfl (lv_at hl 0 rfl) ?_
  refine lv_iconst (v := nI 2) hx hb dX3_init_24 (by decide) ?_
  refine lv_aload_n hx hb dX3_init_25 rfl (lv_at hl 0 rfl) ?_
  refine va_get (D := D) (ci := 3) (v := .int (nI 32)) (C := RX3) (T := TX3) (N := 11) hx hb hts (by decide +kernel) hown hK hP 0 rfl rfl 1 (by decide) (hts (.fieldLink RX3 15 "VeiledFiles$Tree" "leafCount" "I") (by decide +kernel)) (fun _ h9 => h9) rfl dX3_init_26 ?_
  refine lv_imul hx hb dX3_init_29 ?_
  refine k_t1 (show (nI 2) * (nI 32) = nI 64 from by decide +kernel) ?_
  refine lv_iconst (v := nI 1) hx hb dX3_init_30 (by decide) ?_
  refine lv_isub hx hb dX3_init_31 ?_
  refine k_t1 (show (nI 64) - (nI 1) = nI 63 from by decide +kernel) ?_
  refine va_putF (D := D) (ci := 3) (v := .int (nI 63)) (ty := .int) (C := RX3) (T := TX3) (N := 11) hx hb hts (by decide +kernel) tyX3 tyX3_ok nmX3 hown hK hP hD hS 0 rfl rfl 3 (by decide) (hts (.fieldLink RX3 21 "VeiledFiles$Tree" "buckets" "I") (by decide +kernel)) (fun _ h9 => h9) rfl hnm rfl (by decide +kernel) rfl rfl (Nat.le_of_ble_eq_true rfl) dX3_init_32 (fun H locs hP hD hS => ?_)
  have hP : va_P D vwCl [(t, .inr (3, [.int 1, .int (nI 32), .int (nI 6), .int (nI 63), .int 0, .null, .null, .null, .null, .null, .int 0]))] _ := hP
  have hD : va_D A [(t, .inr (3, [.int 1, .int (nI 32), .int (nI 6), .int (nI 63), .int 0, .null, .null, .null, .null, .null, .int 0]))] := hD
  refine lv_aload_n hx hb dX3_init_35 rfl (lv_at hl 0 rfl) ?_
  refine lv_iload_n hx hb dX3_init_36 rfl (lv_at hl 3 rfl) ?_
  refine va_putF (D := D) (ci := 3) (v := .int (nI 64)) (ty := .int) (C := RX3) (T := TX3) (N := 11) hx hb hts (by decide +kernel) tyX3 tyX3_ok nmX3 hown hK hP hD hS 0 rfl rfl 4 (by decide) (hts (.fieldLink RX3 24 "VeiledFiles$Tree" "blocks" "I") (by decide +kernel)) (fun _ h9 => h9) rfl hnm rfl (by decide +kernel) rfl rfl (Nat.le_of_ble_eq_true rfl) dX3_init_37 (fun H locs hP hD hS => ?_)
  have hP : va_P D vwCl [(t, .inr (3, [.int 1, .int (nI 32), .int (nI 6), .int (nI 63), .int (nI 64), .null, .null, .null, .null, .null, .int 0]))] _ := hP
  have hD : va_D A [(t, .inr (3, [.int 1, .int (nI 32), .int (nI 6), .int (nI 63), .int (nI 64), .null, .null, .null, .null, .null, .int 0]))] := hD
  refine lv_aload_n hx hb dX3_init_40 rfl (lv_at hl 0 rfl) ?_
  refine lv_aload_n hx hb dX3_init_41 rfl (lv_at hl 0 rfl) ?_
  refine va_get (D := D) (ci := 3) (v := .int (nI 63)) (C := RX3) (T := TX3) (N := 11) hx hb hts (by decide +kernel) hown hK hP 0 rfl rfl 3 (by decide) (hts (.fieldLink RX3 21 "VeiledFiles$Tree" "buckets" "I") (by decide +kernel)) (fun _ h9 => h9) rfl dX3_init_42 ?_
  refine lv_bipush (v := nI 25) hx hb dX3_init_45 (by decide) ?_
  refine lv_imul hx hb dX3_init_47 ?_
  refine k_t1 (show (nI 63) * (nI 25) = nI 1575 from by decide +kernel) ?_
  refine k_newI hx hb (hts (.arrayClass .int) (by decide +kernel)) hK hP hD hS hA 1575 (by decide) (Nat.le_of_ble_eq_true rfl) (Nat.le_of_ble_eq_true rfl) dX3_init_48 (fun st H hP hD hS => ?_)
  have hP : va_P D vwCl [(t, .inr (3, [.int 1, .int (nI 32), .int (nI 6), .int (nI 63), .int (nI 64), .null, .null, .null, .null, .null, .int 0])), (st, .inl (cI, 1575, .inl (fun _ => 0)))] _ := hP
  have hD : va_D A [(t, .inr (3, [.int 1, .int (nI 32), .int (nI 6), .int (nI 63), .int (nI 64), .null, .null, .null, .null, .null, .int 0])), (st, .inl (cI, 1575, .inl (fun _ => 0)))] := hD
  refine va_putF (D := D) (ci := 3) (v := .ref st) (ty := .array .int) (C := RX3) (T := TX3) (N := 11) hx hb hts (by decide +kernel) tyX3 tyX3_ok nmX3 hown hK hP hD hS 0 rfl rfl 5 (by decide) (hts (.fieldLink RX3 27 "VeiledFiles$Tree" "store" "[I") (by decide +kernel)) (fun _ h9 => h9) rfl hnm rfl (by decide +kernel) rfl rfl (Nat.le_of_ble_eq_true rfl) dX3_init_50 (fun H locs hP hD hS => ?_)
  have hP : va_P D vwCl [(t, .inr (3, [.int 1, .int (nI 32), .int (nI 6), .int (nI 63), .int (nI 64), .ref st, .null, .null, .null, .null, .int 0])), (st, .inl (cI, 1575, .inl (fun _ => 0)))] _ := hP
  have hD : va_D A [(t, .inr (3, [.int 1, .int (nI 32), .int (nI 6), .int (nI 63), .int (nI 64), .ref st, .null, .null, .null, .null, .int 0])), (st, .inl (cI, 1575, .inl (fun _ => 0)))] := hD
  refine lv_aload_n hx hb dX3_init_53 rfl (lv_at hl 0 rfl) ?_
  refine lv_aload_n hx hb dX3_init_54 rfl (lv_at hl 0 rfl) ?_
  refine va_get (D := D) (ci := 3) (v := .int (nI 63)) (C := RX3) (T := TX3) (N := 11) hx hb hts (by decide +kernel) hown hK hP 0 rfl rfl 3 (by decide) (hts (.fieldLink RX3 21 "VeiledFiles$Tree" "buckets" "I") (by decide +kernel)) (fun _ h9 => h9) rfl dX3_init_55 ?_
  refine k_newI hx hb (hts (.arrayClass .int) (by decide +kernel)) hK hP hD hS hA 63 (by decide) (Nat.le_of_ble_eq_true rfl) (Nat.le_of_ble_eq_true rfl) dX3_init_58 (fun ct H hP hD hS => ?_)
  have hP : va_P D vwCl [(t, .inr (3, [.int 1, .int (nI 32), .int (nI 6), .int (nI 63), .int (nI 64), .ref st, .null, .null, .null, .null, .int 0])), (st, .inl (cI, 1575, .inl (fun _ => 0))), (ct, .inl (cI, 63, .inl (fun _ => 0)))] _ := hP
  have hD : va_D A [(t, .inr (3, [.int 1, .int (nI 32), .int (nI 6), .int (nI 63), .int (nI 64), .ref st, .null, .null, .null, .null, .int 0])), (st, .inl (cI, 1575, .inl (fun _ => 0))), (ct, .inl (cI, 63, .inl (fun _ => 0)))] := hD
  refine va_putF (D := D) (ci := 3) (v := .ref ct) (ty := .array .int) (C := RX3) (T := TX3) (N := 11) hx hb hts (by decide +kernel) tyX3 tyX3_ok nmX3 hown hK hP hD hS 0 rfl rfl 6 (by decide) (hts (.fieldLink RX3 31 "VeiledFiles$Tree" "counters" "[I") (by decide +kernel)) (fun _ h9 => h9) rfl hnm rfl (by decide +kernel) rfl rfl (Nat.le_of_ble_eq_true rfl) dX3_init_60 (fun H locs hP hD hS => ?_)
  have hP : va_P D vwCl [(t, .inr (3, [.int 1, .int (nI 32), .int (nI 6), .int (nI 63), .int (nI 64), .ref st, .ref ct, .null, .null, .null, .int 0])), (st, .inl (cI, 1575, .inl (fun _ => 0))), (ct, .inl (cI, 63, .inl (fun _ => 0)))] _ := hP
  have hD : va_D A [(t, .inr (3, [.int 1, .int (nI 32), .int (nI 6), .int (nI 63), .int (nI 64), .ref st, .ref ct, .null, .null, .null, .int 0])), (st, .inl (cI, 1575, .inl (fun _ => 0))), (ct, .inl (cI, 63, .inl (fun _ => 0)))] := hD
  refine lv_aload_n hx hb dX3_init_63 rfl (lv_at hl 0 rfl) ?_
  refine lv_iload_n hx hb dX3_init_64 rfl (lv_at hl 3 rfl) ?_
  refine k_newZ hx hb (hts (.arrayClass .boolean) (by decide +kernel)) hK hP hD hS hA 64 (by decide) (Nat.le_of_ble_eq_true rfl) (Nat.le_of_ble_eq_true rfl) dX3_init_65 (fun hd H hP hD hS => ?_)
  have hP : va_P D vwCl [(t, .inr (3, [.int 1, .int (nI 32), .int (nI 6), .int (nI 63), .int (nI 64), .ref st, .ref ct, .null, .null, .null, .int 0])), (st, .inl (cI, 1575, .inl (fun _ => 0))), (ct, .inl (cI, 63, .inl (fun _ => 0))), (hd, .inl (cZ, 64, .inl (fun _ => 0)))] _ := hP
  have hD : va_D A [(t, .inr (3, [.int 1, .int (nI 32), .int (nI 6), .int (nI 63), .int (nI 64), .ref st, .ref ct, .null, .null, .null, .int 0])), (st, .inl (cI, 1575, .inl (fun _ => 0))), (ct, .inl (cI, 63, .inl (fun _ => 0))), (hd, .inl (cZ, 64, .inl (fun _ => 0)))] := hD
  refine va_putF (D := D) (ci := 3) (v := .ref hd) (ty := .array .boolean) (C := RX3) (T := TX3) (N := 11) hx hb hts (by decide +kernel) tyX3 tyX3_ok nmX3 hown hK hP hD hS 0 rfl rfl 7 (by decide) (hts (.fieldLink RX3 34 "VeiledFiles$Tree" "held" "[Z") (by decide +kernel)) (fun _ h9 => h9) rfl hnm rfl (by decide +kernel) rfl rfl (Nat.le_of_ble_eq_true rfl) dX3_init_67 (fun H locs hP hD hS => ?_)
  have hP : va_P D vwCl [(t, .inr (3, [.int 1, .int (nI 32), .int (nI 6), .int (nI 63), .int (nI 64), .ref st, .ref ct, .ref hd, .null, .null, .int 0])), (st, .inl (cI, 1575, .inl (fun _ => 0))), (ct, .inl (cI, 63, .inl (fun _ => 0))), (hd, .inl (cZ, 64, .inl (fun _ => 0)))] _ := hP
  have hD : va_D A [(t, .inr (3, [.int 1, .int (nI 32), .int (nI 6), .int (nI 63), .int (nI 64), .ref st, .ref ct, .ref hd, .null, .null, .int 0])), (st, .inl (cI, 1575, .inl (fun _ => 0))), (ct, .inl (cI, 63, .inl (fun _ => 0))), (hd, .inl (cZ, 64, .inl (fun _ => 0)))] := hD
  refine lv_aload_n hx hb dX3_init_70 rfl (lv_at hl 0 rfl) ?_
  refine lv_iload_n hx hb dX3_init_71 rfl (lv_at hl 3 rfl) ?_
  refine k_newI hx hb (hts (.arrayClass .int) (by decide +kernel)) hK hP hD hS hA 64 (by decide) (Nat.le_of_ble_eq_true rfl) (Nat.le_of_ble_eq_true rfl) dX3_init_72 (fun lv H hP hD hS => ?_)
  have hP : va_P D vwCl [(t, .inr (3, [.int 1, .int (nI 32), .int (nI 6), .int (nI 63), .int (nI 64), .ref st, .ref ct, .ref hd, .null, .null, .int 0])), (st, .inl (cI, 1575, .inl (fun _ => 0))), (ct, .inl (cI, 63, .inl (fun _ => 0))), (hd, .inl (cZ, 64, .inl (fun _ => 0))), (lv, .inl (cI, 64, .inl (fun _ => 0)))] _ := hP
  have hD : va_D A [(t, .inr (3, [.int 1, .int (nI 32), .int (nI 6), .int (nI 63), .int (nI 64), .ref st, .ref ct, .ref hd, .null, .null, .int 0])), (st, .inl (cI, 1575, .inl (fun _ => 0))), (ct, .inl (cI, 63, .inl (fun _ => 0))), (hd, .inl (cZ, 64, .inl (fun _ => 0))), (lv, .inl (cI, 64, .inl (fun _ => 0)))] := hD
  refine va_putF (D := D) (ci := 3) (v := .ref lv) (ty := .array .int) (C := RX3) (T := TX3) (N := 11) hx hb hts (by decide +kernel) tyX3 tyX3_ok nmX3 hown hK hP hD hS 0 rfl rfl 8 (by decide) (hts (.fieldLink RX3 38 "VeiledFiles$Tree" "leaves" "[I") (by decide +kernel)) (fun _ h9 => h9) rfl hnm rfl (by decide +kernel) rfl rfl (Nat.le_of_ble_eq_true rfl) dX3_init_74 (fun H locs hP hD hS => ?_)
  have hP : va_P D vwCl [(t, .inr (3, [.int 1, .int (nI 32), .int (nI 6), .int (nI 63), .int (nI 64), .ref st, .ref ct, .ref hd, .ref lv, .null, .int 0])), (st, .inl (cI, 1575, .inl (fun _ => 0))), (ct, .inl (cI, 63, .inl (fun _ => 0))), (hd, .inl (cZ, 64, .inl (fun _ => 0))), (lv, .inl (cI, 64, .inl (fun _ => 0)))] _ := hP
  have hD : va_D A [(t, .inr (3, [.int 1, .int (nI 32), .int (nI 6), .int (nI 63), .int (nI 64), .ref st, .ref ct, .ref hd, .ref lv, .null, .int 0])), (st, .inl (cI, 1575, .inl (fun _ => 0))), (ct, .inl (cI, 63, .inl (fun _ => 0))), (hd, .inl (cZ, 64, .inl (fun _ => 0))), (lv, .inl (cI, 64, .inl (fun _ => 0)))] := hD
  refine lv_aload_n hx hb dX3_init_77 rfl (lv_at hl 0 rfl) ?_
  refine lv_iload_n hx hb dX3_init_78 rfl (lv_at hl 3 rfl) ?_
  refine lv_iconst (v := nI 4) hx hb dX3_init_79 (by decide) ?_
  refine lv_imul hx hb dX3_init_80 ?_
  refine k_t1 (show (nI 64) * (nI 4) = nI 256 from by decide +kernel) ?_
  refine k_newI hx hb (hts (.arrayClass .int) (by decide +kernel)) hK hP hD hS hA 256 (by decide) (Nat.le_of_ble_eq_true rfl) (Nat.le_of_ble_eq_true rfl) dX3_init_81 (fun wd H hP hD hS => ?_)
  have hP : va_P D vwCl [(t, .inr (3, [.int 1, .int (nI 32), .int (nI 6), .int (nI 63), .int (nI 64), .ref st, .ref ct, .ref hd, .ref lv, .null, .int 0])), (st, .inl (cI, 1575, .inl (fun _ => 0))), (ct, .inl (cI, 63, .inl (fun _ => 0))), (hd, .inl (cZ, 64, .inl (fun _ => 0))), (lv, .inl (cI, 64, .inl (fun _ => 0))), (wd, .inl (cI, 256, .inl (fun _ => 0)))] _ := hP
  have hD : va_D A [(t, .inr (3, [.int 1, .int (nI 32), .int (nI 6), .int (nI 63), .int (nI 64), .ref st, .ref ct, .ref hd, .ref lv, .null, .int 0])), (st, .inl (cI, 1575, .inl (fun _ => 0))), (ct, .inl (cI, 63, .inl (fun _ => 0))), (hd, .inl (cZ, 64, .inl (fun _ => 0))), (lv, .inl (cI, 64, .inl (fun _ => 0))), (wd, .inl (cI, 256, .inl (fun _ => 0)))] := hD
  refine va_putF (D := D) (ci := 3) (v := .ref wd) (ty := .array .int) (C := RX3) (T := TX3) (N := 11) hx hb hts (by decide +kernel) tyX3 tyX3_ok nmX3 hown hK hP hD hS 0 rfl rfl 9 (by decide) (hts (.fieldLink RX3 41 "VeiledFiles$Tree" "words" "[I") (by decide +kernel)) (fun _ h9 => h9) rfl hnm rfl (by decide +kernel) rfl rfl (Nat.le_of_ble_eq_true rfl) dX3_init_83 (fun H locs hP hD hS => ?_)
  have hP : va_P D vwCl [(t, .inr (3, [.int 1, .int (nI 32), .int (nI 6), .int (nI 63), .int (nI 64), .ref st, .ref ct, .ref hd, .ref lv, .ref wd, .int 0])), (st, .inl (cI, 1575, .inl (fun _ => 0))), (ct, .inl (cI, 63, .inl (fun _ => 0))), (hd, .inl (cZ, 64, .inl (fun _ => 0))), (lv, .inl (cI, 64, .inl (fun _ => 0))), (wd, .inl (cI, 256, .inl (fun _ => 0)))] _ := hP
  have hD : va_D A [(t, .inr (3, [.int 1, .int (nI 32), .int (nI 6), .int (nI 63), .int (nI 64), .ref st, .ref ct, .ref hd, .ref lv, .ref wd, .int 0])), (st, .inl (cI, 1575, .inl (fun _ => 0))), (ct, .inl (cI, 63, .inl (fun _ => 0))), (hd, .inl (cZ, 64, .inl (fun _ => 0))), (lv, .inl (cI, 64, .inl (fun _ => 0))), (wd, .inl (cI, 256, .inl (fun _ => 0)))] := hD
  exact k_retv (st, ct, hd, lv, wd) hx hb hr hK hS hlk dX3_init_86 hP hD (trivial) hQ

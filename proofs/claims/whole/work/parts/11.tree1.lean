/-! VeiledFiles.Tree: its world and its methods -/
/-- the two trees there are -/
def TP (lc lvs nb nk : Nat) : Prop := (lc = 4 ∧ lvs = 3 ∧ nb = 7 ∧ nk = 8) ∨ (lc = 32 ∧ lvs = 6 ∧ nb = 63 ∧ nk = 64)
theorem TP.bd {lc lvs nb nk : Nat} (h : TP lc lvs nb nk) : lc ≤ 32 ∧ lvs ≤ 6 ∧ nb ≤ 63 ∧ nk ≤ 64 ∧ 4 ≤ lc ∧ 3 ≤ lvs ∧ 7 ≤ nb ∧ 8 ≤ nk ∧ nb + 1 = 2 * lc := by
  unfold TP at h; omega
abbrev wT (cI cZ cJ : ClassId) (t : Nat) (st : Nat) (ct : Nat) (hd : Nat) (lv : Nat) (wd : Nat) (num : Int32) (lc : Nat) (lvs : Nat) (nb : Nat) (nk : Nat) (key : Int32) (S : Nat → Nat → Int32) (C : Nat → Int32) (O : Nat → Int32) (L : Nat → Int32) (Wd : Nat → Nat → Int32) : va_W := [(t, .inr (3, [.int num, .int (nI lc), .int (nI lvs), .int (nI nb), .int (nI nk), .ref st, .ref ct, .ref hd, .ref lv, .ref wd, .int key])), (st, .inl (cI, 25 * nb, .inl (fl25 S))), (ct, .inl (cI, nb, .inl C)), (hd, .inl (cZ, nk, .inl O)), (lv, .inl (cI, nk, .inl L)), (wd, .inl (cI, 4 * nk, .inl (fl4 Wd)))]
abbrev wN (cI cZ cJ : ClassId)  : va_W := []
theorem k_shr {a u : Nat} (ha : a < 2 ^ 30) (hu : u < 31) : nI a >>> (nI u &&& 31) = nI (a / 2 ^ u) := by
  refine pk_shrN (by omega) _ u ?_
  have h : ∀ n : Nat, n < 32 → ((nI n &&& 31).toBitVec.smod 32).toNat = n := by decide +kernel
  exact h u (by omega)
theorem k_path {lc lvs nb nk l0 up : Nat} (hT : TP lc lvs nb nk) (hl : l0 < lc) (hu : up < lvs) : nI ((lc + l0) / 2 ^ up) - nI 1 = nI (pathB lc l0 up) := by
  unfold pathB
  refine pk_sub ?_
  have h1 : 2 ^ up ≤ lc := by
    rcases hT with ⟨rfl, rfl, -, -⟩ | ⟨rfl, rfl, -, -⟩
    · exact Nat.le_trans (Nat.pow_le_pow_right (by decide) (by omega : up ≤ 2)) (by decide)
    · exact Nat.le_trans (Nat.pow_le_pow_right (by decide) (by omega : up ≤ 5)) (by decide)
  exact (Nat.le_div_iff_mul_le (Nat.two_pow_pos up)).mpr (by omega)
/-- the bucket on a path is one of the tree's -/
theorem pathB_lt {lc lvs nb nk l0 up : Nat} (hT : TP lc lvs nb nk) (hl : l0 < lc) : pathB lc l0 up < nb := by
  have hq := hT.bd
  have h1 : (lc + l0) / 2 ^ up ≤ lc + l0 := Nat.div_le_self _ _
  unfold pathB; omega
set_option maxHeartbeats 800000 in
set_option maxRecDepth 100000 in
theorem c_pad (l : Launch) (D : va_G) (cI cZ cJ : ClassId) (t : Nat) (st : Nat) (ct : Nat) (hd : Nat) (lv : Nat) (wd : Nat) (num : Int32) (lc : Nat) (lvs : Nat) (nb : Nat) (nk : Nat) (key : Int32) (S : Nat → Nat → Int32) (C : Nat → Int32) (O : Nat → Int32) (L : Nat → Int32) (Wd : Nat → Nat → Int32) (b i : Nat) (hT : TP lc lvs nb nk) (hb0 : b < nb) : KI l yX3_pad wsX3_pad ({ frames := 0, cells := 0, slots := 0, locals := 0 }) D (kty cI cZ cJ) [.ref t, .int (nI b), .int (nI i)] (wT cI cZ cJ t st ct hd lv wd num lc lvs nb nk key S C O L Wd) (fun r (_ : Unit) => r = padF key num (C b) b i) (fun _ : Unit => (wT cI cZ cJ t st ct hd lv wd num lc lvs nb nk key S C O L Wd)) 0 0 := by
  refine k_headI (cc := cX3_pad) (maxL := 4) (ret := (some .int)) (by decide) rfl (Nat.le_of_ble_eq_true rfl) ?_
  intro p e s m below meth c A ls args Q hx hb hr hml hts hown hlk hnm hA hK hP hD hS hl hQ
  have hq := hT.bd
  have hl : lv_has ls 4 [(0, .ref t), (1, .int (nI b)), (2, .int (nI i))] := hl
  refine lv_aload_n hx hb dX3_pad_0 rfl (lv_at hl 0 rfl) ?_
  refine va_get (D := D) (ci := 3) (v := .int key) (C := RX3) (T := TX3) (N := 11) hx hb hts (by decide +kernel) hown hK hP 0 rfl rfl 10 (by decide) (hts (.fieldLink RX3 44 "VeiledFiles$Tree" "key" "I") (by decide +kernel)) (fun _ h9 => h9) rfl dX3_pad_1 ?_
  refine lv_bipush (v := nI 64) hx hb dX3_pad_4 (by decide) ?_
  refine lv_aload_n hx hb dX3_pad_6 rfl (lv_at hl 0 rfl) ?_
  refine va_get (D := D) (ci := 3) (v := .int num) (C := RX3) (T := TX3) (N := 11) hx hb hts (by decide +kernel) hown hK hP 0 rfl rfl 0 (by decide) (hts (.fieldLink RX3 9 "VeiledFiles$Tree" "number" "I") (by decide +kernel)) (fun _ h9 => h9) rfl dX3_pad_7 ?_
  refine lv_imul hx hb dX3_pad_10 ?_
  refine lv_iload_n hx hb dX3_pad_11 rfl (lv_at hl 1 rfl) ?_
  refine lv_iadd hx hb dX3_pad_12 ?_
  refine lv_iconst (v := nI 1) hx hb dX3_pad_13 (by decide) ?_
  refine lv_iadd hx hb dX3_pad_14 ?_
  refine lv_ldc (v := -1640531535) hx hb hown (hts (.constant RX3 105 (-1640531535)) (by decide +kernel)) dX3_pad_15 ?_
  refine lv_imul hx hb dX3_pad_17 ?_
  refine lv_ixor hx hb dX3_pad_18 ?_
  refine lv_aload_n hx hb dX3_pad_19 rfl (lv_at hl 0 rfl) ?_
  refine va_get (D := D) (ci := 3) (v := .ref ct) (C := RX3) (T := TX3) (N := 11) hx hb hts (by decide +kernel) hown hK hP 0 rfl rfl 6 (by decide) (hts (.fieldLink RX3 31 "VeiledFiles$Tree" "counters" "[I") (by decide +kernel)) (fun _ h9 => h9) rfl dX3_pad_20 ?_
  refine lv_iload_n hx hb dX3_pad_23 rfl (lv_at hl 1 rfl) ?_
  refine k_iald hx hb hK hP 2 0 rfl rfl b (by omega) (by omega) (v := C b) (rfl) dX3_pad_24 ?_
  refine lv_ldc (v := -2048144777) hx hb hown (hts (.constant RX3 106 (-2048144777)) (by decide +kernel)) dX3_pad_25 ?_
  refine lv_imul hx hb dX3_pad_27 ?_
  refine lv_ixor hx hb dX3_pad_28 ?_
  refine lv_iload_n hx hb dX3_pad_29 rfl (lv_at hl 2 rfl) ?_
  refine lv_iconst (v := nI 1) hx hb dX3_pad_30 (by decide) ?_
  refine lv_iadd hx hb dX3_pad_31 ?_
  refine lv_ldc (v := -1028477379) hx hb hown (hts (.constant RX3 107 (-1028477379)) (by decide +kernel)) dX3_pad_32 ?_
  refine lv_imul hx hb dX3_pad_34 ?_
  refine lv_ixor hx hb dX3_pad_35 ?_
  refine lv_topi (fun h0 eh0 => ?_)
  refine lv_istore_n (lv' := [(3, .int h0), (0, .ref t), (1, .int (nI b)), (2, .int (nI i))]) hx hb dX3_pad_36 rfl hl (by decide) rfl (fun ls hl => ?_)
  refine lv_iload_n hx hb dX3_pad_37 rfl (lv_at hl 0 rfl) ?_
  refine lv_iload_n hx hb dX3_pad_38 rfl (lv_at hl 0 rfl) ?_
  refine lv_bipush (v := nI 15) hx hb dX3_pad_39 (by decide) ?_
  refine lv_iushr (v := ush h0 (nI 15)) hx hb dX3_pad_41 rfl ?_
  refine lv_ixor hx hb dX3_pad_42 ?_
  refine lv_topi (fun h1 eh1 => ?_)
  refine lv_istore_n (lv' := [(3, .int h1), (0, .ref t), (1, .int (nI b)), (2, .int (nI i))]) hx hb dX3_pad_43 rfl hl (by decide) rfl (fun ls hl => ?_)
  refine lv_iload_n hx hb dX3_pad_44 rfl (lv_at hl 0 rfl) ?_
  refine lv_ldc (v := 739982445) hx hb hown (hts (.constant RX3 108 (739982445)) (by decide +kernel)) dX3_pad_45 ?_
  refine lv_imul hx hb dX3_pad_47 ?_
  refine lv_topi (fun h2 eh2 => ?_)
  refine lv_istore_n (lv' := [(3, .int h2), (0, .ref t), (1, .int (nI b)), (2, .int (nI i))]) hx hb dX3_pad_48 rfl hl (by decide) rfl (fun ls hl => ?_)
  refine lv_iload_n hx hb dX3_pad_49 rfl (lv_at hl 0 rfl) ?_
  refine lv_iload_n hx hb dX3_pad_50 rfl (lv_at hl 0 rfl) ?_
  refine lv_bipush (v := nI 12) hx hb dX3_pad_51 (by decide) ?_
  refine lv_iushr (v := ush h2 (nI 12)) hx hb dX3_pad_53 rfl ?_
  refine lv_ixor hx hb dX3_pad_54 ?_
  refine lv_topi (fun h3 eh3 => ?_)
  refine lv_istore_n (lv' := [(3, .int h3), (0, .ref t), (1, .int (nI b)), (2, .int (nI i))]) hx hb dX3_pad_55 rfl hl (by decide) rfl (fun ls hl => ?_)
  refine lv_iload_n hx hb dX3_pad_56 rfl (lv_at hl 0 rfl) ?_
  refine lv_ldc (v := 695872825) hx hb hown (hts (.constant RX3 109 (695872825)) (by decide +kernel)) dX3_pad_57 ?_
  refine lv_imul hx hb dX3_pad_59 ?_
  refine lv_topi (fun h4 eh4 => ?_)
  refine lv_istore_n (lv' := [(3, .int h4), (0, .ref t), (1, .int (nI b)), (2, .int (nI i))]) hx hb dX3_pad_60 rfl hl (by decide) rfl (fun ls hl => ?_)
  refine lv_iload_n hx hb dX3_pad_61 rfl (lv_at hl 0 rfl) ?_
  refine lv_iload_n hx hb dX3_pad_62 rfl (lv_at hl 0 rfl) ?_
  refine lv_bipush (v := nI 15) hx hb dX3_pad_63 (by decide) ?_
  refine lv_iushr (v := ush h4 (nI 15)) hx hb dX3_pad_65 rfl ?_
  refine lv_ixor hx hb dX3_pad_66 ?_
  refine lv_istore_n (lv' := [(3, .int (h4 ^^^ (ush h4 (nI 15)))), (0, .ref t), (1, .int (nI b)), (2, .int (nI i))]) hx hb dX3_pad_67 rfl hl (by decide) rfl (fun ls hl => ?_)
  refine lv_iload_n hx hb dX3_pad_68 rfl (lv_at hl 0 rfl) ?_
  exact k_reti () hx hb hr hK hS hlk dX3_pad_69 hP hD (by subst eh4; subst eh3; subst eh2; subst eh1; subst eh0; rfl) hQ

set_option maxHeartbeats 800000 in
set_option maxRecDepth 100000 in
theorem c_slotStart (l : Launch) (D : va_G) (cI cZ cJ : ClassId)  (b sl : Nat)  : KI l yX3_slotStart wsX3_slotStart ({ frames := 0, cells := 0, slots := 0, locals := 0 }) D (kty cI cZ cJ) [.int (nI b), .int (nI sl)] (wN cI cZ cJ ) (fun r (_ : Unit) => r = nI (25 * b + 6 * sl)) (fun _ : Unit => (wN cI cZ cJ )) 0 0 := by
  refine k_headI (cc := cX3_slotStart) (maxL := 2) (ret := (some .int)) (by decide) rfl (Nat.le_of_ble_eq_true rfl) ?_
  intro p e s m below meth c A ls args Q hx hb hr hml hts hown hlk hnm hA hK hP hD hS hl hQ
  have hl : lv_has ls 2 [(0, .int (nI b)), (1, .int (nI sl))] := hl
  refine lv_iload_n hx hb dX3_slotStart_0 rfl (lv_at hl 0 rfl) ?_
  refine lv_bipush (v := nI 25) hx hb dX3_slotStart_1 (by decide) ?_
  refine lv_imul hx hb dX3_slotStart_3 ?_
  refine k_t1 (show (nI b) * (nI 25) = nI (b * 25) from pk_mul _ _) ?_
  refine lv_iload_n hx hb dX3_slotStart_4 rfl (lv_at hl 1 rfl) ?_
  refine lv_bipush (v := nI 6) hx hb dX3_slotStart_5 (by decide) ?_
  refine lv_imul hx hb dX3_slotStart_7 ?_
  refine k_t1 (show (nI sl) * (nI 6) = nI (sl * 6) from pk_mul _ _) ?_
  refine lv_iadd hx hb dX3_slotStart_8 ?_
  refine k_t1 (show (nI (b * 25)) + (nI (sl * 6)) = nI (b * 25 + (sl * 6)) from nI_add _ _) ?_
  refine k_t1 (show nI (b * 25 + (sl * 6)) = nI (25 * b + 6 * sl) from congrArg nI (by omega)) ?_
  exact k_reti () hx hb hr hK hS hlk dX3_slotStart_9 hP hD (rfl) hQ

set_option maxHeartbeats 800000 in
set_option maxRecDepth 100000 in
theorem c_bucketOver (l : Launch) (D : va_G) (cI cZ cJ : ClassId) (t : Nat) (st : Nat) (ct : Nat) (hd : Nat) (lv : Nat) (wd : Nat) (num : Int32) (lc : Nat) (lvs : Nat) (nb : Nat) (nk : Nat) (key : Int32) (S : Nat → Nat → Int32) (C : Nat → Int32) (O : Nat → Int32) (L : Nat → Int32) (Wd : Nat → Nat → Int32) (l0 up : Nat) (hT : TP lc lvs nb nk) (hl0 : l0 < lc) (hup : up < lvs) : KI l yX3_bucketOver wsX3_bucketOver ({ frames := 0, cells := 0, slots := 0, locals := 0 }) D (kty cI cZ cJ) [.ref t, .int (nI l0), .int (nI up)] (wT cI cZ cJ t st ct hd lv wd num lc lvs nb nk key S C O L Wd) (fun r (_ : Unit) => r = nI (pathB lc l0 up)) (fun _ : Unit => (wT cI cZ cJ t st ct hd lv wd num lc lvs nb nk key S C O L Wd)) 0 0 := by
  refine k_headI (cc := cX3_bucketOver) (maxL := 3) (ret := (some .int)) (by decide) rfl (Nat.le_of_ble_eq_true rfl) ?_
  intro p e s m below meth c A ls args Q hx hb hr hml hts hown hlk hnm hA hK hP hD hS hl hQ
  have hq := hT.bd
  have hl : lv_has ls 3 [(0, .ref t), (1, .int (nI l0)), (2, .int (nI up))] := hl
  refine lv_aload_n hx hb dX3_bucketOver_0 rfl (lv_at hl 0 rfl) ?_
  refine va_get (D := D) (ci := 3) (v := .int (nI lc)) (C := RX3) (T := TX3) (N := 11) hx hb hts (by decide +kernel) hown hK hP 0 rfl rfl 1 (by decide) (hts (.fieldLink RX3 15 "VeiledFiles$Tree" "leafCount" "I") (by decide +kernel)) (fun _ h9 => h9) rfl dX3_bucketOver_1 ?_
  refine lv_iload_n hx hb dX3_bucketOver_4 rfl (lv_at hl 1 rfl) ?_
  refine lv_iadd hx hb dX3_bucketOver_5 ?_
  refine k_t1 (show (nI lc) + (nI l0) = nI (lc + l0) from nI_add _ _) ?_
  refine lv_iload_n hx hb dX3_bucketOver_6 rfl (lv_at hl 2 rfl) ?_
  refine lv_ishr hx hb dX3_bucketOver_7 ?_
  refine k_t1 (show (nI (lc + l0)) >>> ((nI up) &&& 31) = nI ((lc + l0) / 2 ^ up) from k_shr (by omega) (by omega)) ?_
  refine lv_iconst (v := nI 1) hx hb dX3_bucketOver_8 (by decide) ?_
  refine lv_isub hx hb dX3_bucketOver_9 ?_
  refine k_t1 (show (nI ((lc + l0) / 2 ^ up)) - (nI 1) = nI (pathB lc l0 up) from k_path hT hl0 hup) ?_
  exact k_reti () hx hb hr hK hS hlk dX3_bucketOver_10 hP hD (rfl) hQ

set_option maxHeartbeats 800000 in
set_option maxRecDepth 100000 in
theorem c_wordOf (l : Launch) (D : va_G) (cI cZ cJ : ClassId) (t : Nat) (st : Nat) (ct : Nat) (hd : Nat) (lv : Nat) (wd : Nat) (num : Int32) (lc : Nat) (lvs : Nat) (nb : Nat) (nk : Nat) (key : Int32) (S : Nat → Nat → Int32) (C : Nat → Int32) (O : Nat → Int32) (L : Nat → Int32) (Wd : Nat → Nat → Int32) (n i : Nat) (hT : TP lc lvs nb nk) (hn : n < nk) (hi : i < 4) : KI l yX3_wordOf wsX3_wordOf ({ frames := 0, cells := 0, slots := 0, locals := 0 }) D (kty cI cZ cJ) [.ref t, .int (nI n), .int (nI i)] (wT cI cZ cJ t st ct hd lv wd num lc lvs nb nk key S C O L Wd) (fun r (_ : Unit) => r = Wd n i) (fun _ : Unit => (wT cI cZ cJ t st ct hd lv wd num lc lvs nb nk key S C O L Wd)) 0 0 := by
  refine k_headI (cc := cX3_wordOf) (maxL := 3) (ret := (some .int)) (by decide) rfl (Nat.le_of_ble_eq_true rfl) ?_
  intro p e s m below meth c A ls args Q hx hb hr hml hts hown hlk hnm hA hK hP hD hS hl hQ
  have hq := hT.bd
  have hl : lv_has ls 3 [(0, .ref t), (1, .int (nI n)), (2, .int (nI i))] := hl
  refine lv_aload_n hx hb dX3_wordOf_0 rfl (lv_at hl 0 rfl) ?_
  refine va_get (D := D) (ci := 3) (v := .ref wd) (C := RX3) (T := TX3) (N := 11) hx hb hts (by decide +kernel) hown hK hP 0 rfl rfl 9 (by decide) (hts (.fieldLink RX3 41 "VeiledFiles$Tree" "words" "[I") (by decide +kernel)) (fun _ h9 => h9) rfl dX3_wordOf_1 ?_
  refine lv_iload_n hx hb dX3_wordOf_4 rfl (lv_at hl 1 rfl) ?_
  refine lv_iconst (v := nI 4) hx hb dX3_wordOf_5 (by decide) ?_
  refine lv_imul hx hb dX3_wordOf_6 ?_
  refine k_t1 (show (nI n) * (nI 4) = nI (n * 4) from pk_mul _ _) ?_
  refine lv_iload_n hx hb dX3_wordOf_7 rfl (lv_at hl 2 rfl) ?_
  refine lv_iadd hx hb dX3_wordOf_8 ?_
  refine k_t1 (show (nI (n * 4)) + (nI i) = nI (n * 4 + i) from nI_add _ _) ?_
  refine k_iald hx hb hK hP 5 0 rfl rfl (n * 4 + i) (by omega) (by omega) (v := Wd n i) (fl4_eq (by omega) hi) dX3_wordOf_9 ?_
  exact k_reti () hx hb hr hK hS hlk dX3_wordOf_10 hP hD (rfl) hQ

set_option maxHeartbeats 800000 in
set_option maxRecDepth 100000 in
theorem c_setWord (l : Launch) (D : va_G) (cI cZ cJ : ClassId) (t : Nat) (st : Nat) (ct : Nat) (hd : Nat) (lv : Nat) (wd : Nat) (num : Int32) (lc : Nat) (lvs : Nat) (nb : Nat) (nk : Nat) (key : Int32) (S : Nat → Nat → Int32) (C : Nat → Int32) (O : Nat → Int32) (L : Nat → Int32) (Wd : Nat → Nat → Int32) (n i : Nat) (v : Int32) (hT : TP lc lvs nb nk) (hn : n < nk) (hi : i < 4) : KV l yX3_setWord wsX3_setWord ({ frames := 0, cells := 0, slots := 0, locals := 0 }) D (kty cI cZ cJ) [.ref t, .int (nI n), .int (nI i), .int v] (wT cI cZ cJ t st ct hd lv wd num lc lvs nb nk key S C O L Wd) (fun (_ : Unit) => True) (fun _ : Unit => (wT cI cZ cJ t st ct hd lv wd num lc lvs nb nk key S C O L (setRow Wd n (upd (Wd n) i v)))) 0 0 := by
  refine k_headV (cc := cX3_setWord) (maxL := 4) (ret := none) (by decide) rfl (Nat.le_of_ble_eq_true rfl) ?_
  intro p e s m below meth c A ls args Q hx hb hr hml hts hown hlk hnm hA hK hP hD hS hl hQ
  have hq := hT.bd
  have hl : lv_has ls 4 [(0, .ref t), (1, .int (nI n)), (2, .int (nI i)), (3, .int v)] := hl
  refine lv_aload_n hx hb dX3_setWord_0 rfl (lv_at hl 0 rfl) ?_
  refine va_get (D := D) (ci := 3) (v := .ref wd) (C := RX3) (T := TX3) (N := 11) hx hb hts (by decide +kernel) hown hK hP 0 rfl rfl 9 (by decide) (hts (.fieldLink RX3 41 "VeiledFiles$Tree" "words" "[I") (by decide +kernel)) (fun _ h9 => h9) rfl dX3_setWord_1 ?_
  refine lv_iload_n hx hb dX3_setWord_4 rfl (lv_at hl 1 rfl) ?_
  refine lv_iconst (v := nI 4) hx hb dX3_setWord_5 (by decide) ?_
  refine lv_imul hx hb dX3_setWord_6 ?_
  refine k_t1 (show (nI n) * (nI 4) = nI (n * 4) from pk_mul _ _) ?_
  refine lv_iload_n hx hb dX3_setWord_7 rfl (lv_at hl 2 rfl) ?_
  refine lv_iadd hx hb dX3_setWord_8 ?_
  refine k_t1 (show (nI (n * 4)) + (nI i) = nI (n * 4 + i) from nI_add _ _) ?_
  refine lv_iload_n hx hb dX3_setWord_9 rfl (lv_at hl 3 rfl) ?_
  refine k_iast hx hb hK hP hD hS 5 0 rfl rfl (n * 4 + i) (by omega) (by omega) (g := fl4 (setRow Wd n (upd (Wd n) i v))) (fl4_up (by omega) hi) dX3_setWord_10 (fun H locs hP hD hS => ?_)
  have hP : va_P D vwCl (wT cI cZ cJ t st ct hd lv wd num lc lvs nb nk key S C O L (setRow Wd n (upd (Wd n) i v))) _ := hP
  have hD : va_D A (wT cI cZ cJ t st ct hd lv wd num lc lvs nb nk key S C O L (setRow Wd n (upd (Wd n) i v))) := hD
  exact k_retv () hx hb hr hK hS hlk dX3_setWord_11 hP hD (trivial) hQ

set_option maxHeartbeats 800000 in
set_option maxRecDepth 100000 in
theorem c_moveTo (l : Launch) (D : va_G) (cI cZ cJ : ClassId) (t : Nat) (st : Nat) (ct : Nat) (hd : Nat) (lv : Nat) (wd : Nat) (num : Int32) (lc : Nat) (lvs : Nat) (nb : Nat) (nk : Nat) (key : Int32) (S : Nat → Nat → Int32) (C : Nat → Int32) (O : Nat → Int32) (L : Nat → Int32) (Wd : Nat → Nat → Int32) (n : Nat) (v : Int32) (hT : TP lc lvs nb nk) (hn : n < nk) : KV l yX3_moveTo wsX3_moveTo ({ frames := 0, cells := 0, slots := 0, locals := 0 }) D (kty cI cZ cJ) [.ref t, .int (nI n), .int v] (wT cI cZ cJ t st ct hd lv wd num lc lvs nb nk key S C O L Wd) (fun (_ : Unit) => True) (fun _ : Unit => (wT cI cZ cJ t st ct hd lv wd num lc lvs nb nk key S C O (upd L n v) Wd)) 0 0 := by
  refine k_headV (cc := cX3_moveTo) (maxL := 3) (ret := none) (by decide) rfl (Nat.le_of_ble_eq_true rfl) ?_
  intro p e s m below meth c A ls args Q hx hb hr hml hts hown hlk hnm hA hK hP hD hS hl hQ
  have hq := hT.bd
  have hl : lv_has ls 3 [(0, .ref t), (1, .int (nI n)), (2, .int v)] := hl
  refine lv_aload_n hx hb dX3_moveTo_0 rfl (lv_at hl 0 rfl) ?_
  refine va_get (D := D) (ci := 3) (v := .ref lv) (C := RX3) (T := TX3) (N := 11) hx hb hts (by decide +kernel) hown hK hP 0 rfl rfl 8 (by decide) (hts (.fieldLink RX3 38 "VeiledFiles$Tree" "leaves" "[I") (by decide +kernel)) (fun _ h9 => h9) rfl dX3_moveTo_1 ?_
  refine lv_iload_n hx hb dX3_moveTo_4 rfl (lv_at hl 1 rfl) ?_
  refine lv_iload_n hx hb dX3_moveTo_5 rfl (lv_at hl 2 rfl) ?_
  refine k_iast hx hb hK hP hD hS 4 0 rfl rfl n (by omega) (by omega) (g := (upd L n v)) (rfl) dX3_moveTo_6 (fun H locs hP hD hS => ?_)
  have hP : va_P D vwCl (wT cI cZ cJ t st ct hd lv wd num lc lvs nb nk key S C O (upd L n v) Wd) _ := hP
  have hD : va_D A (wT cI cZ cJ t st ct hd lv wd num lc lvs nb nk key S C O (upd L n v) Wd) := hD
  exact k_retv () hx hb hr hK hS hlk dX3_moveTo_7 hP hD (trivial) hQ

set_option maxHeartbeats 800000 in
set_option maxRecDepth 100000 in
theorem c_storedWord (l : Launch) (D : va_G) (cI cZ cJ : ClassId) (t : Nat) (st : Nat) (ct : Nat) (hd : Nat) (lv : Nat) (wd : Nat) (num : Int32) (lc : Nat) (lvs : Nat) (nb : Nat) (nk : Nat) (key : Int32) (S : Nat → Nat → Int32) (C : Nat → Int32) (O : Nat → Int32) (L : Nat → Int32) (Wd : Nat → Nat → Int32) (b i : Nat) (hT : TP lc lvs nb nk) (hb0 : b < nb) (hi : i < 25) : KI l yX3_storedWord wsX3_storedWord ({ frames := 0, cells := 0, slots := 0, locals := 0 }) D (kty cI cZ cJ) [.ref t, .int (nI b), .int (nI i)] (wT cI cZ cJ t st ct hd lv wd num lc lvs nb nk key S C O L Wd) (fun r (_ : Unit) => r = S b i) (fun _ : Unit => (wT cI cZ cJ t st ct hd lv wd num lc lvs nb nk key S C O L Wd)) 0 0 := by
  refine k_headI (cc := cX3_storedWord) (maxL := 3) (ret := (some .int)) (by decide) rfl (Nat.le_of_ble_eq_true rfl) ?_
  intro p e s m below meth c A ls args Q hx hb hr hml hts hown hlk hnm hA hK hP hD hS hl hQ
  have hq := hT.bd
  have hl : lv_has ls 3 [(0, .ref t), (1, .int (nI b)), (2, .int (nI i))] := hl
  refine lv_aload_n hx hb dX3_storedWord_0 rfl (lv_at hl 0 rfl) ?_
  refine va_get (D := D) (ci := 3) (v := .ref st) (C := RX3) (T := TX3) (N := 11) hx hb hts (by decide +kernel) hown hK hP 0 rfl rfl 5 (by decide) (hts (.fieldLink RX3 27 "VeiledFiles$Tree" "store" "[I") (by decide +kernel)) (fun _ h9 => h9) rfl dX3_storedWord_1 ?_
  refine lv_iload_n hx hb dX3_storedWord_4 rfl (lv_at hl 1 rfl) ?_
  refine lv_bipush (v := nI 25) hx hb dX3_storedWord_5 (by decide) ?_
  refine lv_imul hx hb dX3_storedWord_7 ?_
  refine k_t1 (show (nI b) * (nI 25) = nI (b * 25) from pk_mul _ _) ?_
  refine lv_iload_n hx hb dX3_storedWord_8 rfl (lv_at hl 2 rfl) ?_
  refine lv_iadd hx hb dX3_storedWord_9 ?_
  refine k_t1 (show (nI (b * 25)) + (nI i) = nI (b * 25 + i) from nI_add _ _) ?_
  refine k_iald hx hb hK hP 1 0 rfl rfl (b * 25 + i) (by omega) (by omega) (v := S b i) (fl25_eq (by omega) hi) dX3_storedWord_10 ?_
  exact k_reti () hx hb hr hK hS hlk dX3_storedWord_11 hP hD (rfl) hQ

set_option maxHeartbeats 800000 in
set_option maxRecDepth 100000 in
theorem c_timesSealed (l : Launch) (D : va_G) (cI cZ cJ : ClassId) (t : Nat) (st : Nat) (ct : Nat) (hd : Nat) (lv : Nat) (wd : Nat) (num : Int32) (lc : Nat) (lvs : Nat) (nb : Nat) (nk : Nat) (key : Int32) (S : Nat → Nat → Int32) (C : Nat → Int32) (O : Nat → Int32) (L : Nat → Int32) (Wd : Nat → Nat → Int32) (b : Nat) (hT : TP lc lvs nb nk) (hb0 : b < nb) : KI l yX3_timesSealed wsX3_timesSealed ({ frames := 0, cells := 0, slots := 0, locals := 0 }) D (kty cI cZ cJ) [.ref t, .int (nI b)] (wT cI cZ cJ t st ct hd lv wd num lc lvs nb nk key S C O L Wd) (fun r (_ : Unit) => r = C b) (fun _ : Unit => (wT cI cZ cJ t st ct hd lv wd num lc lvs nb nk key S C O L Wd)) 0 0 := by
  refine k_headI (cc := cX3_timesSealed) (maxL := 2) (ret := (some .int)) (by decide) rfl (Nat.le_of_ble_eq_true rfl) ?_
  intro p e s m below meth c A ls args Q hx hb hr hml hts hown hlk hnm hA hK hP hD hS hl hQ
  have hq := hT.bd
  have hl : lv_has ls 2 [(0, .ref t), (1, .int (nI b))] := hl
  refine lv_aload_n hx hb dX3_timesSealed_0 rfl (lv_at hl 0 rfl) ?_
  refine va_get (D := D) (ci := 3) (v := .ref ct) (C := RX3) (T := TX3) (N := 11) hx hb hts (by decide +kernel) hown hK hP 0 rfl rfl 6 (by decide) (hts (.fieldLink RX3 31 "VeiledFiles$Tree" "counters" "[I") (by decide +kernel)) (fun _ h9 => h9) rfl dX3_timesSealed_1 ?_
  refine lv_iload_n hx hb dX3_timesSealed_4 rfl (lv_at hl 1 rfl) ?_
  refine k_iald hx hb hK hP 2 0 rfl rfl b (by omega) (by omega) (v := C b) (rfl) dX3_timesSealed_5 ?_
  exact k_reti () hx hb hr hK hS hlk dX3_timesSealed_6 hP hD (rfl) hQ

set_option maxHeartbeats 800000 in
set_option maxRecDepth 100000 in
theorem c_maskWords (l : Launch) (D : va_G) (cI cZ cJ : ClassId) (t : Nat) (st : Nat) (ct : Nat) (hd : Nat) (lv : Nat) (wd : Nat) (num : Int32) (lc : Nat) (lvs : Nat) (nb : Nat) (nk : Nat) (key : Int32) (S : Nat → Nat → Int32) (C : Nat → Int32) (O : Nat → Int32) (L : Nat → Int32) (Wd : Nat → Nat → Int32) (b : Nat) (hT : TP lc lvs nb nk) (hb0 : b < nb) : KV l yX3_maskWords wsX3_maskWords ({ frames := 1, cells := 0, slots := 0, locals := 23 }) D (kty cI cZ cJ) [.ref t, .int (nI b)] (wT cI cZ cJ t st ct hd lv wd num lc lvs nb nk key S C O L Wd) (fun (_ : Unit) => True) (fun _ : Unit => (wT cI cZ cJ t st ct hd lv wd num lc lvs nb nk key (setRow S b (maskR key num (C b) b (S b) 24)) C O L Wd)) 0 0 := by
  refine k_headV (cc := cX3_maskWords) (maxL := 4) (ret := none) (by decide) rfl (Nat.le_of_ble_eq_true rfl) ?_
  intro p e s m below meth c A ls args Q hx hb hr hml hts hown hlk hnm hA hK hP hD hS hl hQ
  have hq := hT.bd
  have hl : lv_has ls 4 [(0, .ref t), (1, .int (nI b))] := hl
  refine lv_iload_n hx hb dX3_maskWords_0 rfl (lv_at hl 1 rfl) ?_
  refine lv_bipush (v := nI 25) hx hb dX3_maskWords_1 (by decide) ?_
  refine lv_imul hx hb dX3_maskWords_3 ?_
  refine k_t1 (show (nI b) * (nI 25) = nI (b * 25) from pk_mul _ _) ?_
  refine lv_istore_n (lv' := [(2, .int (nI (b * 25))), (0, .ref t), (1, .int (nI b))]) hx hb dX3_maskWords_4 rfl hl (by decide) rfl (fun ls hl => ?_)
  refine lv_iconst (v := nI 0) hx hb dX3_maskWords_5 (by decide) ?_
  refine lv_istore_n (lv' := [(3, .int (nI 0)), (2, .int (nI (b * 25))), (0, .ref t), (1, .int (nI b))]) hx hb dX3_maskWords_6 rfl hl (by decide) rfl (fun ls hl => ?_)
  have hE1 : (wT cI cZ cJ t st ct hd lv wd num lc lvs nb nk key S C O L Wd) = (wT cI cZ cJ t st ct hd lv wd num lc lvs nb nk key (setRow S b (maskR key num (C b) b (S b) 0)) C O L Wd) := by rw [maskR_0, setRow_id]
  rw [hE1] at hP hD
  have L1 : ∀ (nf k : Nat) (hvL1 : k ≤ 24) (hFL1 : 24 - k < nf) (H : Heap) (locs : List Loc) (ls : Array Slot), va_P D vwCl (wT cI cZ cJ t st ct hd lv wd num lc lvs nb nk key (setRow S b (maskR key num (C b) b (S b) k)) C O L Wd) H → va_D A (wT cI cZ cJ t st ct hd lv wd num lc lvs nb nk key (setRow S b (maskR key num (C b) b (S b) k)) C O L Wd) → va_S A s.heap H locs → lv_has ls 4 [(0, .ref t), (1, .int (nI b)), (2, .int (nI (b * 25))), (3, .int (nI k))] → W p l e ({ frames := 1, cells := 0, slots := 0, locals := 23 } : Room) s m args below meth c H locs 0 0 Q (F0 m 7 ls []) := by
    intro nf
    induction nf with
    | zero => intro k  hvL1 hFL1; omega
    | succ nf ihL1 =>
      intro k  hvL1 hFL1  H locs ls hP hD hS hl
      refine lv_iload_n hx hb dX3_maskWords_7 rfl (lv_at hl 3 rfl) ?_
      refine lv_bipush (v := nI 24) hx hb dX3_maskWords_8 (by decide) ?_
      refine k_icmp_ge (tgt := 36) hx hb (by omega) (by omega) dX3_maskWords_10 (by decide) (fun c1 => ?_) (fun c1 => ?_)
      · skip
        obtain rfl : k = 24 := by omega
        exact k_retv () hx hb hr hK hS hlk dX3_maskWords_36 hP hD (trivial) hQ
      · skip
        refine lv_aload_n hx hb dX3_maskWords_13 rfl (lv_at hl 0 rfl) ?_
        refine va_get (D := D) (ci := 3) (v := .ref st) (C := RX3) (T := TX3) (N := 11) hx hb hts (by decide +kernel) hown hK hP 0 rfl rfl 5 (by decide) (hts (.fieldLink RX3 27 "VeiledFiles$Tree" "store" "[I") (by decide +kernel)) (fun _ h9 => h9) rfl dX3_maskWords_14 ?_
        refine lv_iload_n hx hb dX3_maskWords_17 rfl (lv_at hl 2 rfl) ?_
        refine lv_iload_n hx hb dX3_maskWords_18 rfl (lv_at hl 3 rfl) ?_
        refine lv_iadd hx hb dX3_maskWords_19 ?_
        refine k_t1 (show (nI (b * 25)) + (nI k) = nI (b * 25 + k) from nI_add _ _) ?_
        refine lv_dup2_11 hx hb dX3_maskWords_20 rfl rfl ?_
        refine k_iald hx hb hK hP 1 0 rfl rfl (b * 25 + k) (by omega) (by omega) (v := setRow S b (maskR key num (C b) b (S b) k) b k) (fl25_eq (b := b) (i := k) (by omega) (by omega)) dX3_maskWords_21 ?_
        refine lv_aload_n hx hb dX3_maskWords_22 rfl (lv_at hl 0 rfl) ?_
        refine lv_iload_n hx hb dX3_maskWords_23 rfl (lv_at hl 1 rfl) ?_
        refine lv_iload_n hx hb dX3_maskWords_24 rfl (lv_at hl 3 rfl) ?_
        refine k_vi (As := [.int (nI b), .int (nI k)]) (rest := [.int (setRow S b (maskR key num (C b) b (S b) k) b k), .int (nI (b * 25 + k)), .ref st]) (w2 := fun u : Unit => (wT cI cZ cJ t st ct hd lv wd num lc lvs nb nk key (setRow S b (maskR key num (C b) b (S b) k)) C O L Wd)) ⟨hx, hb, hml, hown, hts⟩ (c_pad l D cI cZ cJ t st ct hd lv wd num lc lvs nb nk key (setRow S b (maskR key num (C b) b (S b) k)) C O L Wd b k hT hb0) (cwV 2 hts gX3_maskWords_X3_pad rfl rfl rfl (by decide +kernel) ⟨Nat.le_of_ble_eq_true rfl, Nat.le_of_ble_eq_true rfl⟩) hP hD hK hS hA [0, 1, 2, 3, 4, 5] [] [0, 1, 2, 3, 4, 5] rfl rfl (by decide) (fun u => rfl) rfl rfl (q0 := 0) rfl rfl hl.1 rfl (Nat.le_of_ble_eq_true rfl) dX3_maskWords_25 ⟨Nat.le_of_ble_eq_true rfl, Nat.le_of_ble_eq_true rfl⟩ (fun r u H locs hu2 hP hD hS => ?_)
        refine k_t1 (show r = padF key num (C b) b k from hu2) ?_
        refine lv_ixor hx hb dX3_maskWords_28 ?_
        refine k_iast hx hb hK hP hD hS 1 0 rfl rfl (b * 25 + k) (by omega) (by omega) (g := fl25 (setRow S b (maskR key num (C b) b (S b) (k + 1)))) ((fl25_up (b := b) (i := k) (by omega) (by omega)).trans (by rw [setRow_s, setRow_2, maskR_s])) dX3_maskWords_29 (fun H locs hP hD hS => ?_)
        have hP : va_P D vwCl (wT cI cZ cJ t st ct hd lv wd num lc lvs nb nk key (setRow S b (maskR key num (C b) b (S b) (k + 1))) C O L Wd) _ := hP
        have hD : va_D A (wT cI cZ cJ t st ct hd lv wd num lc lvs nb nk key (setRow S b (maskR key num (C b) b (S b) (k + 1))) C O L Wd) := hD
        refine lv_iinc (v := nI (k + 1)) (lv' := [(3, .int (nI (k + 1))), (0, .ref t), (1, .int (nI b)), (2, .int (nI (b * 25)))]) hx hb dX3_maskWords_30 hl (k := 3) rfl (nI_add k 1) (by decide) rfl (fun ls hl => ?_)
        refine lv_goto (tgt := 7) hx hb dX3_maskWords_33 (by decide) ?_
        exact ihL1 (k + 1)  (by omega) (by omega)  _ _ _ hP hD hS (lv_sub hl [1, 2, 3, 0] rfl)
  exact L1 (24 + 1) 0  (by omega) (by omega)  _ _ _ hP hD hS (lv_sub hl [2, 3, 1, 0] rfl)

set_option maxHeartbeats 800000 in
set_option maxRecDepth 100000 in
theorem c_tagDue (l : Launch) (D : va_G) (cI cZ cJ : ClassId) (t : Nat) (st : Nat) (ct : Nat) (hd : Nat) (lv : Nat) (wd : Nat) (num : Int32) (lc : Nat) (lvs : Nat) (nb : Nat) (nk : Nat) (key : Int32) (S : Nat → Nat → Int32) (C : Nat → Int32) (O : Nat → Int32) (L : Nat → Int32) (Wd : Nat → Nat → Int32) (b : Nat) (hT : TP lc lvs nb nk) (hb0 : b < nb) : KI l yX3_tagDue wsX3_tagDue ({ frames := 1, cells := 0, slots := 0, locals := 23 }) D (kty cI cZ cJ) [.ref t, .int (nI b)] (wT cI cZ cJ t st ct hd lv wd num lc lvs nb nk key S C O L Wd) (fun r (_ : Unit) => r = tagF key num (C b) b (S b)) (fun _ : Unit => (wT cI cZ cJ t st ct hd lv wd num lc lvs nb nk key S C O L Wd)) 0 0 := by
  refine k_headI (cc := cX3_tagDue) (maxL := 5) (ret := (some .int)) (by decide) rfl (Nat.le_of_ble_eq_true rfl) ?_
  intro p e s m below meth c A ls args Q hx hb hr hml hts hown hlk hnm hA hK hP hD hS hl hQ
  have hq := hT.bd
  have hl : lv_has ls 5 [(0, .ref t), (1, .int (nI b))] := hl
  refine lv_iload_n hx hb dX3_tagDue_0 rfl (lv_at hl 1 rfl) ?_
  refine lv_bipush (v := nI 25) hx hb dX3_tagDue_1 (by decide) ?_
  refine lv_imul hx hb dX3_tagDue_3 ?_
  refine k_t1 (show (nI b) * (nI 25) = nI (b * 25) from pk_mul _ _) ?_
  refine lv_istore_n (lv' := [(2, .int (nI (b * 25))), (0, .ref t), (1, .int (nI b))]) hx hb dX3_tagDue_4 rfl hl (by decide) rfl (fun ls hl => ?_)
  refine lv_aload_n hx hb dX3_tagDue_5 rfl (lv_at hl 1 rfl) ?_
  refine lv_iload_n hx hb dX3_tagDue_6 rfl (lv_at hl 2 rfl) ?_
  refine lv_bipush (v := nI 24) hx hb dX3_tagDue_7 (by decide) ?_
  refine k_vi (As := [.int (nI b), .int (nI 24)]) (rest := []) (w2 := fun u : Unit => (wT cI cZ cJ t st ct hd lv wd num lc lvs nb nk key S C O L Wd)) ⟨hx, hb, hml, hown, hts⟩ (c_pad l D cI cZ cJ t st ct hd lv wd num lc lvs nb nk key S C O L Wd b 24 hT hb0) (cwV 2 hts gX3_tagDue_X3_pad rfl rfl rfl (by decide +kernel) ⟨Nat.le_of_ble_eq_true rfl, Nat.le_of_ble_eq_true rfl⟩) hP hD hK hS hA [0, 1, 2, 3, 4, 5] [] [0, 1, 2, 3, 4, 5] rfl rfl (by decide) (fun u => rfl) rfl rfl (q0 := 0) rfl rfl hl.1 rfl (Nat.le_of_ble_eq_true rfl) dX3_tagDue_9 ⟨Nat.le_of_ble_eq_true rfl, Nat.le_of_ble_eq_true rfl⟩ (fun r u H locs hu1 hP hD hS => ?_)
  refine k_t1 (show r = padF key num (C b) b 24 from hu1) ?_
  refine lv_istore_n (lv' := [(3, .int (padF key num (C b) b 24)), (2, .int (nI (b * 25))), (0, .ref t), (1, .int (nI b))]) hx hb dX3_tagDue_12 rfl hl (by decide) rfl (fun ls hl => ?_)
  refine lv_iconst (v := nI 0) hx hb dX3_tagDue_13 (by decide) ?_
  refine lv_istore (lv' := [(4, .int (nI 0)), (3, .int (padF key num (C b) b 24)), (2, .int (nI (b * 25))), (0, .ref t), (1, .int (nI b))]) hx hb dX3_tagDue_14 hl (by decide) rfl (fun ls hl => ?_)
  have L1 : ∀ (nf k : Nat) (hvL1 : k ≤ 24) (hFL1 : 24 - k < nf) (H : Heap) (locs : List Loc) (ls : Array Slot), va_P D vwCl (wT cI cZ cJ t st ct hd lv wd num lc lvs nb nk key S C O L Wd) H → va_D A (wT cI cZ cJ t st ct hd lv wd num lc lvs nb nk key S C O L Wd) → va_S A s.heap H locs → lv_has ls 5 [(0, .ref t), (1, .int (nI b)), (2, .int (nI (b * 25))), (3, .int (tagN (padF key num (C b) b 24) (S b) k)), (4, .int (nI k))] → W p l e ({ frames := 1, cells := 0, slots := 0, locals := 23 } : Room) s m args below meth c H locs 0 0 Q (F0 m 16 ls []) := by
    intro nf
    induction nf with
    | zero => intro k  hvL1 hFL1; omega
    | succ nf ihL1 =>
      intro k  hvL1 hFL1  H locs ls hP hD hS hl
      refine lv_iload hx hb dX3_tagDue_16 (lv_at hl 4 rfl) ?_
      refine lv_bipush (v := nI 24) hx hb dX3_tagDue_18 (by decide) ?_
      refine k_icmp_ge (tgt := 44) hx hb (by omega) (by omega) dX3_tagDue_20 (by decide) (fun c1 => ?_) (fun c1 => ?_)
      · skip
        obtain rfl : k = 24 := by omega
        refine lv_iload_n hx hb dX3_tagDue_44 rfl (lv_at hl 3 rfl) ?_
        exact k_reti () hx hb hr hK hS hlk dX3_tagDue_45 hP hD (rfl) hQ
      · skip
        refine lv_iload_n hx hb dX3_tagDue_23 rfl (lv_at hl 3 rfl) ?_
        refine lv_aload_n hx hb dX3_tagDue_24 rfl (lv_at hl 0 rfl) ?_
        refine va_get (D := D) (ci := 3) (v := .ref st) (C := RX3) (T := TX3) (N := 11) hx hb hts (by decide +kernel) hown hK hP 0 rfl rfl 5 (by decide) (hts (.fieldLink RX3 27 "VeiledFiles$Tree" "store" "[I") (by decide +kernel)) (fun _ h9 => h9) rfl dX3_tagDue_25 ?_
        refine lv_iload_n hx hb dX3_tagDue_28 rfl (lv_at hl 2 rfl) ?_
        refine lv_iload hx hb dX3_tagDue_29 (lv_at hl 4 rfl) ?_
        refine lv_iadd hx hb dX3_tagDue_31 ?_
        refine k_t1 (show (nI (b * 25)) + (nI k) = nI (b * 25 + k) from nI_add _ _) ?_
        refine k_iald hx hb hK hP 1 0 rfl rfl (b * 25 + k) (by omega) (by omega) (v := S b k) (fl25_eq (b := b) (i := k) (by omega) (by omega)) dX3_tagDue_32 ?_
        refine lv_ixor hx hb dX3_tagDue_33 ?_
        refine lv_ldc (v := 16777619) hx hb hown (hts (.constant RX3 104 (16777619)) (by decide +kernel)) dX3_tagDue_34 ?_
        refine lv_imul hx hb dX3_tagDue_36 ?_
        refine lv_istore_n (lv' := [(3, .int (((tagN (padF key num (C b) b 24) (S b) k) ^^^ (S b k)) * (16777619))), (0, .ref t), (1, .int (nI b)), (2, .int (nI (b * 25))), (4, .int (nI k))]) hx hb dX3_tagDue_37 rfl hl (by decide) rfl (fun ls hl => ?_)
        refine lv_iinc (v := nI (k + 1)) (lv' := [(4, .int (nI (k + 1))), (3, .int (((tagN (padF key num (C b) b 24) (S b) k) ^^^ (S b k)) * (16777619))), (0, .ref t), (1, .int (nI b)), (2, .int (nI (b * 25)))]) hx hb dX3_tagDue_38 hl (k := 4) rfl (nI_add k 1) (by decide) rfl (fun ls hl => ?_)
        refine lv_goto (tgt := 16) hx hb dX3_tagDue_41 (by decide) ?_
        exact ihL1 (k + 1)  (by omega) (by omega)  _ _ _ hP hD hS (lv_sub hl [2, 3, 4, 1, 0] rfl)
  exact L1 (24 + 1) 0  (by omega) (by omega)  _ _ _ hP hD hS (lv_sub hl [3, 4, 2, 1, 0] rfl)

set_option maxHeartbeats 800000 in
set_option maxRecDepth 100000 in
theorem c_isWhole (l : Launch) (D : va_G) (cI cZ cJ : ClassId) (t : Nat) (st : Nat) (ct : Nat) (hd : Nat) (lv : Nat) (wd : Nat) (num : Int32) (lc : Nat) (lvs : Nat) (nb : Nat) (nk : Nat) (key : Int32) (S : Nat → Nat → Int32) (C : Nat → Int32) (O : Nat → Int32) (L : Nat → Int32) (Wd : Nat → Nat → Int32) (b : Nat) (hT : TP lc lvs nb nk) (hb0 : b < nb) : KI l yX3_isWhole wsX3_isWhole ({ frames := 2, cells := 0, slots := 0, locals := 47 }) D (kty cI cZ cJ) [.ref t, .int (nI b)] (wT cI cZ cJ t st ct hd lv wd num lc lvs nb nk key S C O L Wd) (fun r (_ : Unit) => (r = 1 ∧ wholeB key num C S b) ∨ (r = 0 ∧ ¬ wholeB key num C S b)) (fun _ : Unit => (wT cI cZ cJ t st ct hd lv wd num lc lvs nb nk key S C O L Wd)) 0 0 := by
  refine k_headI (cc := cX3_isWhole) (maxL := 2) (ret := (some .boolean)) (by decide) rfl (Nat.le_of_ble_eq_true rfl) ?_
  intro p e s m below meth c A ls args Q hx hb hr hml hts hown hlk hnm hA hK hP hD hS hl hQ
  have hq := hT.bd
  have hl : lv_has ls 2 [(0, .ref t), (1, .int (nI b))] := hl
  refine lv_aload_n hx hb dX3_isWhole_0 rfl (lv_at hl 0 rfl) ?_
  refine va_get (D := D) (ci := 3) (v := .ref st) (C := RX3) (T := TX3) (N := 11) hx hb hts (by decide +kernel) hown hK hP 0 rfl rfl 5 (by decide) (hts (.fieldLink RX3 27 "VeiledFiles$Tree" "store" "[I") (by decide +kernel)) (fun _ h9 => h9) rfl dX3_isWhole_1 ?_
  refine lv_iload_n hx hb dX3_isWhole_4 rfl (lv_at hl 1 rfl) ?_
  refine lv_bipush (v := nI 25) hx hb dX3_isWhole_5 (by decide) ?_
  refine lv_imul hx hb dX3_isWhole_7 ?_
  refine k_t1 (show (nI b) * (nI 25) = nI (b * 25) from pk_mul _ _) ?_
  refine lv_bipush (v := nI 24) hx hb dX3_isWhole_8 (by decide) ?_
  refine lv_iadd hx hb dX3_isWhole_10 ?_
  refine k_t1 (show (nI (b * 25)) + (nI 24) = nI (b * 25 + 24) from nI_add _ _) ?_
  refine k_iald hx hb hK hP 1 0 rfl rfl (b * 25 + 24) (by omega) (by omega) (v := S b 24) (fl25_eq (b := b) (i := 24) (by omega) (by omega)) dX3_isWhole_11 ?_
  refine lv_aload_n hx hb dX3_isWhole_12 rfl (lv_at hl 0 rfl) ?_
  refine lv_iload_n hx hb dX3_isWhole_13 rfl (lv_at hl 1 rfl) ?_
  refine k_vi (As := [.int (nI b)]) (rest := [.int (S b 24)]) (w2 := fun u : Unit => (wT cI cZ cJ t st ct hd lv wd num lc lvs nb nk key S C O L Wd)) ⟨hx, hb, hml, hown, hts⟩ (c_tagDue l D cI cZ cJ t st ct hd lv wd num lc lvs nb nk key S C O L Wd b hT hb0) (cwV 1 hts gX3_isWhole_X3_tagDue rfl rfl rfl (by decide +kernel) ⟨Nat.le_of_ble_eq_true rfl, Nat.le_of_ble_eq_true rfl⟩) hP hD hK hS hA [0, 1, 2, 3, 4, 5] [] [0, 1, 2, 3, 4, 5] rfl rfl (by decide) (fun u => rfl) rfl rfl (q0 := 0) rfl rfl hl.1 rfl (Nat.le_of_ble_eq_true rfl) dX3_isWhole_14 ⟨Nat.le_of_ble_eq_true rfl, Nat.le_of_ble_eq_true rfl⟩ (fun r u H locs hu1 hP hD hS => ?_)
  refine k_t1 (show r = tagF key num (C b) b (S b) from hu1) ?_
  refine lv_icmp_ne (tgt := 24) hx hb dX3_isWhole_17 (by decide) (fun c1 => ?_) (fun c1 => ?_)
  · skip
    refine lv_iconst (v := nI 0) hx hb dX3_isWhole_24 (by decide) ?_
    exact k_retz () hx hb hr hK hS hlk dX3_isWhole_25 ((by first | exact Or.inl rfl | exact Or.inr rfl)) hP hD (by exact Or.inr ⟨rfl, c1⟩) hQ
  · skip
    refine lv_iconst (v := nI 1) hx hb dX3_isWhole_20 (by decide) ?_
    refine lv_goto (tgt := 25) hx hb dX3_isWhole_21 (by decide) ?_
    exact k_retz () hx hb hr hK hS hlk dX3_isWhole_25 ((by first | exact Or.inl rfl | exact Or.inr rfl)) hP hD (by exact Or.inl ⟨rfl, c1⟩) hQ

set_option maxHeartbeats 800000 in
set_option maxRecDepth 100000 in
theorem c_seal (l : Launch) (D : va_G) (cI cZ cJ : ClassId) (t : Nat) (st : Nat) (ct : Nat) (hd : Nat) (lv : Nat) (wd : Nat) (num : Int32) (lc : Nat) (lvs : Nat) (nb : Nat) (nk : Nat) (key : Int32) (S : Nat → Nat → Int32) (C : Nat → Int32) (O : Nat → Int32) (L : Nat → Int32) (Wd : Nat → Nat → Int32) (b : Nat) (hT : TP lc lvs nb nk) (hb0 : b < nb) : KV l yX3_seal wsX3_seal ({ frames := 2, cells := 0, slots := 0, locals := 47 }) D (kty cI cZ cJ) [.ref t, .int (nI b)] (wT cI cZ cJ t st ct hd lv wd num lc lvs nb nk key S C O L Wd) (fun (_ : Unit) => True) (fun _ : Unit => (wT cI cZ cJ t st ct hd lv wd num lc lvs nb nk key (setRow S b (sealR key num (C b) b (S b))) C O L Wd)) 0 0 := by
  refine k_headV (cc := cX3_seal) (maxL := 2) (ret := none) (by decide) rfl (Nat.le_of_ble_eq_true rfl) ?_
  intro p e s m below meth c A ls args Q hx hb hr hml hts hown hlk hnm hA hK hP hD hS hl hQ
  have hq := hT.bd
  have hl : lv_has ls 2 [(0, .ref t), (1, .int (nI b))] := hl
  refine lv_aload_n hx hb dX3_seal_0 rfl (lv_at hl 0 rfl) ?_
  refine lv_iload_n hx hb dX3_seal_1 rfl (lv_at hl 1 rfl) ?_
  refine k_vv (As := [.int (nI b)]) (rest := []) (w2 := fun u : Unit => (wT cI cZ cJ t st ct hd lv wd num lc lvs nb nk key (setRow S b (maskR key num (C b) b (S b) 24)) C O L Wd)) ⟨hx, hb, hml, hown, hts⟩ (c_maskWords l D cI cZ cJ t st ct hd lv wd num lc lvs nb nk key S C O L Wd b hT hb0) (cwV 1 hts gX3_seal_X3_maskWords rfl rfl rfl (by decide +kernel) ⟨Nat.le_of_ble_eq_true rfl, Nat.le_of_ble_eq_true rfl⟩) hP hD hK hS hA [0, 1, 2, 3, 4, 5] [] [0, 1, 2, 3, 4, 5] rfl rfl (by decide) (fun u => rfl) rfl rfl (q0 := 0) rfl rfl hl.1 rfl (Nat.le_of_ble_eq_true rfl) dX3_seal_2 ⟨Nat.le_of_ble_eq_true rfl, Nat.le_of_ble_eq_true rfl⟩ (fun u H locs hu1 hP hD hS => ?_)
  refine lv_aload_n hx hb dX3_seal_5 rfl (lv_at hl 0 rfl) ?_
  refine va_get (D := D) (ci := 3) (v := .ref st) (C := RX3) (T := TX3) (N := 11) hx hb hts (by decide +kernel) hown hK hP 0 rfl rfl 5 (by decide) (hts (.fieldLink RX3 27 "VeiledFiles$Tree" "store" "[I") (by decide +kernel)) (fun _ h9 => h9) rfl dX3_seal_6 ?_
  refine lv_iload_n hx hb dX3_seal_9 rfl (lv_at hl 1 rfl) ?_
  refine lv_bipush (v := nI 25) hx hb dX3_seal_10 (by decide) ?_
  refine lv_imul hx hb dX3_seal_12 ?_
  refine k_t1 (show (nI b) * (nI 25) = nI (b * 25) from pk_mul _ _) ?_
  refine lv_bipush (v := nI 24) hx hb dX3_seal_13 (by decide) ?_
  refine lv_iadd hx hb dX3_seal_15 ?_
  refine k_t1 (show (nI (b * 25)) + (nI 24) = nI (b * 25 + 24) from nI_add _ _) ?_
  refine lv_aload_n hx hb dX3_seal_16 rfl (lv_at hl 0 rfl) ?_
  refine lv_iload_n hx hb dX3_seal_17 rfl (lv_at hl 1 rfl) ?_
  refine k_vi (As := [.int (nI b)]) (rest := [.int (nI (b * 25 + 24)), .ref st]) (w2 := fun u : Unit => (wT cI cZ cJ t st ct hd lv wd num lc lvs nb nk key (setRow S b (maskR key num (C b) b (S b) 24)) C O L Wd)) ⟨hx, hb, hml, hown, hts⟩ (c_tagDue l D cI cZ cJ t st ct hd lv wd num lc lvs nb nk key (setRow S b (maskR key num (C b) b (S b) 24)) C O L Wd b hT hb0) (cwV 1 hts gX3_seal_X3_tagDue rfl rfl rfl (by decide +kernel) ⟨Nat.le_of_ble_eq_true rfl, Nat.le_of_ble_eq_true rfl⟩) hP hD hK hS hA [0, 1, 2, 3, 4, 5] [] [0, 1, 2, 3, 4, 5] rfl rfl (by decide) (fun u => rfl) rfl rfl (q0 := 0) rfl rfl hl.1 rfl (Nat.le_of_ble_eq_true rfl) dX3_seal_18 ⟨Nat.le_of_ble_eq_true rfl, Nat.le_of_ble_eq_true rfl⟩ (fun r u H locs hu2 hP hD hS => ?_)
  refine k_t1 (show r = tagF key num (C b) b (setRow S b (maskR key num (C b) b (S b) 24) b) from hu2) ?_
  refine k_iast hx hb hK hP hD hS 1 0 rfl rfl (b * 25 + 24) (by omega) (by omega) (g := fl25 (setRow S b (sealR key num (C b) b (S b)))) ((fl25_up (b := b) (i := 24) (by omega) (by omega)).trans (by rw [setRow_s, setRow_2]; rfl)) dX3_seal_21 (fun H locs hP hD hS => ?_)
  have hP : va_P D vwCl (wT cI cZ cJ t st ct hd lv wd num lc lvs nb nk key (setRow S b (sealR key num (C b) b (S b))) C O L Wd) _ := hP
  have hD : va_D A (wT cI cZ cJ t st ct hd lv wd num lc lvs nb nk key (setRow S b (sealR key num (C b) b (S b))) C O L Wd) := hD
  exact k_retv () hx hb hr hK hS hlk dX3_seal_22 hP hD (trivial) hQ

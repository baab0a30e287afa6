set_option maxHeartbeats 800000 in
set_option maxRecDepth 100000 in
theorem c_hasBucket_y (l : Launch) (D : va_G) (cI cZ cJ : ClassId) (t : Nat) (st : Nat) (ct : Nat) (hd : Nat) (lv : Nat) (wd : Nat) (num : Int32) (lc : Nat) (lvs : Nat) (nb : Nat) (nk : Nat) (key : Int32) (S : Nat → Nat → Int32) (C : Nat → Int32) (O : Nat → Int32) (L : Nat → Int32) (Wd : Nat → Nat → Int32) (b : Nat) (hT : TP lc lvs nb nk) (hb0 : b < nb) : KI l yX3_hasBucket wsX3_hasBucket ({ frames := 0, cells := 0, slots := 0, locals := 0 }) D (kty cI cZ cJ) [.ref t, .int (nI b)] (wT cI cZ cJ t st ct hd lv wd num lc lvs nb nk key S C O L Wd) (fun r (_ : Unit) => r = 1) (fun _ : Unit => (wT cI cZ cJ t st ct hd lv wd num lc lvs nb nk key S C O L Wd)) 0 0 := by
  refine k_headI (cc := cX3_hasBucket) (maxL := 2) (ret := (some .boolean)) (by decide) rfl (Nat.le_of_ble_eq_true rfl) ?_
  intro p e s m below meth c A ls args Q hx hb hr hml hts hown hlk hnm hA hK hP hD hS hl hQ
  have hq := hT.bd
  have hl : lv_has ls 2 [(0, .ref t), (1, .int (nI b))] := hl
  refine lv_iload_n hx hb dX3_hasBucket_0 rfl (lv_at hl 1 rfl) ?_
  refine lv_if_lt (tgt := 16) hx hb dX3_hasBucket_1 (by decide) (fun c1 => ?_) (fun c1 => ?_)
  · skip
    exact absurd c1 (nI_pos (by omega))
  · skip
    refine lv_iload_n hx hb dX3_hasBucket_4 rfl (lv_at hl 1 rfl) ?_
    refine lv_aload_n hx hb dX3_hasBucket_5 rfl (lv_at hl 0 rfl) ?_
    refine va_get (D := D) (ci := 3) (v := .int (nI nb)) (C := RX3) (T := TX3) (N := 11) hx hb hts (by decide +kernel) hown hK hP 0 rfl rfl 3 (by decide) (hts (.fieldLink RX3 21 "VeiledFiles$Tree" "buckets" "I") (by decide +kernel)) (fun _ h9 => h9) rfl dX3_hasBucket_6 ?_
    refine k_icmp_ge (tgt := 16) hx hb (by omega) (by omega) dX3_hasBucket_9 (by decide) (fun c2 => ?_) (fun c2 => ?_)
    · skip
      omega
    · skip
      refine lv_iconst (v := nI 1) hx hb dX3_hasBucket_12 (by decide) ?_
      refine lv_goto (tgt := 17) hx hb dX3_hasBucket_13 (by decide) ?_
      exact k_retz () hx hb hr hK hS hlk dX3_hasBucket_17 ((by first | exact Or.inl rfl | exact Or.inr rfl)) hP hD (rfl) hQ

set_option maxHeartbeats 800000 in
set_option maxRecDepth 100000 in
theorem c_hasBucket_n (l : Launch) (D : va_G) (cI cZ cJ : ClassId) (t : Nat) (st : Nat) (ct : Nat) (hd : Nat) (lv : Nat) (wd : Nat) (num : Int32) (lc : Nat) (lvs : Nat) (nb : Nat) (nk : Nat) (key : Int32) (S : Nat → Nat → Int32) (C : Nat → Int32) (O : Nat → Int32) (L : Nat → Int32) (Wd : Nat → Nat → Int32) (x : Int32) (hT : TP lc lvs nb nk) (hx0 : noB nb x = true) : KI l yX3_hasBucket wsX3_hasBucket ({ frames := 0, cells := 0, slots := 0, locals := 0 }) D (kty cI cZ cJ) [.ref t, .int x] (wT cI cZ cJ t st ct hd lv wd num lc lvs nb nk key S C O L Wd) (fun r (_ : Unit) => r = 0) (fun _ : Unit => (wT cI cZ cJ t st ct hd lv wd num lc lvs nb nk key S C O L Wd)) 0 0 := by
  refine k_headI (cc := cX3_hasBucket) (maxL := 2) (ret := (some .boolean)) (by decide) rfl (Nat.le_of_ble_eq_true rfl) ?_
  intro p e s m below meth c A ls args Q hx hb hr hml hts hown hlk hnm hA hK hP hD hS hl hQ
  have hq := hT.bd
  have hl : lv_has ls 2 [(0, .ref t), (1, .int x)] := hl
  refine lv_iload_n hx hb dX3_hasBucket_0 rfl (lv_at hl 1 rfl) ?_
  refine lv_if_lt (tgt := 16) hx hb dX3_hasBucket_1 (by decide) (fun c1 => ?_) (fun c1 => ?_)
  · skip
    refine lv_iconst (v := nI 0) hx hb dX3_hasBucket_16 (by decide) ?_
    exact k_retz () hx hb hr hK hS hlk dX3_hasBucket_17 ((by first | exact Or.inl rfl | exact Or.inr rfl)) hP hD (rfl) hQ
  · skip
    refine lv_iload_n hx hb dX3_hasBucket_4 rfl (lv_at hl 1 rfl) ?_
    refine lv_aload_n hx hb dX3_hasBucket_5 rfl (lv_at hl 0 rfl) ?_
    refine va_get (D := D) (ci := 3) (v := .int (nI nb)) (C := RX3) (T := TX3) (N := 11) hx hb hts (by decide +kernel) hown hK hP 0 rfl rfl 3 (by decide) (hts (.fieldLink RX3 21 "VeiledFiles$Tree" "buckets" "I") (by decide +kernel)) (fun _ h9 => h9) rfl dX3_hasBucket_6 ?_
    refine lv_icmp_ge (tgt := 16) hx hb dX3_hasBucket_9 (by decide) (fun c2 => ?_) (fun c2 => ?_)
    · skip
      refine lv_iconst (v := nI 0) hx hb dX3_hasBucket_16 (by decide) ?_
      exact k_retz () hx hb hr hK hS hlk dX3_hasBucket_17 ((by first | exact Or.inl rfl | exact Or.inr rfl)) hP hD (rfl) hQ
    · skip
      exact absurd hx0 (by simp [noB, c1, c2])

set_option maxHeartbeats 800000 in
set_option maxRecDepth 100000 in
theorem c_hasStored_y (l : Launch) (D : va_G) (cI cZ cJ : ClassId) (t : Nat) (st : Nat) (ct : Nat) (hd : Nat) (lv : Nat) (wd : Nat) (num : Int32) (lc : Nat) (lvs : Nat) (nb : Nat) (nk : Nat) (key : Int32) (S : Nat → Nat → Int32) (C : Nat → Int32) (O : Nat → Int32) (L : Nat → Int32) (Wd : Nat → Nat → Int32) (b i : Nat) (hT : TP lc lvs nb nk) (hb0 : b < nb) (hi : i < 25) : KI l yX3_hasStored wsX3_hasStored ({ frames := 1, cells := 0, slots := 0, locals := 21 }) D (kty cI cZ cJ) [.ref t, .int (nI b), .int (nI i)] (wT cI cZ cJ t st ct hd lv wd num lc lvs nb nk key S C O L Wd) (fun r (_ : Unit) => r = 1) (fun _ : Unit => (wT cI cZ cJ t st ct hd lv wd num lc lvs nb nk key S C O L Wd)) 0 0 := by
  refine k_headI (cc := cX3_hasStored) (maxL := 3) (ret := (some .boolean)) (by decide) rfl (Nat.le_of_ble_eq_true rfl) ?_
  intro p e s m below meth c A ls args Q hx hb hr hml hts hown hlk hnm hA hK hP hD hS hl hQ
  have hq := hT.bd
  have hl : lv_has ls 3 [(0, .ref t), (1, .int (nI b)), (2, .int (nI i))] := hl
  refine lv_aload_n hx hb dX3_hasStored_0 rfl (lv_at hl 0 rfl) ?_
  refine lv_iload_n hx hb dX3_hasStored_1 rfl (lv_at hl 1 rfl) ?_
  refine k_vi (As := [.int (nI b)]) (rest := []) (w2 := fun u : Unit => (wT cI cZ cJ t st ct hd lv wd num lc lvs nb nk key S C O L Wd)) ⟨hx, hb, hml, hown, hts⟩ (c_hasBucket_y l D cI cZ cJ t st ct hd lv wd num lc lvs nb nk key S C O L Wd b hT hb0) (cwV 1 hts gX3_hasStored_X3_hasBucket rfl rfl rfl (by decide +kernel) ⟨Nat.le_of_ble_eq_true rfl, Nat.le_of_ble_eq_true rfl⟩) hP hD hK hS hA [0, 1, 2, 3, 4, 5] [] [0, 1, 2, 3, 4, 5] rfl rfl (by decide) (fun u => rfl) rfl rfl (q0 := 0) rfl rfl hl.1 rfl (Nat.le_of_ble_eq_true rfl) dX3_hasStored_2 ⟨Nat.le_of_ble_eq_true rfl, Nat.le_of_ble_eq_true rfl⟩ (fun r u H locs hu1 hP hD hS => ?_)
  refine k_t1 (show r = 1 from hu1) ?_
  refine lv_if_eq (tgt := 22) hx hb dX3_hasStored_5 (by decide) (fun c1 => ?_) (fun c1 => ?_)
  · skip
    exact absurd c1 (by decide)
  · skip
    refine lv_iload_n hx hb dX3_hasStored_8 rfl (lv_at hl 2 rfl) ?_
    refine lv_if_lt (tgt := 22) hx hb dX3_hasStored_9 (by decide) (fun c2 => ?_) (fun c2 => ?_)
    · skip
      exact absurd c2 (nI_pos (by omega))
    · skip
      refine lv_iload_n hx hb dX3_hasStored_12 rfl (lv_at hl 2 rfl) ?_
      refine lv_bipush (v := nI 25) hx hb dX3_hasStored_13 (by decide) ?_
      refine k_icmp_ge (tgt := 22) hx hb (by omega) (by omega) dX3_hasStored_15 (by decide) (fun c3 => ?_) (fun c3 => ?_)
      · skip
        omega
      · skip
        refine lv_iconst (v := nI 1) hx hb dX3_hasStored_18 (by decide) ?_
        refine lv_goto (tgt := 23) hx hb dX3_hasStored_19 (by decide) ?_
        exact k_retz () hx hb hr hK hS hlk dX3_hasStored_23 ((by first | exact Or.inl rfl | exact Or.inr rfl)) hP hD (rfl) hQ

set_option maxHeartbeats 800000 in
set_option maxRecDepth 100000 in
theorem c_hasStored_n1 (l : Launch) (D : va_G) (cI cZ cJ : ClassId) (t : Nat) (st : Nat) (ct : Nat) (hd : Nat) (lv : Nat) (wd : Nat) (num : Int32) (lc : Nat) (lvs : Nat) (nb : Nat) (nk : Nat) (key : Int32) (S : Nat → Nat → Int32) (C : Nat → Int32) (O : Nat → Int32) (L : Nat → Int32) (Wd : Nat → Nat → Int32) (x y : Int32) (hT : TP lc lvs nb nk) (hx0 : noB nb x = true) : KI l yX3_hasStored wsX3_hasStored ({ frames := 1, cells := 0, slots := 0, locals := 21 }) D (kty cI cZ cJ) [.ref t, .int x, .int y] (wT cI cZ cJ t st ct hd lv wd num lc lvs nb nk key S C O L Wd) (fun r (_ : Unit) => r = 0) (fun _ : Unit => (wT cI cZ cJ t st ct hd lv wd num lc lvs nb nk key S C O L Wd)) 0 0 := by
  refine k_headI (cc := cX3_hasStored) (maxL := 3) (ret := (some .boolean)) (by decide) rfl (Nat.le_of_ble_eq_true rfl) ?_
  intro p e s m below meth c A ls args Q hx hb hr hml hts hown hlk hnm hA hK hP hD hS hl hQ
  have hq := hT.bd
  have hl : lv_has ls 3 [(0, .ref t), (1, .int x), (2, .int y)] := hl
  refine lv_aload_n hx hb dX3_hasStored_0 rfl (lv_at hl 0 rfl) ?_
  refine lv_iload_n hx hb dX3_hasStored_1 rfl (lv_at hl 1 rfl) ?_
  refine k_vi (As := [.int x]) (rest := []) (w2 := fun u : Unit => (wT cI cZ cJ t st ct hd lv wd num lc lvs nb nk key S C O L Wd)) ⟨hx, hb, hml, hown, hts⟩ (c_hasBucket_n l D cI cZ cJ t st ct hd lv wd num lc lvs nb nk key S C O L Wd x hT hx0) (cwV 1 hts gX3_hasStored_X3_hasBucket rfl rfl rfl (by decide +kernel) ⟨Nat.le_of_ble_eq_true rfl, Nat.le_of_ble_eq_true rfl⟩) hP hD hK hS hA [0, 1, 2, 3, 4, 5] [] [0, 1, 2, 3, 4, 5] rfl rfl (by decide) (fun u => rfl) rfl rfl (q0 := 0) rfl rfl hl.1 rfl (Nat.le_of_ble_eq_true rfl) dX3_hasStored_2 ⟨Nat.le_of_ble_eq_true rfl, Nat.le_of_ble_eq_true rfl⟩ (fun r u H locs hu1 hP hD hS => ?_)
  refine k_t1 (show r = 0 from hu1) ?_
  refine lv_if_eq (tgt := 22) hx hb dX3_hasStored_5 (by decide) (fun c1 => ?_) (fun c1 => ?_)
  · skip
    refine lv_iconst (v := nI 0) hx hb dX3_hasStored_22 (by decide) ?_
    exact k_retz () hx hb hr hK hS hlk dX3_hasStored_23 ((by first | exact Or.inl rfl | exact Or.inr rfl)) hP hD (rfl) hQ
  · skip
    exact absurd rfl c1

set_option maxHeartbeats 800000 in
set_option maxRecDepth 100000 in
theorem c_hasStored_n2 (l : Launch) (D : va_G) (cI cZ cJ : ClassId) (t : Nat) (st : Nat) (ct : Nat) (hd : Nat) (lv : Nat) (wd : Nat) (num : Int32) (lc : Nat) (lvs : Nat) (nb : Nat) (nk : Nat) (key : Int32) (S : Nat → Nat → Int32) (C : Nat → Int32) (O : Nat → Int32) (L : Nat → Int32) (Wd : Nat → Nat → Int32) (b : Nat) (y : Int32) (hT : TP lc lvs nb nk) (hb0 : b < nb) (hx0 : noB 25 y = true) : KI l yX3_hasStored wsX3_hasStored ({ frames := 1, cells := 0, slots := 0, locals := 21 }) D (kty cI cZ cJ) [.ref t, .int (nI b), .int y] (wT cI cZ cJ t st ct hd lv wd num lc lvs nb nk key S C O L Wd) (fun r (_ : Unit) => r = 0) (fun _ : Unit => (wT cI cZ cJ t st ct hd lv wd num lc lvs nb nk key S C O L Wd)) 0 0 := by
  refine k_headI (cc := cX3_hasStored) (maxL := 3) (ret := (some .boolean)) (by decide) rfl (Nat.le_of_ble_eq_true rfl) ?_
  intro p e s m below meth c A ls args Q hx hb hr hml hts hown hlk hnm hA hK hP hD hS hl hQ
  have hq := hT.bd
  have hl : lv_has ls 3 [(0, .ref t), (1, .int (nI b)), (2, .int y)] := hl
  refine lv_aload_n hx hb dX3_hasStored_0 rfl (lv_at hl 0 rfl) ?_
  refine lv_iload_n hx hb dX3_hasStored_1 rfl (lv_at hl 1 rfl) ?_
  refine k_vi (As := [.int (nI b)]) (rest := []) (w2 := fun u : Unit => (wT cI cZ cJ t st ct hd lv wd num lc lvs nb nk key S C O L Wd)) ⟨hx, hb, hml, hown, hts⟩ (c_hasBucket_y l D cI cZ cJ t st ct hd lv wd num lc lvs nb nk key S C O L Wd b hT hb0) (cwV 1 hts gX3_hasStored_X3_hasBucket rfl rfl rfl (by decide +kernel) ⟨Nat.le_of_ble_eq_true rfl, Nat.le_of_ble_eq_true rfl⟩) hP hD hK hS hA [0, 1, 2, 3, 4, 5] [] [0, 1, 2, 3, 4, 5] rfl rfl (by decide) (fun u => rfl) rfl rfl (q0 := 0) rfl rfl hl.1 rfl (Nat.le_of_ble_eq_true rfl) dX3_hasStored_2 ⟨Nat.le_of_ble_eq_true rfl, Nat.le_of_ble_eq_true rfl⟩ (fun r u H locs hu1 hP hD hS => ?_)
  refine k_t1 (show r = 1 from hu1) ?_
  refine lv_if_eq (tgt := 22) hx hb dX3_hasStored_5 (by decide) (fun c1 => ?_) (fun c1 => ?_)
  · skip
    refine lv_iconst (v := nI 0) hx hb dX3_hasStored_22 (by decide) ?_
    exact k_retz () hx hb hr hK hS hlk dX3_hasStored_23 ((by first | exact Or.inl rfl | exact Or.inr rfl)) hP hD (rfl) hQ
  · skip
    refine lv_iload_n hx hb dX3_hasStored_8 rfl (lv_at hl 2 rfl) ?_
    refine lv_if_lt (tgt := 22) hx hb dX3_hasStored_9 (by decide) (fun c2 => ?_) (fun c2 => ?_)
    · skip
      refine lv_iconst (v := nI 0) hx hb dX3_hasStored_22 (by decide) ?_
      exact k_retz () hx hb hr hK hS hlk dX3_hasStored_23 ((by first | exact Or.inl rfl | exact Or.inr rfl)) hP hD (rfl) hQ
    · skip
      refine lv_iload_n hx hb dX3_hasStored_12 rfl (lv_at hl 2 rfl) ?_
      refine lv_bipush (v := nI 25) hx hb dX3_hasStored_13 (by decide) ?_
      refine lv_icmp_ge (tgt := 22) hx hb dX3_hasStored_15 (by decide) (fun c3 => ?_) (fun c3 => ?_)
      · skip
        refine lv_iconst (v := nI 0) hx hb dX3_hasStored_22 (by decide) ?_
        exact k_retz () hx hb hr hK hS hlk dX3_hasStored_23 ((by first | exact Or.inl rfl | exact Or.inr rfl)) hP hD (rfl) hQ
      · skip
        exact absurd hx0 (by simp [noB, c2, c3])

set_option maxHeartbeats 800000 in
set_option maxRecDepth 100000 in
theorem c_countHeld (l : Launch) (D : va_G) (cI cZ cJ : ClassId) (t : Nat) (st : Nat) (ct : Nat) (hd : Nat) (lv : Nat) (wd : Nat) (num : Int32) (lc : Nat) (lvs : Nat) (nb : Nat) (nk : Nat) (key : Int32) (S : Nat → Nat → Int32) (C : Nat → Int32) (O : Nat → Int32) (L : Nat → Int32) (Wd : Nat → Nat → Int32)  (hT : TP lc lvs nb nk)  : KI l yX3_countHeld wsX3_countHeld ({ frames := 0, cells := 0, slots := 0, locals := 0 }) D (kty cI cZ cJ) [.ref t] (wT cI cZ cJ t st ct hd lv wd num lc lvs nb nk key S C O L Wd) (fun r (_ : Unit) => r = nI (cntN O nk)) (fun _ : Unit => (wT cI cZ cJ t st ct hd lv wd num lc lvs nb nk key S C O L Wd)) 0 0 := by
  refine k_headI (cc := cX3_countHeld) (maxL := 3) (ret := (some .int)) (by decide) rfl (Nat.le_of_ble_eq_true rfl) ?_
  intro p e s m below meth c A ls args Q hx hb hr hml hts hown hlk hnm hA hK hP hD hS hl hQ
  have hq := hT.bd
  have hl : lv_has ls 3 [(0, .ref t)] := hl
  refine lv_iconst (v := nI 0) hx hb dX3_countHeld_0 (by decide) ?_
  refine lv_istore_n (lv' := [(1, .int (nI 0)), (0, .ref t)]) hx hb dX3_countHeld_1 rfl hl (by decide) rfl (fun ls hl => ?_)
  refine lv_iconst (v := nI 0) hx hb dX3_countHeld_2 (by decide) ?_
  refine lv_istore_n (lv' := [(2, .int (nI 0)), (1, .int (nI 0)), (0, .ref t)]) hx hb dX3_countHeld_3 rfl hl (by decide) rfl (fun ls hl => ?_)
  have L1 : ∀ (nf k : Nat) (hvL1 : k ≤ nk) (hFL1 : nk - k < nf) (H : Heap) (locs : List Loc) (ls : Array Slot), va_P D vwCl (wT cI cZ cJ t st ct hd lv wd num lc lvs nb nk key S C O L Wd) H → va_D A (wT cI cZ cJ t st ct hd lv wd num lc lvs nb nk key S C O L Wd) → va_S A s.heap H locs → lv_has ls 3 [(0, .ref t), (1, .int (nI (cntN O k))), (2, .int (nI k))] → W p l e ({ frames := 0, cells := 0, slots := 0, locals := 0 } : Room) s m args below meth c H locs 0 0 Q (F0 m 4 ls []) := by
    intro nf
    induction nf with
    | zero => intro k  hvL1 hFL1; omega
    | succ nf ihL1 =>
      intro k  hvL1 hFL1  H locs ls hP hD hS hl
      refine lv_iload_n hx hb dX3_countHeld_4 rfl (lv_at hl 2 rfl) ?_
      refine lv_aload_n hx hb dX3_countHeld_5 rfl (lv_at hl 0 rfl) ?_
      refine va_get (D := D) (ci := 3) (v := .int (nI nk)) (C := RX3) (T := TX3) (N := 11) hx hb hts (by decide +kernel) hown hK hP 0 rfl rfl 4 (by decide) (hts (.fieldLink RX3 24 "VeiledFiles$Tree" "blocks" "I") (by decide +kernel)) (fun _ h9 => h9) rfl dX3_countHeld_6 ?_
      refine k_icmp_ge (tgt := 30) hx hb (by omega) (by omega) dX3_countHeld_9 (by decide) (fun c1 => ?_) (fun c1 => ?_)
      · skip
        obtain rfl : nk = k := by omega
        refine lv_iload_n hx hb dX3_countHeld_30 rfl (lv_at hl 1 rfl) ?_
        exact k_reti () hx hb hr hK hS hlk dX3_countHeld_31 hP hD (rfl) hQ
      · skip
        have hcl := cntN_le O k
        refine lv_aload_n hx hb dX3_countHeld_12 rfl (lv_at hl 0 rfl) ?_
        refine va_get (D := D) (ci := 3) (v := .ref hd) (C := RX3) (T := TX3) (N := 11) hx hb hts (by decide +kernel) hown hK hP 0 rfl rfl 7 (by decide) (hts (.fieldLink RX3 34 "VeiledFiles$Tree" "held" "[Z") (by decide +kernel)) (fun _ h9 => h9) rfl dX3_countHeld_13 ?_
        refine lv_iload_n hx hb dX3_countHeld_16 rfl (lv_at hl 2 rfl) ?_
        refine k_zald hx hb hK hP 3 1 rfl rfl k (by omega) (by omega) (v := O k) (rfl) dX3_countHeld_17 ?_
        refine lv_if_eq (tgt := 24) hx hb dX3_countHeld_18 (by decide) (fun c2 => ?_) (fun c2 => ?_)
        · skip
          refine lv_iinc (v := nI (k + 1)) (lv' := [(2, .int (nI (k + 1))), (0, .ref t), (1, .int (nI (cntN O k)))]) hx hb dX3_countHeld_24 hl (k := 2) rfl (nI_add k 1) (by decide) rfl (fun ls hl => ?_)
          refine lv_goto (tgt := 4) hx hb dX3_countHeld_27 (by decide) ?_
          have hc2 : cntN O (k + 1) = cntN O k := by simp [cntN, c2]
          rw [← hc2] at hl
          exact ihL1 (k + 1)  (by omega) (by omega)  _ _ _ hP hD hS (lv_sub hl [1, 2, 0] rfl)
        · skip
          refine lv_iinc (v := nI (cntN O k + 1)) (lv' := [(1, .int (nI (cntN O k + 1))), (0, .ref t), (2, .int (nI k))]) hx hb dX3_countHeld_21 hl (k := 1) rfl (nI_add (cntN O k) 1) (by decide) rfl (fun ls hl => ?_)
          refine lv_iinc (v := nI (k + 1)) (lv' := [(2, .int (nI (k + 1))), (1, .int (nI (cntN O k + 1))), (0, .ref t)]) hx hb dX3_countHeld_24 hl (k := 2) rfl (nI_add k 1) (by decide) rfl (fun ls hl => ?_)
          refine lv_goto (tgt := 4) hx hb dX3_countHeld_27 (by decide) ?_
          have hc2 : cntN O (k + 1) = cntN O k + 1 := by simp [cntN, c2]
          rw [← hc2] at hl
          exact ihL1 (k + 1)  (by omega) (by omega)  _ _ _ hP hD hS (lv_sub hl [2, 1, 0] rfl)
  exact L1 (nk + 1) 0  (by omega) (by omega)  _ _ _ hP hD hS (lv_sub hl [2, 1, 0] rfl)

theorem KI_imp {l : Launch} {y : MethodName} {ws : List Cond} {rm : Room} {D : va_G} {ty : List (ClassId × FieldType)} {As : List Value} {wc : va_W} {S : Type} {post post' : Int32 → S → Prop} {wf : S → va_W} {mc ms : Nat} (h : KI l y ws rm D ty As wc post wf mc ms) (hp : ∀ r u, post r u → post' r u) : KI l y ws rm D ty As wc post' wf mc ms := by
  intro sz p e ha hc hk s m args below hf happ hP hK
  obtain ⟨n, o, h1, h2, h3, ⟨⟨r, u, e1, e2, e3⟩, hF⟩, hL⟩ := h sz p e ha hc hk s m args below hf happ hP hK
  exact ⟨n, o, h1, h2, h3, ⟨⟨r, u, e1, hp r u e2, e3⟩, hF⟩, hL⟩

theorem c_isWhole_y (l : Launch) (D : va_G) (cI cZ cJ : ClassId) (t : Nat) (st : Nat) (ct : Nat) (hd : Nat) (lv : Nat) (wd : Nat) (num : Int32) (lc : Nat) (lvs : Nat) (nb : Nat) (nk : Nat) (key : Int32) (S : Nat → Nat → Int32) (C : Nat → Int32) (O : Nat → Int32) (L : Nat → Int32) (Wd : Nat → Nat → Int32) (b : Nat) (hT : TP lc lvs nb nk) (hb0 : b < nb) (hw : wholeB key num C S b) : KI l yX3_isWhole wsX3_isWhole ({ frames := 2, cells := 0, slots := 0, locals := 47 }) D (kty cI cZ cJ) [.ref t, .int (nI b)] (wT cI cZ cJ t st ct hd lv wd num lc lvs nb nk key S C O L Wd) (fun r (_ : Unit) => r = 1) (fun _ : Unit => (wT cI cZ cJ t st ct hd lv wd num lc lvs nb nk key S C O L Wd)) 0 0 :=
  KI_imp (c_isWhole l D cI cZ cJ t st ct hd lv wd num lc lvs nb nk key S C O L Wd b hT hb0) (fun r u h => by rcases h with ⟨h1, -⟩ | ⟨-, h2⟩; exact h1; exact absurd hw h2)

theorem c_isWhole_n (l : Launch) (D : va_G) (cI cZ cJ : ClassId) (t : Nat) (st : Nat) (ct : Nat) (hd : Nat) (lv : Nat) (wd : Nat) (num : Int32) (lc : Nat) (lvs : Nat) (nb : Nat) (nk : Nat) (key : Int32) (S : Nat → Nat → Int32) (C : Nat → Int32) (O : Nat → Int32) (L : Nat → Int32) (Wd : Nat → Nat → Int32) (b : Nat) (hT : TP lc lvs nb nk) (hb0 : b < nb) (hw : ¬ wholeB key num C S b) : KI l yX3_isWhole wsX3_isWhole ({ frames := 2, cells := 0, slots := 0, locals := 47 }) D (kty cI cZ cJ) [.ref t, .int (nI b)] (wT cI cZ cJ t st ct hd lv wd num lc lvs nb nk key S C O L Wd) (fun r (_ : Unit) => r = 0) (fun _ : Unit => (wT cI cZ cJ t st ct hd lv wd num lc lvs nb nk key S C O L Wd)) 0 0 :=
  KI_imp (c_isWhole l D cI cZ cJ t st ct hd lv wd num lc lvs nb nk key S C O L Wd b hT hb0) (fun r u h => by rcases h with ⟨-, h2⟩ | ⟨h1, -⟩; exact absurd h2 hw; exact h1)

set_option maxHeartbeats 800000 in
set_option maxRecDepth 100000 in
theorem c_spoil_y (l : Launch) (D : va_G) (cI cZ cJ : ClassId) (t : Nat) (st : Nat) (ct : Nat) (hd : Nat) (lv : Nat) (wd : Nat) (num : Int32) (lc : Nat) (lvs : Nat) (nb : Nat) (nk : Nat) (key : Int32) (S : Nat → Nat → Int32) (C : Nat → Int32) (O : Nat → Int32) (L : Nat → Int32) (Wd : Nat → Nat → Int32) (b i : Nat) (v : Int32) (hT : TP lc lvs nb nk) (hb0 : b < nb) (hi : i < 25) (hw : ¬ wholeB key num C (setRow S b (upd (S b) i v)) b) : KI l yX3_spoil wsX3_spoil ({ frames := 3, cells := 0, slots := 0, locals := 69 }) D (kty cI cZ cJ) [.ref t, .int (nI b), .int (nI i), .int v] (wT cI cZ cJ t st ct hd lv wd num lc lvs nb nk key S C O L Wd) (fun r (_ : Unit) => r = 1) (fun _ : Unit => (wT cI cZ cJ t st ct hd lv wd num lc lvs nb nk key (setRow S b (upd (S b) i v)) C O L Wd)) 0 0 := by
  refine k_headI (cc := cX3_spoil) (maxL := 6) (ret := (some .boolean)) (by decide) rfl (Nat.le_of_ble_eq_true rfl) ?_
  intro p e s m below meth c A ls args Q hx hb hr hml hts hown hlk hnm hA hK hP hD hS hl hQ
  have hq := hT.bd
  have hl : lv_has ls 6 [(0, .ref t), (1, .int (nI b)), (2, .int (nI i)), (3, .int v)] := hl
  refine lv_iload_n hx hb dX3_spoil_0 rfl (lv_at hl 1 rfl) ?_
  refine lv_bipush (v := nI 25) hx hb dX3_spoil_1 (by decide) ?_
  refine lv_imul hx hb dX3_spoil_3 ?_
  refine k_t1 (show (nI b) * (nI 25) = nI (b * 25) from pk_mul _ _) ?_
  refine lv_iload_n hx hb dX3_spoil_4 rfl (lv_at hl 2 rfl) ?_
  refine lv_iadd hx hb dX3_spoil_5 ?_
  refine k_t1 (show (nI (b * 25)) + (nI i) = nI (b * 25 + i) from nI_add _ _) ?_
  refine lv_istore (lv' := [(4, .int (nI (b * 25 + i))), (0, .ref t), (1, .int (nI b)), (2, .int (nI i)), (3, .int v)]) hx hb dX3_spoil_6 hl (by decide) rfl (fun ls hl => ?_)
  refine lv_aload_n hx hb dX3_spoil_8 rfl (lv_at hl 1 rfl) ?_
  refine va_get (D := D) (ci := 3) (v := .ref st) (C := RX3) (T := TX3) (N := 11) hx hb hts (by decide +kernel) hown hK hP 0 rfl rfl 5 (by decide) (hts (.fieldLink RX3 27 "VeiledFiles$Tree" "store" "[I") (by decide +kernel)) (fun _ h9 => h9) rfl dX3_spoil_9 ?_
  refine lv_iload hx hb dX3_spoil_12 (lv_at hl 0 rfl) ?_
  refine k_iald hx hb hK hP 1 0 rfl rfl (b * 25 + i) (by omega) (by omega) (v := S b i) (fl25_eq (by omega) hi) dX3_spoil_14 ?_
  refine lv_istore (lv' := [(5, .int (S b i)), (4, .int (nI (b * 25 + i))), (0, .ref t), (1, .int (nI b)), (2, .int (nI i)), (3, .int v)]) hx hb dX3_spoil_15 hl (by decide) rfl (fun ls hl => ?_)
  refine lv_aload_n hx hb dX3_spoil_17 rfl (lv_at hl 2 rfl) ?_
  refine va_get (D := D) (ci := 3) (v := .ref st) (C := RX3) (T := TX3) (N := 11) hx hb hts (by decide +kernel) hown hK hP 0 rfl rfl 5 (by decide) (hts (.fieldLink RX3 27 "VeiledFiles$Tree" "store" "[I") (by decide +kernel)) (fun _ h9 => h9) rfl dX3_spoil_18 ?_
  refine lv_iload hx hb dX3_spoil_21 (lv_at hl 1 rfl) ?_
  refine lv_iload_n hx hb dX3_spoil_23 rfl (lv_at hl 5 rfl) ?_
  refine k_iast hx hb hK hP hD hS 1 0 rfl rfl (b * 25 + i) (by omega) (by omega) (g := fl25 (setRow S b (upd (S b) i v))) (fl25_up (by omega) hi) dX3_spoil_24 (fun H locs hP hD hS => ?_)
  have hP : va_P D vwCl (wT cI cZ cJ t st ct hd lv wd num lc lvs nb nk key (setRow S b (upd (S b) i v)) C O L Wd) _ := hP
  have hD : va_D A (wT cI cZ cJ t st ct hd lv wd num lc lvs nb nk key (setRow S b (upd (S b) i v)) C O L Wd) := hD
  refine lv_aload_n hx hb dX3_spoil_25 rfl (lv_at hl 2 rfl) ?_
  refine lv_iload_n hx hb dX3_spoil_26 rfl (lv_at hl 3 rfl) ?_
  refine k_vi (As := [.int (nI b)]) (rest := []) (w2 := fun u : Unit => (wT cI cZ cJ t st ct hd lv wd num lc lvs nb nk key (setRow S b (upd (S b) i v)) C O L Wd)) ⟨hx, hb, hml, hown, hts⟩ (c_isWhole_n l D cI cZ cJ t st ct hd lv wd num lc lvs nb nk key (setRow S b (upd (S b) i v)) C O L Wd b hT hb0 hw) (cwV 1 hts gX3_spoil_X3_isWhole rfl rfl rfl (by decide +kernel) ⟨Nat.le_of_ble_eq_true rfl, Nat.le_of_ble_eq_true rfl⟩) hP hD hK hS hA [0, 1, 2, 3, 4, 5] [] [0, 1, 2, 3, 4, 5] rfl rfl (by decide) (fun u => rfl) rfl rfl (q0 := 0) rfl rfl hl.1 rfl (Nat.le_of_ble_eq_true rfl) dX3_spoil_27 ⟨Nat.le_of_ble_eq_true rfl, Nat.le_of_ble_eq_true rfl⟩ (fun r u H locs hu1 hP hD hS => ?_)
  refine k_t1 (show r = 0 from hu1) ?_
  refine lv_if_eq (tgt := 44) hx hb dX3_spoil_30 (by decide) (fun c1 => ?_) (fun c1 => ?_)
  · skip
    refine lv_iconst (v := nI 1) hx hb dX3_spoil_44 (by decide) ?_
    exact k_retz () hx hb hr hK hS hlk dX3_spoil_45 ((by first | exact Or.inl rfl | exact Or.inr rfl)) hP hD (rfl) hQ
  · skip
    exact absurd rfl c1

set_option maxHeartbeats 800000 in
set_option maxRecDepth 100000 in
theorem c_spoil_n (l : Launch) (D : va_G) (cI cZ cJ : ClassId) (t : Nat) (st : Nat) (ct : Nat) (hd : Nat) (lv : Nat) (wd : Nat) (num : Int32) (lc : Nat) (lvs : Nat) (nb : Nat) (nk : Nat) (key : Int32) (S : Nat → Nat → Int32) (C : Nat → Int32) (O : Nat → Int32) (L : Nat → Int32) (Wd : Nat → Nat → Int32) (b i : Nat) (v : Int32) (hT : TP lc lvs nb nk) (hb0 : b < nb) (hi : i < 25) (hw : wholeB key num C (setRow S b (upd (S b) i v)) b) : KI l yX3_spoil wsX3_spoil ({ frames := 3, cells := 0, slots := 0, locals := 69 }) D (kty cI cZ cJ) [.ref t, .int (nI b), .int (nI i), .int v] (wT cI cZ cJ t st ct hd lv wd num lc lvs nb nk key S C O L Wd) (fun r (_ : Unit) => r = 0) (fun _ : Unit => (wT cI cZ cJ t st ct hd lv wd num lc lvs nb nk key S C O L Wd)) 0 0 := by
  refine k_headI (cc := cX3_spoil) (maxL := 6) (ret := (some .boolean)) (by decide) rfl (Nat.le_of_ble_eq_true rfl) ?_
  intro p e s m below meth c A ls args Q hx hb hr hml hts hown hlk hnm hA hK hP hD hS hl hQ
  have hq := hT.bd
  have hl : lv_has ls 6 [(0, .ref t), (1, .int (nI b)), (2, .int (nI i)), (3, .int v)] := hl
  refine lv_iload_n hx hb dX3_spoil_0 rfl (lv_at hl 1 rfl) ?_
  refine lv_bipush (v := nI 25) hx hb dX3_spoil_1 (by decide) ?_
  refine lv_imul hx hb dX3_spoil_3 ?_
  refine k_t1 (show (nI b) * (nI 25) = nI (b * 25) from pk_mul _ _) ?_
  refine lv_iload_n hx hb dX3_spoil_4 rfl (lv_at hl 2 rfl) ?_
  refine lv_iadd hx hb dX3_spoil_5 ?_
  refine k_t1 (show (nI (b * 25)) + (nI i) = nI (b * 25 + i) from nI_add _ _) ?_
  refine lv_istore (lv' := [(4, .int (nI (b * 25 + i))), (0, .ref t), (1, .int (nI b)), (2, .int (nI i)), (3, .int v)]) hx hb dX3_spoil_6 hl (by decide) rfl (fun ls hl => ?_)
  refine lv_aload_n hx hb dX3_spoil_8 rfl (lv_at hl 1 rfl) ?_
  refine va_get (D := D) (ci := 3) (v := .ref st) (C := RX3) (T := TX3) (N := 11) hx hb hts (by decide +kernel) hown hK hP 0 rfl rfl 5 (by decide) (hts (.fieldLink RX3 27 "VeiledFiles$Tree" "store" "[I") (by decide +kernel)) (fun _ h9 => h9) rfl dX3_spoil_9 ?_
  refine lv_iload hx hb dX3_spoil_12 (lv_at hl 0 rfl) ?_
  refine k_iald hx hb hK hP 1 0 rfl rfl (b * 25 + i) (by omega) (by omega) (v := S b i) (fl25_eq (by omega) hi) dX3_spoil_14 ?_
  refine lv_istore (lv' := [(5, .int (S b i)), (4, .int (nI (b * 25 + i))), (0, .ref t), (1, .int (nI b)), (2, .int (nI i)), (3, .int v)]) hx hb dX3_spoil_15 hl (by decide) rfl (fun ls hl => ?_)
  refine lv_aload_n hx hb dX3_spoil_17 rfl (lv_at hl 2 rfl) ?_
  refine va_get (D := D) (ci := 3) (v := .ref st) (C := RX3) (T := TX3) (N := 11) hx hb hts (by decide +kernel) hown hK hP 0 rfl rfl 5 (by decide) (hts (.fieldLink RX3 27 "VeiledFiles$Tree" "store" "[I") (by decide +kernel)) (fun _ h9 => h9) rfl dX3_spoil_18 ?_
  refine lv_iload hx hb dX3_spoil_21 (lv_at hl 1 rfl) ?_
  refine lv_iload_n hx hb dX3_spoil_23 rfl (lv_at hl 5 rfl) ?_
  refine k_iast hx hb hK hP hD hS 1 0 rfl rfl (b * 25 + i) (by omega) (by omega) (g := fl25 (setRow S b (upd (S b) i v))) (fl25_up (by omega) hi) dX3_spoil_24 (fun H locs hP hD hS => ?_)
  have hP : va_P D vwCl (wT cI cZ cJ t st ct hd lv wd num lc lvs nb nk key (setRow S b (upd (S b) i v)) C O L Wd) _ := hP
  have hD : va_D A (wT cI cZ cJ t st ct hd lv wd num lc lvs nb nk key (setRow S b (upd (S b) i v)) C O L Wd) := hD
  refine lv_aload_n hx hb dX3_spoil_25 rfl (lv_at hl 2 rfl) ?_
  refine lv_iload_n hx hb dX3_spoil_26 rfl (lv_at hl 3 rfl) ?_
  refine k_vi (As := [.int (nI b)]) (rest := []) (w2 := fun u : Unit => (wT cI cZ cJ t st ct hd lv wd num lc lvs nb nk key (setRow S b (upd (S b) i v)) C O L Wd)) ⟨hx, hb, hml, hown, hts⟩ (c_isWhole_y l D cI cZ cJ t st ct hd lv wd num lc lvs nb nk key (setRow S b (upd (S b) i v)) C O L Wd b hT hb0 hw) (cwV 1 hts gX3_spoil_X3_isWhole rfl rfl rfl (by decide +kernel) ⟨Nat.le_of_ble_eq_true rfl, Nat.le_of_ble_eq_true rfl⟩) hP hD hK hS hA [0, 1, 2, 3, 4, 5] [] [0, 1, 2, 3, 4, 5] rfl rfl (by decide) (fun u => rfl) rfl rfl (q0 := 0) rfl rfl hl.1 rfl (Nat.le_of_ble_eq_true rfl) dX3_spoil_27 ⟨Nat.le_of_ble_eq_true rfl, Nat.le_of_ble_eq_true rfl⟩ (fun r u H locs hu1 hP hD hS => ?_)
  refine k_t1 (show r = 1 from hu1) ?_
  refine lv_if_eq (tgt := 44) hx hb dX3_spoil_30 (by decide) (fun c1 => ?_) (fun c1 => ?_)
  · skip
    exact absurd c1 (by decide)
  · skip
    refine lv_aload_n hx hb dX3_spoil_33 rfl (lv_at hl 2 rfl) ?_
    refine va_get (D := D) (ci := 3) (v := .ref st) (C := RX3) (T := TX3) (N := 11) hx hb hts (by decide +kernel) hown hK hP 0 rfl rfl 5 (by decide) (hts (.fieldLink RX3 27 "VeiledFiles$Tree" "store" "[I") (by decide +kernel)) (fun _ h9 => h9) rfl dX3_spoil_34 ?_
    refine lv_iload hx hb dX3_spoil_37 (lv_at hl 1 rfl) ?_
    refine lv_iload hx hb dX3_spoil_39 (lv_at hl 0 rfl) ?_
    refine k_iast hx hb hK hP hD hS 1 0 rfl rfl (b * 25 + i) (by omega) (by omega) (g := fl25 S) ((fl25_up (b := b) (i := i) (by omega) hi).trans (congrArg fl25 (by rw [setRow_s, setRow_2, upd_back, setRow_id]))) dX3_spoil_41 (fun H locs hP hD hS => ?_)
    have hP : va_P D vwCl (wT cI cZ cJ t st ct hd lv wd num lc lvs nb nk key S C O L Wd) _ := hP
    have hD : va_D A (wT cI cZ cJ t st ct hd lv wd num lc lvs nb nk key S C O L Wd) := hD
    refine lv_iconst (v := nI 0) hx hb dX3_spoil_42 (by decide) ?_
    exact k_retz () hx hb hr hK hS hlk dX3_spoil_43 ((by first | exact Or.inl rfl | exact Or.inr rfl)) hP hD (rfl) hQ

set_option maxHeartbeats 800000 in
set_option maxRecDepth 100000 in
theorem c_place (l : Launch) (D : va_G) (cI cZ cJ : ClassId) (t : Nat) (st : Nat) (ct : Nat) (hd : Nat) (lv : Nat) (wd : Nat) (num : Int32) (lc : Nat) (lvs : Nat) (nb : Nat) (nk : Nat) (key : Int32) (S : Nat → Nat → Int32) (C : Nat → Int32) (O : Nat → Int32) (L : Nat → Int32) (Wd : Nat → Nat → Int32) (n b sl : Nat) (hT : TP lc lvs nb nk) (hn : n < nk) (hb0 : b < nb) (hs : sl < 4) : KV l yX3_place wsX3_place ({ frames := 1, cells := 0, slots := 0, locals := 22 }) D (kty cI cZ cJ) [.ref t, .int (nI n), .int (nI b), .int (nI sl)] (wT cI cZ cJ t st ct hd lv wd num lc lvs nb nk key S C O L Wd) (fun (_ : Unit) => True) (fun _ : Unit => (wT cI cZ cJ t st ct hd lv wd num lc lvs nb nk key (setRow S b (putR (S b) sl n (L n) (Wd n))) C (upd O n 0) L Wd)) 0 0 := by
  refine k_headV (cc := cX3_place) (maxL := 6) (ret := none) (by decide) rfl (Nat.le_of_ble_eq_true rfl) ?_
  intro p e s m below meth c A ls args Q hx hb hr hml hts hown hlk hnm hA hK hP hD hS hl hQ
  have hq := hT.bd
  have hl : lv_has ls 6 [(0, .ref t), (1, .int (nI n)), (2, .int (nI b)), (3, .int (nI sl))] := hl
  refine lv_iload_n hx hb dX3_place_0 rfl (lv_at hl 2 rfl) ?_
  refine lv_iload_n hx hb dX3_place_1 rfl (lv_at hl 3 rfl) ?_
  refine k_si (As := [.int (nI b), .int (nI sl)]) (rest := []) (w2 := fun u : Unit => (wT cI cZ cJ t st ct hd lv wd num lc lvs nb nk key S C O L Wd)) ⟨hx, hb, hml, hown, hts⟩ (c_slotStart l D cI cZ cJ  b sl) (va_cwS 2 hts gX3_place_X3_slotStart rfl rfl rfl (by decide +kernel) ⟨Nat.le_of_ble_eq_true rfl, Nat.le_of_ble_eq_true rfl⟩) hP hD hK hS hA [] [0, 1, 2, 3, 4, 5] [0, 1, 2, 3, 4, 5] rfl rfl (by decide) (fun u => rfl) rfl hl.1 rfl (Nat.le_of_ble_eq_true rfl) dX3_place_2 ⟨Nat.le_of_ble_eq_true rfl, Nat.le_of_ble_eq_true rfl⟩ (fun r u H locs hu1 hP hD hS => ?_)
  refine k_t1 (show r = nI (25 * b + 6 * sl) from hu1) ?_
  refine lv_istore (lv' := [(4, .int (nI (25 * b + 6 * sl))), (0, .ref t), (1, .int (nI n)), (2, .int (nI b)), (3, .int (nI sl))]) hx hb dX3_place_5 hl (by decide) rfl (fun ls hl => ?_)
  refine lv_aload_n hx hb dX3_place_7 rfl (lv_at hl 1 rfl) ?_
  refine va_get (D := D) (ci := 3) (v := .ref st) (C := RX3) (T := TX3) (N := 11) hx hb hts (by decide +kernel) hown hK hP 0 rfl rfl 5 (by decide) (hts (.fieldLink RX3 27 "VeiledFiles$Tree" "store" "[I") (by decide +kernel)) (fun _ h9 => h9) rfl dX3_place_8 ?_
  refine lv_iload hx hb dX3_place_11 (lv_at hl 0 rfl) ?_
  refine lv_iload_n hx hb dX3_place_13 rfl (lv_at hl 2 rfl) ?_
  refine lv_iconst (v := nI 1) hx hb dX3_place_14 (by decide) ?_
  refine lv_iadd hx hb dX3_place_15 ?_
  refine k_t1 (show (nI n) + (nI 1) = nI (n + 1) from nI_add _ _) ?_
  have hE2 : (wT cI cZ cJ t st ct hd lv wd num lc lvs nb nk key S C O L Wd) = (wT cI cZ cJ t st ct hd lv wd num lc lvs nb nk key (setRow S b (putK (S b) sl n (L n) (Wd n) 0)) C O L Wd) := by rw [putK_0, setRow_id]
  rw [hE2] at hP hD
  refine k_iast hx hb hK hP hD hS 1 0 rfl rfl (25 * b + 6 * sl) (by omega) (by omega) (g := fl25 (setRow S b (putK (S b) sl n (L n) (Wd n) 1))) ((fl25_up (b := b) (i := 6 * sl + 0) (by omega) (by omega)).trans (congrArg fl25 (by rw [setRow_s, setRow_2, putK_s sloV_0]))) dX3_place_16 (fun H locs hP hD hS => ?_)
  have hP : va_P D vwCl (wT cI cZ cJ t st ct hd lv wd num lc lvs nb nk key (setRow S b (putK (S b) sl n (L n) (Wd n) 1)) C O L Wd) _ := hP
  have hD : va_D A (wT cI cZ cJ t st ct hd lv wd num lc lvs nb nk key (setRow S b (putK (S b) sl n (L n) (Wd n) 1)) C O L Wd) := hD
  refine lv_aload_n hx hb dX3_place_17 rfl (lv_at hl 1 rfl) ?_
  refine va_get (D := D) (ci := 3) (v := .ref st) (C := RX3) (T := TX3) (N := 11) hx hb hts (by decide +kernel) hown hK hP 0 rfl rfl 5 (by decide) (hts (.fieldLink RX3 27 "VeiledFiles$Tree" "store" "[I") (by decide +kernel)) (fun _ h9 => h9) rfl dX3_place_18 ?_
  refine lv_iload hx hb dX3_place_21 (lv_at hl 0 rfl) ?_
  refine lv_iconst (v := nI 1) hx hb dX3_place_23 (by decide) ?_
  refine lv_iadd hx hb dX3_place_24 ?_
  refine k_t1 (show (nI (25 * b + 6 * sl)) + (nI 1) = nI (25 * b + 6 * sl + 1) from nI_add _ _) ?_
  refine lv_aload_n hx hb dX3_place_25 rfl (lv_at hl 1 rfl) ?_
  refine va_get (D := D) (ci := 3) (v := .ref lv) (C := RX3) (T := TX3) (N := 11) hx hb hts (by decide +kernel) hown hK hP 0 rfl rfl 8 (by decide) (hts (.fieldLink RX3 38 "VeiledFiles$Tree" "leaves" "[I") (by decide +kernel)) (fun _ h9 => h9) rfl dX3_place_26 ?_
  refine lv_iload_n hx hb dX3_place_29 rfl (lv_at hl 2 rfl) ?_
  refine k_iald hx hb hK hP 4 0 rfl rfl n (by omega) (by omega) (v := L n) (rfl) dX3_place_30 ?_
  refine k_iast hx hb hK hP hD hS 1 0 rfl rfl (25 * b + 6 * sl + 1) (by omega) (by omega) (g := fl25 (setRow S b (putK (S b) sl n (L n) (Wd n) (2 + 0)))) ((fl25_up (b := b) (i := 6 * sl + 1) (by omega) (by omega)).trans (congrArg fl25 (by rw [setRow_s, setRow_2, putK_s sloV_1]))) dX3_place_31 (fun H locs hP hD hS => ?_)
  have hP : va_P D vwCl (wT cI cZ cJ t st ct hd lv wd num lc lvs nb nk key (setRow S b (putK (S b) sl n (L n) (Wd n) (2 + 0))) C O L Wd) _ := hP
  have hD : va_D A (wT cI cZ cJ t st ct hd lv wd num lc lvs nb nk key (setRow S b (putK (S b) sl n (L n) (Wd n) (2 + 0))) C O L Wd) := hD
  refine lv_iconst (v := nI 0) hx hb dX3_place_32 (by decide) ?_
  refine lv_istore (lv' := [(5, .int (nI 0)), (4, .int (nI (25 * b + 6 * sl))), (0, .ref t), (1, .int (nI n)), (2, .int (nI b)), (3, .int (nI sl))]) hx hb dX3_place_33 hl (by decide) rfl (fun ls hl => ?_)
  have L1 : ∀ (nf k : Nat) (hvL1 : k ≤ 4) (hFL1 : 4 - k < nf) (H : Heap) (locs : List Loc) (ls : Array Slot), va_P D vwCl (wT cI cZ cJ t st ct hd lv wd num lc lvs nb nk key (setRow S b (putK (S b) sl n (L n) (Wd n) (2 + k))) C O L Wd) H → va_D A (wT cI cZ cJ t st ct hd lv wd num lc lvs nb nk key (setRow S b (putK (S b) sl n (L n) (Wd n) (2 + k))) C O L Wd) → va_S A s.heap H locs → lv_has ls 6 [(0, .ref t), (1, .int (nI n)), (2, .int (nI b)), (3, .int (nI sl)), (4, .int (nI (25 * b + 6 * sl))), (5, .int (nI k))] → W p l e ({ frames := 1, cells := 0, slots := 0, locals := 22 } : Room) s m args below meth c H locs 0 0 Q (F0 m 35 ls []) := by
    intro nf
    induction nf with
    | zero => intro k  hvL1 hFL1; omega
    | succ nf ihL1 =>
      intro k  hvL1 hFL1  H locs ls hP hD hS hl
      refine lv_iload hx hb dX3_place_35 (lv_at hl 5 rfl) ?_
      refine lv_iconst (v := nI 4) hx hb dX3_place_37 (by decide) ?_
      refine k_icmp_ge (tgt := 66) hx hb (by omega) (by omega) dX3_place_38 (by decide) (fun c1 => ?_) (fun c1 => ?_)
      · skip
        obtain rfl : k = 4 := by omega
        have hP : va_P D vwCl (wT cI cZ cJ t st ct hd lv wd num lc lvs nb nk key (setRow S b (putR (S b) sl n (L n) (Wd n))) C O L Wd) _ := hP
        have hD : va_D A (wT cI cZ cJ t st ct hd lv wd num lc lvs nb nk key (setRow S b (putR (S b) sl n (L n) (Wd n))) C O L Wd) := hD
        refine lv_aload_n hx hb dX3_place_66 rfl (lv_at hl 0 rfl) ?_
        refine va_get (D := D) (ci := 3) (v := .ref hd) (C := RX3) (T := TX3) (N := 11) hx hb hts (by decide +kernel) hown hK hP 0 rfl rfl 7 (by decide) (hts (.fieldLink RX3 34 "VeiledFiles$Tree" "held" "[Z") (by decide +kernel)) (fun _ h9 => h9) rfl dX3_place_67 ?_
        refine lv_iload_n hx hb dX3_place_70 rfl (lv_at hl 1 rfl) ?_
        refine lv_iconst (v := nI 0) hx hb dX3_place_71 (by decide) ?_
        refine k_zast hx hb hK hP hD hS 3 1 rfl rfl n (by omega) (by omega) (g := (upd O n (nI 0))) (rfl) (by first | rfl | decide) dX3_place_72 (fun H locs hP hD hS => ?_)
        have hP : va_P D vwCl (wT cI cZ cJ t st ct hd lv wd num lc lvs nb nk key (setRow S b (putR (S b) sl n (L n) (Wd n))) C (upd O n (nI 0)) L Wd) _ := hP
        have hD : va_D A (wT cI cZ cJ t st ct hd lv wd num lc lvs nb nk key (setRow S b (putR (S b) sl n (L n) (Wd n))) C (upd O n (nI 0)) L Wd) := hD
        exact k_retv () hx hb hr hK hS hlk dX3_place_73 hP hD (trivial) hQ
      · skip
        refine lv_aload_n hx hb dX3_place_41 rfl (lv_at hl 0 rfl) ?_
        refine va_get (D := D) (ci := 3) (v := .ref st) (C := RX3) (T := TX3) (N := 11) hx hb hts (by decide +kernel) hown hK hP 0 rfl rfl 5 (by decide) (hts (.fieldLink RX3 27 "VeiledFiles$Tree" "store" "[I") (by decide +kernel)) (fun _ h9 => h9) rfl dX3_place_42 ?_
        refine lv_iload hx hb dX3_place_45 (lv_at hl 4 rfl) ?_
        refine lv_iconst (v := nI 2) hx hb dX3_place_47 (by decide) ?_
        refine lv_iadd hx hb dX3_place_48 ?_
        refine k_t1 (show (nI (25 * b + 6 * sl)) + (nI 2) = nI (25 * b + 6 * sl + 2) from nI_add _ _) ?_
        refine lv_iload hx hb dX3_place_49 (lv_at hl 5 rfl) ?_
        refine lv_iadd hx hb dX3_place_51 ?_
        refine k_t1 (show (nI (25 * b + 6 * sl + 2)) + (nI k) = nI (25 * b + 6 * sl + 2 + k) from nI_add _ _) ?_
        refine lv_aload_n hx hb dX3_place_52 rfl (lv_at hl 0 rfl) ?_
        refine lv_iload_n hx hb dX3_place_53 rfl (lv_at hl 1 rfl) ?_
        refine lv_iload hx hb dX3_place_54 (lv_at hl 5 rfl) ?_
        refine k_vi (As := [.int (nI n), .int (nI k)]) (rest := [.int (nI (25 * b + 6 * sl + 2 + k)), .ref st]) (w2 := fun u : Unit => (wT cI cZ cJ t st ct hd lv wd num lc lvs nb nk key (setRow S b (putK (S b) sl n (L n) (Wd n) (2 + k))) C O L Wd)) ⟨hx, hb, hml, hown, hts⟩ (c_wordOf l D cI cZ cJ t st ct hd lv wd num lc lvs nb nk key (setRow S b (putK (S b) sl n (L n) (Wd n) (2 + k))) C O L Wd n k hT hn (by omega)) (cwV 2 hts gX3_place_X3_wordOf rfl rfl rfl (by decide +kernel) ⟨Nat.le_of_ble_eq_true rfl, Nat.le_of_ble_eq_true rfl⟩) hP hD hK hS hA [0, 1, 2, 3, 4, 5] [] [0, 1, 2, 3, 4, 5] rfl rfl (by decide) (fun u => rfl) rfl rfl (q0 := 0) rfl rfl hl.1 rfl (Nat.le_of_ble_eq_true rfl) dX3_place_56 ⟨Nat.le_of_ble_eq_true rfl, Nat.le_of_ble_eq_true rfl⟩ (fun r u H locs hu3 hP hD hS => ?_)
        refine k_t1 (show r = Wd n k from hu3) ?_
        refine k_iast hx hb hK hP hD hS 1 0 rfl rfl (25 * b + 6 * sl + 2 + k) (by omega) (by omega) (g := fl25 (setRow S b (putK (S b) sl n (L n) (Wd n) (2 + (k + 1))))) ((fl25_up (b := b) (i := 6 * sl + (2 + k)) (by omega) (by omega)).trans (congrArg fl25 (by rw [setRow_s, setRow_2, putK_s sloV_2]; rfl))) dX3_place_59 (fun H locs hP hD hS => ?_)
        have hP : va_P D vwCl (wT cI cZ cJ t st ct hd lv wd num lc lvs nb nk key (setRow S b (putK (S b) sl n (L n) (Wd n) (2 + (k + 1)))) C O L Wd) _ := hP
        have hD : va_D A (wT cI cZ cJ t st ct hd lv wd num lc lvs nb nk key (setRow S b (putK (S b) sl n (L n) (Wd n) (2 + (k + 1)))) C O L Wd) := hD
        refine lv_iinc (v := nI (k + 1)) (lv' := [(5, .int (nI (k + 1))), (0, .ref t), (1, .int (nI n)), (2, .int (nI b)), (3, .int (nI sl)), (4, .int (nI (25 * b + 6 * sl)))]) hx hb dX3_place_60 hl (k := 5) rfl (nI_add k 1) (by decide) rfl (fun ls hl => ?_)
        refine lv_goto (tgt := 35) hx hb dX3_place_63 (by decide) ?_
        exact ihL1 (k + 1)  (by omega) (by omega)  _ _ _ hP hD hS (lv_sub hl [1, 2, 3, 4, 5, 0] rfl)
  exact L1 (4 + 1) 0  (by omega) (by omega)  _ _ _ hP hD hS (lv_sub hl [2, 3, 4, 5, 1, 0] rfl)

set_option maxHeartbeats 800000 in
set_option maxRecDepth 100000 in
theorem c_hold (l : Launch) (D : va_G) (cI cZ cJ : ClassId) (t : Nat) (st : Nat) (ct : Nat) (hd : Nat) (lv : Nat) (wd : Nat) (num : Int32) (lc : Nat) (lvs : Nat) (nb : Nat) (nk : Nat) (key : Int32) (S : Nat → Nat → Int32) (C : Nat → Int32) (O : Nat → Int32) (L : Nat → Int32) (Wd : Nat → Nat → Int32) (b sl : Nat) (hT : TP lc lvs nb nk) (hb0 : b < nb) (hs : sl < 4) : KV l yX3_hold wsX3_hold ({ frames := 1, cells := 0, slots := 0, locals := 23 }) D (kty cI cZ cJ) [.ref t, .int (nI (25 * b + 6 * sl))] (wT cI cZ cJ t st ct hd lv wd num lc lvs nb nk key S C O L Wd) (fun (_ : Unit) => True) (fun _ : Unit => (wT cI cZ cJ t st ct hd lv wd num lc lvs nb nk key S C (hoO nk (S b) sl O) (hoL nk (S b) sl L) (hoW nk (S b) sl Wd))) 0 0 := by
  refine k_headV (cc := cX3_hold) (maxL := 4) (ret := none) (by decide) rfl (Nat.le_of_ble_eq_true rfl) ?_
  intro p e s m below meth c A ls args Q hx hb hr hml hts hown hlk hnm hA hK hP hD hS hl hQ
  have hq := hT.bd
  have hl : lv_has ls 4 [(0, .ref t), (1, .int (nI (25 * b + 6 * sl)))] := hl
  refine lv_aload_n hx hb dX3_hold_0 rfl (lv_at hl 0 rfl) ?_
  refine va_get (D := D) (ci := 3) (v := .ref st) (C := RX3) (T := TX3) (N := 11) hx hb hts (by decide +kernel) hown hK hP 0 rfl rfl 5 (by decide) (hts (.fieldLink RX3 27 "VeiledFiles$Tree" "store" "[I") (by decide +kernel)) (fun _ h9 => h9) rfl dX3_hold_1 ?_
  refine lv_iload_n hx hb dX3_hold_4 rfl (lv_at hl 1 rfl) ?_
  refine k_iald hx hb hK hP 1 0 rfl rfl (25 * b + 6 * sl) (by omega) (by omega) (v := S b (6 * sl)) (fl25_eq (b := b) (i := 6 * sl) (by omega) (by omega)) dX3_hold_5 ?_
  refine lv_iconst (v := nI 1) hx hb dX3_hold_6 (by decide) ?_
  refine lv_isub hx hb dX3_hold_7 ?_
  refine lv_istore_n (lv' := [(2, .int ((S b (6 * sl)) - (nI 1))), (0, .ref t), (1, .int (nI (25 * b + 6 * sl)))]) hx hb dX3_hold_8 rfl hl (by decide) rfl (fun ls hl => ?_)
  refine lv_iload_n hx hb dX3_hold_9 rfl (lv_at hl 0 rfl) ?_
  refine lv_if_lt (tgt := 21) hx hb dX3_hold_10 (by decide) (fun c1 => ?_) (fun c1 => ?_)
  · skip
    have hE1 : (wT cI cZ cJ t st ct hd lv wd num lc lvs nb nk key S C O L Wd) = (wT cI cZ cJ t st ct hd lv wd num lc lvs nb nk key S C (hoO nk (S b) sl O) L Wd) := by rw [hoO_n (noB_lt c1)]
    rw [hE1] at hP hD
    have hE2 : (wT cI cZ cJ t st ct hd lv wd num lc lvs nb nk key S C (hoO nk (S b) sl O) L Wd) = (wT cI cZ cJ t st ct hd lv wd num lc lvs nb nk key S C (hoO nk (S b) sl O) (hoL nk (S b) sl L) Wd) := by rw [hoL_n (noB_lt c1)]
    rw [hE2] at hP hD
    have hE3 : (wT cI cZ cJ t st ct hd lv wd num lc lvs nb nk key S C (hoO nk (S b) sl O) (hoL nk (S b) sl L) Wd) = (wT cI cZ cJ t st ct hd lv wd num lc lvs nb nk key S C (hoO nk (S b) sl O) (hoL nk (S b) sl L) (hoW nk (S b) sl Wd)) := by rw [hoW_n (noB_lt c1)]
    rw [hE3] at hP hD
    exact k_retv () hx hb hr hK hS hlk dX3_hold_21 hP hD (trivial) hQ
  · skip
    refine lv_iload_n hx hb dX3_hold_13 rfl (lv_at hl 0 rfl) ?_
    refine lv_aload_n hx hb dX3_hold_14 rfl (lv_at hl 1 rfl) ?_
    refine va_get (D := D) (ci := 3) (v := .int (nI nk)) (C := RX3) (T := TX3) (N := 11) hx hb hts (by decide +kernel) hown hK hP 0 rfl rfl 4 (by decide) (hts (.fieldLink RX3 24 "VeiledFiles$Tree" "blocks" "I") (by decide +kernel)) (fun _ h9 => h9) rfl dX3_hold_15 ?_
    have hnk : nk < 2147483648 := by omega
    refine lv_icmp_lt (tgt := 22) hx hb dX3_hold_18 (by decide) (fun c2 => ?_) (fun c2 => ?_)
    · skip
      obtain ⟨n, hn, hxn⟩ : ∃ n, n < nk ∧ S b (6 * sl) - nI 1 = nI n := noB_false hnk c1 (fun q => absurd c2 (Int32.not_lt.mpr q))
      have hxn1 : S b (6 * sl) - 1 = nI n := hxn
      rw [hxn] at hl
      refine lv_aload_n hx hb dX3_hold_22 rfl (lv_at hl 1 rfl) ?_
      refine va_get (D := D) (ci := 3) (v := .ref hd) (C := RX3) (T := TX3) (N := 11) hx hb hts (by decide +kernel) hown hK hP 0 rfl rfl 7 (by decide) (hts (.fieldLink RX3 34 "VeiledFiles$Tree" "held" "[Z") (by decide +kernel)) (fun _ h9 => h9) rfl dX3_hold_23 ?_
      refine lv_iload_n hx hb dX3_hold_26 rfl (lv_at hl 0 rfl) ?_
      refine lv_iconst (v := nI 1) hx hb dX3_hold_27 (by decide) ?_
      refine k_zast hx hb hK hP hD hS 3 1 rfl rfl n (by omega) (by omega) (g := (upd O n (nI 1))) (rfl) (by first | rfl | decide) dX3_hold_28 (fun H locs hP hD hS => ?_)
      have hP : va_P D vwCl (wT cI cZ cJ t st ct hd lv wd num lc lvs nb nk key S C (upd O n (nI 1)) L Wd) _ := hP
      have hD : va_D A (wT cI cZ cJ t st ct hd lv wd num lc lvs nb nk key S C (upd O n (nI 1)) L Wd) := hD
      refine lv_aload_n hx hb dX3_hold_29 rfl (lv_at hl 1 rfl) ?_
      refine va_get (D := D) (ci := 3) (v := .ref lv) (C := RX3) (T := TX3) (N := 11) hx hb hts (by decide +kernel) hown hK hP 0 rfl rfl 8 (by decide) (hts (.fieldLink RX3 38 "VeiledFiles$Tree" "leaves" "[I") (by decide +kernel)) (fun _ h9 => h9) rfl dX3_hold_30 ?_
      refine lv_iload_n hx hb dX3_hold_33 rfl (lv_at hl 0 rfl) ?_
      refine lv_aload_n hx hb dX3_hold_34 rfl (lv_at hl 1 rfl) ?_
      refine va_get (D := D) (ci := 3) (v := .ref st) (C := RX3) (T := TX3) (N := 11) hx hb hts (by decide +kernel) hown hK hP 0 rfl rfl 5 (by decide) (hts (.fieldLink RX3 27 "VeiledFiles$Tree" "store" "[I") (by decide +kernel)) (fun _ h9 => h9) rfl dX3_hold_35 ?_
      refine lv_iload_n hx hb dX3_hold_38 rfl (lv_at hl 2 rfl) ?_
      refine lv_iconst (v := nI 1) hx hb dX3_hold_39 (by decide) ?_
      refine lv_iadd hx hb dX3_hold_40 ?_
      refine k_t1 (show (nI (25 * b + 6 * sl)) + (nI 1) = nI (25 * b + 6 * sl + 1) from nI_add _ _) ?_
      refine k_iald hx hb hK hP 1 0 rfl rfl (25 * b + 6 * sl + 1) (by omega) (by omega) (v := S b (6 * sl + 1)) (fl25_eq (b := b) (i := 6 * sl + 1) (by omega) (by omega)) dX3_hold_41 ?_
      refine k_iast hx hb hK hP hD hS 4 0 rfl rfl n (by omega) (by omega) (g := (upd L n (S b (6 * sl + 1)))) (rfl) dX3_hold_42 (fun H locs hP hD hS => ?_)
      have hP : va_P D vwCl (wT cI cZ cJ t st ct hd lv wd num lc lvs nb nk key S C (upd O n (nI 1)) (upd L n (S b (6 * sl + 1))) Wd) _ := hP
      have hD : va_D A (wT cI cZ cJ t st ct hd lv wd num lc lvs nb nk key S C (upd O n (nI 1)) (upd L n (S b (6 * sl + 1))) Wd) := hD
      refine lv_iconst (v := nI 0) hx hb dX3_hold_43 (by decide) ?_
      refine lv_istore_n (lv' := [(3, .int (nI 0)), (2, .int (nI n)), (0, .ref t), (1, .int (nI (25 * b + 6 * sl)))]) hx hb dX3_hold_44 rfl hl (by decide) rfl (fun ls hl => ?_)
      have hE4 : (wT cI cZ cJ t st ct hd lv wd num lc lvs nb nk key S C (upd O n (nI 1)) (upd L n (S b (6 * sl + 1))) Wd) = (wT cI cZ cJ t st ct hd lv wd num lc lvs nb nk key S C (hoO nk (S b) sl O) (upd L n (S b (6 * sl + 1))) Wd) := by rw [hoO_y hn hnk hxn1]; rfl
      rw [hE4] at hP hD
      have hE5 : (wT cI cZ cJ t st ct hd lv wd num lc lvs nb nk key S C (hoO nk (S b) sl O) (upd L n (S b (6 * sl + 1))) Wd) = (wT cI cZ cJ t st ct hd lv wd num lc lvs nb nk key S C (hoO nk (S b) sl O) (hoL nk (S b) sl L) Wd) := by rw [hoL_y hn hnk hxn1]
      rw [hE5] at hP hD
      have hE6 : (wT cI cZ cJ t st ct hd lv wd num lc lvs nb nk key S C (hoO nk (S b) sl O) (hoL nk (S b) sl L) Wd) = (wT cI cZ cJ t st ct hd lv wd num lc lvs nb nk key S C (hoO nk (S b) sl O) (hoL nk (S b) sl L) (setRow Wd n (wdK (S b) sl (Wd n) 0))) := by rw [wdK_0, setRow_id]
      rw [hE6] at hP hD
      have L1 : ∀ (nf k : Nat) (hvL1 : k ≤ 4) (hFL1 : 4 - k < nf) (H : Heap) (locs : List Loc) (ls : Array Slot), va_P D vwCl (wT cI cZ cJ t st ct hd lv wd num lc lvs nb nk key S C (hoO nk (S b) sl O) (hoL nk (S b) sl L) (setRow Wd n (wdK (S b) sl (Wd n) k))) H → va_D A (wT cI cZ cJ t st ct hd lv wd num lc lvs nb nk key S C (hoO nk (S b) sl O) (hoL nk (S b) sl L) (setRow Wd n (wdK (S b) sl (Wd n) k))) → va_S A s.heap H locs → lv_has ls 4 [(0, .ref t), (1, .int (nI (25 * b + 6 * sl))), (2, .int (nI n)), (3, .int (nI k))] → W p l e ({ frames := 1, cells := 0, slots := 0, locals := 23 } : Room) s m args below meth c H locs 0 0 Q (F0 m 45 ls []) := by
        intro nf
        induction nf with
        | zero => intro k  hvL1 hFL1; omega
        | succ nf ihL1 =>
          intro k  hvL1 hFL1  H locs ls hP hD hS hl
          refine lv_iload_n hx hb dX3_hold_45 rfl (lv_at hl 3 rfl) ?_
          refine lv_iconst (v := nI 4) hx hb dX3_hold_46 (by decide) ?_
          refine k_icmp_ge (tgt := 72) hx hb (by omega) (by omega) dX3_hold_47 (by decide) (fun c3 => ?_) (fun c3 => ?_)
          · skip
            obtain rfl : k = 4 := by omega
            have hE7 : (wT cI cZ cJ t st ct hd lv wd num lc lvs nb nk key S C (hoO nk (S b) sl O) (hoL nk (S b) sl L) (setRow Wd n (wdK (S b) sl (Wd n) 4))) = (wT cI cZ cJ t st ct hd lv wd num lc lvs nb nk key S C (hoO nk (S b) sl O) (hoL nk (S b) sl L) (hoW nk (S b) sl Wd)) := by rw [hoW_y hn hnk hxn1]
            rw [hE7] at hP hD
            exact k_retv () hx hb hr hK hS hlk dX3_hold_72 hP hD (trivial) hQ
          · skip
            refine lv_aload_n hx hb dX3_hold_50 rfl (lv_at hl 0 rfl) ?_
            refine lv_iload_n hx hb dX3_hold_51 rfl (lv_at hl 2 rfl) ?_
            refine lv_iload_n hx hb dX3_hold_52 rfl (lv_at hl 3 rfl) ?_
            refine lv_aload_n hx hb dX3_hold_53 rfl (lv_at hl 0 rfl) ?_
            refine va_get (D := D) (ci := 3) (v := .ref st) (C := RX3) (T := TX3) (N := 11) hx hb hts (by decide +kernel) hown hK hP 0 rfl rfl 5 (by decide) (hts (.fieldLink RX3 27 "VeiledFiles$Tree" "store" "[I") (by decide +kernel)) (fun _ h9 => h9) rfl dX3_hold_54 ?_
            refine lv_iload_n hx hb dX3_hold_57 rfl (lv_at hl 1 rfl) ?_
            refine lv_iconst (v := nI 2) hx hb dX3_hold_58 (by decide) ?_
            refine lv_iadd hx hb dX3_hold_59 ?_
            refine k_t1 (show (nI (25 * b + 6 * sl)) + (nI 2) = nI (25 * b + 6 * sl + 2) from nI_add _ _) ?_
            refine lv_iload_n hx hb dX3_hold_60 rfl (lv_at hl 3 rfl) ?_
            refine lv_iadd hx hb dX3_hold_61 ?_
            refine k_t1 (show (nI (25 * b + 6 * sl + 2)) + (nI k) = nI (25 * b + 6 * sl + 2 + k) from nI_add _ _) ?_
            refine k_iald hx hb hK hP 1 0 rfl rfl (25 * b + 6 * sl + 2 + k) (by omega) (by omega) (v := S b (6 * sl + 2 + k)) (fl25_eq (b := b) (i := 6 * sl + 2 + k) (by omega) (by omega)) dX3_hold_62 ?_
            refine k_vv (As := [.int (nI n), .int (nI k), .int (S b (6 * sl + 2 + k))]) (rest := []) (w2 := fun u : Unit => (wT cI cZ cJ t st ct hd lv wd num lc lvs nb nk key S C (hoO nk (S b) sl O) (hoL nk (S b) sl L) (setRow (setRow Wd n (wdK (S b) sl (Wd n) k)) n (upd ((setRow Wd n (wdK (S b) sl (Wd n) k)) n) k (S b (6 * sl + 2 + k)))))) ⟨hx, hb, hml, hown, hts⟩ (c_setWord l D cI cZ cJ t st ct hd lv wd num lc lvs nb nk key S C (hoO nk (S b) sl O) (hoL nk (S b) sl L) (setRow Wd n (wdK (S b) sl (Wd n) k)) n k (S b (6 * sl + 2 + k)) hT hn (by omega)) (cwV 3 hts gX3_hold_X3_setWord rfl rfl rfl (by decide +kernel) ⟨Nat.le_of_ble_eq_true rfl, Nat.le_of_ble_eq_true rfl⟩) hP hD hK hS hA [0, 1, 2, 3, 4, 5] [] [0, 1, 2, 3, 4, 5] rfl rfl (by decide) (fun u => rfl) rfl rfl (q0 := 0) rfl rfl hl.1 rfl (Nat.le_of_ble_eq_true rfl) dX3_hold_63 ⟨Nat.le_of_ble_eq_true rfl, Nat.le_of_ble_eq_true rfl⟩ (fun u H locs hu8 hP hD hS => ?_)
            have hE9 : (wT cI cZ cJ t st ct hd lv wd num lc lvs nb nk key S C (hoO nk (S b) sl O) (hoL nk (S b) sl L) (setRow (setRow Wd n (wdK (S b) sl (Wd n) k)) n (upd ((setRow Wd n (wdK (S b) sl (Wd n) k)) n) k (S b (6 * sl + 2 + k))))) = (wT cI cZ cJ t st ct hd lv wd num lc lvs nb nk key S C (hoO nk (S b) sl O) (hoL nk (S b) sl L) (setRow Wd n (wdK (S b) sl (Wd n) (k + 1)))) := by rw [setRow_s, setRow_2, wdK_s]
            rw [hE9] at hP hD
            refine lv_iinc (v := nI (k + 1)) (lv' := [(3, .int (nI (k + 1))), (0, .ref t), (1, .int (nI (25 * b + 6 * sl))), (2, .int (nI n))]) hx hb dX3_hold_66 hl (k := 3) rfl (nI_add k 1) (by decide) rfl (fun ls hl => ?_)
            refine lv_goto (tgt := 45) hx hb dX3_hold_69 (by decide) ?_
            exact ihL1 (k + 1)  (by omega) (by omega)  _ _ _ hP hD hS (lv_sub hl [1, 2, 3, 0] rfl)
      exact L1 (4 + 1) 0  (by omega) (by omega)  _ _ _ hP hD hS (lv_sub hl [2, 3, 1, 0] rfl)
    · skip
      have hE10 : (wT cI cZ cJ t st ct hd lv wd num lc lvs nb nk key S C O L Wd) = (wT cI cZ cJ t st ct hd lv wd num lc lvs nb nk key S C (hoO nk (S b) sl O) L Wd) := by rw [hoO_n (noB_ge (Int32.not_lt.mp c2))]
      rw [hE10] at hP hD
      have hE11 : (wT cI cZ cJ t st ct hd lv wd num lc lvs nb nk key S C (hoO nk (S b) sl O) L Wd) = (wT cI cZ cJ t st ct hd lv wd num lc lvs nb nk key S C (hoO nk (S b) sl O) (hoL nk (S b) sl L) Wd) := by rw [hoL_n (noB_ge (Int32.not_lt.mp c2))]
      rw [hE11] at hP hD
      have hE12 : (wT cI cZ cJ t st ct hd lv wd num lc lvs nb nk key S C (hoO nk (S b) sl O) (hoL nk (S b) sl L) Wd) = (wT cI cZ cJ t st ct hd lv wd num lc lvs nb nk key S C (hoO nk (S b) sl O) (hoL nk (S b) sl L) (hoW nk (S b) sl Wd)) := by rw [hoW_n (noB_ge (Int32.not_lt.mp c2))]
      rw [hE12] at hP hD
      exact k_retv () hx hb hr hK hS hlk dX3_hold_21 hP hD (trivial) hQ

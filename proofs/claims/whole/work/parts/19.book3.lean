set_option maxHeartbeats 800000 in
set_option maxRecDepth 100000 in
theorem c_btw_o (l : Launch) (D : va_G) (cI cZ cJ : ClassId) (bk : Nat) (nm : Nat) (ln : Nat) (pt : Nat) (tk : Nat) (NM : Nat → Int64) (TH : Nat → Int32) (SZ : Nat → Nat) (PT : Nat → Nat) (TK : Nat → Int32) (f i : Nat) (hf : f < 8) (ht : ¬ TH f = 0) (hi : i ≤ SZ f) (hi2 : i < 24) (hs : SZ f ≤ 24) (ho : i = SZ f ∧ i % 4 = 0) (hd : frQ TK 64 < 64) : KI l yX0_blockToWrite wsX0_blockToWrite ({ frames := 2, cells := 0, slots := 0, locals := 43 }) D (kty cI cZ cJ) [.ref bk, .int (nI f), .int (nI i)] (wB cI cZ cJ bk nm ln pt tk NM TH SZ PT TK) (fun r (_ : Unit) => r = nI (frQ TK 64)) (fun _ : Unit => (wB cI cZ cJ bk nm ln pt tk NM TH SZ PT TK)) 0 0 := by
  refine k_headI (cc := cX0_blockToWrite) (maxL := 3) (ret := (some .int)) (by decide) rfl (Nat.le_of_ble_eq_true rfl) ?_
  intro p e s m below meth c A ls args Q hx hb hr hml hts hown hlk hnm hA hK hP hD hS hl hQ
  have hl : lv_has ls 3 [(0, .ref bk), (1, .int (nI f)), (2, .int (nI i))] := hl
  refine lv_iload_n hx hb dX0_blockToWrite_0 rfl (lv_at hl 2 rfl) ?_
  refine lv_if_lt (tgt := 19) hx hb dX0_blockToWrite_1 (by decide) (fun c1 => ?_) (fun c1 => ?_)
  · skip
    exact absurd c1 (nI_pos (by omega))
  · skip
    refine lv_iload_n hx hb dX0_blockToWrite_4 rfl (lv_at hl 2 rfl) ?_
    refine lv_aload_n hx hb dX0_blockToWrite_5 rfl (lv_at hl 0 rfl) ?_
    refine lv_iload_n hx hb dX0_blockToWrite_6 rfl (lv_at hl 1 rfl) ?_
    refine k_vi (As := [.int (nI f)]) (rest := [.int (nI i)]) (w2 := fun u : Unit => (wB cI cZ cJ bk nm ln pt tk NM TH SZ PT TK)) ⟨hx, hb, hml, hown, hts⟩ (c_lengthOf_y l D cI cZ cJ bk nm ln pt tk NM TH SZ PT TK f hf ht) (cwV 1 hts gX0_blockToWrite_X0_lengthOf rfl rfl rfl (by decide +kernel) ⟨Nat.le_of_ble_eq_true rfl, Nat.le_of_ble_eq_true rfl⟩) hP hD hK hS hA [0, 1, 2, 3, 4] [] [0, 1, 2, 3, 4] rfl rfl (by decide) (fun u => rfl) rfl rfl (q0 := 0) rfl rfl hl.1 rfl (Nat.le_of_ble_eq_true rfl) dX0_blockToWrite_7 ⟨Nat.le_of_ble_eq_true rfl, Nat.le_of_ble_eq_true rfl⟩ (fun r u H locs hu1 hP hD hS => ?_)
    refine k_t1 (show r = nI (SZ f) from hu1) ?_
    refine k_icmp_gt (tgt := 19) hx hb (by omega) (by omega) dX0_blockToWrite_10 (by decide) (fun c2 => ?_) (fun c2 => ?_)
    · skip
      omega
    · skip
      refine lv_iload_n hx hb dX0_blockToWrite_13 rfl (lv_at hl 2 rfl) ?_
      refine lv_bipush (v := nI 24) hx hb dX0_blockToWrite_14 (by decide) ?_
      refine k_icmp_lt (tgt := 21) hx hb (by omega) (by omega) dX0_blockToWrite_16 (by decide) (fun c3 => ?_) (fun c3 => ?_)
      · skip
        refine lv_aload_n hx hb dX0_blockToWrite_21 rfl (lv_at hl 0 rfl) ?_
        refine lv_iload_n hx hb dX0_blockToWrite_22 rfl (lv_at hl 1 rfl) ?_
        refine lv_iload_n hx hb dX0_blockToWrite_23 rfl (lv_at hl 2 rfl) ?_
        refine k_vi (As := [.int (nI f), .int (nI i)]) (rest := []) (w2 := fun u : Unit => (wB cI cZ cJ bk nm ln pt tk NM TH SZ PT TK)) ⟨hx, hb, hml, hown, hts⟩ (c_opens_y l D cI cZ cJ bk nm ln pt tk NM TH SZ PT TK f i hf ht ho.1 ho.2 hs) (cwV 2 hts gX0_blockToWrite_X0_opensPart rfl rfl rfl (by decide +kernel) ⟨Nat.le_of_ble_eq_true rfl, Nat.le_of_ble_eq_true rfl⟩) hP hD hK hS hA [0, 1, 2, 3, 4] [] [0, 1, 2, 3, 4] rfl rfl (by decide) (fun u => rfl) rfl rfl (q0 := 0) rfl rfl hl.1 rfl (Nat.le_of_ble_eq_true rfl) dX0_blockToWrite_24 ⟨Nat.le_of_ble_eq_true rfl, Nat.le_of_ble_eq_true rfl⟩ (fun r u H locs hu2 hP hD hS => ?_)
        refine k_t1 (show r = 1 from hu2) ?_
        refine lv_if_eq (tgt := 37) hx hb dX0_blockToWrite_27 (by decide) (fun c4 => ?_) (fun c4 => ?_)
        · skip
          exact absurd c4 (by decide)
        · skip
          refine lv_aload_n hx hb dX0_blockToWrite_30 rfl (lv_at hl 0 rfl) ?_
          refine k_vi (As := []) (rest := []) (w2 := fun u : Unit => (wB cI cZ cJ bk nm ln pt tk NM TH SZ PT TK)) ⟨hx, hb, hml, hown, hts⟩ (c_leastFreeBlock l D cI cZ cJ bk nm ln pt tk NM TH SZ PT TK ) (cwV 0 hts gX0_blockToWrite_X0_leastFreeBlock rfl rfl rfl (by decide +kernel) ⟨Nat.le_of_ble_eq_true rfl, Nat.le_of_ble_eq_true rfl⟩) hP hD hK hS hA [0, 1, 2, 3, 4] [] [0, 1, 2, 3, 4] rfl rfl (by decide) (fun u => rfl) rfl rfl (q0 := 0) rfl rfl hl.1 rfl (Nat.le_of_ble_eq_true rfl) dX0_blockToWrite_31 ⟨Nat.le_of_ble_eq_true rfl, Nat.le_of_ble_eq_true rfl⟩ (fun r u H locs hu3 hP hD hS => ?_)
          refine k_t1 (show r = idx8 64 (frQ TK 64) from hu3) ?_
          refine k_t1 (show idx8 64 (frQ TK 64) = nI (frQ TK 64) from idx8_y hd) ?_
          refine lv_goto (tgt := 47) hx hb dX0_blockToWrite_34 (by decide) ?_
          exact k_reti () hx hb hr hK hS hlk dX0_blockToWrite_47 hP hD (rfl) hQ
      · skip
        omega

set_option maxHeartbeats 800000 in
set_option maxRecDepth 100000 in
theorem c_btw_i (l : Launch) (D : va_G) (cI cZ cJ : ClassId) (bk : Nat) (nm : Nat) (ln : Nat) (pt : Nat) (tk : Nat) (NM : Nat → Int64) (TH : Nat → Int32) (SZ : Nat → Nat) (PT : Nat → Nat) (TK : Nat → Int32) (f i : Nat) (hf : f < 8) (ht : ¬ TH f = 0) (hi : i ≤ SZ f) (hi2 : i < 24) (hs : SZ f ≤ 24) (ho : ¬ (i = SZ f ∧ i % 4 = 0)) : KI l yX0_blockToWrite wsX0_blockToWrite ({ frames := 2, cells := 0, slots := 0, locals := 43 }) D (kty cI cZ cJ) [.ref bk, .int (nI f), .int (nI i)] (wB cI cZ cJ bk nm ln pt tk NM TH SZ PT TK) (fun r (_ : Unit) => r = nI (PT (6 * f + i / 4))) (fun _ : Unit => (wB cI cZ cJ bk nm ln pt tk NM TH SZ PT TK)) 0 0 := by
  refine k_headI (cc := cX0_blockToWrite) (maxL := 3) (ret := (some .int)) (by decide) rfl (Nat.le_of_ble_eq_true rfl) ?_
  intro p e s m below meth c A ls args Q hx hb hr hml hts hown hlk hnm hA hK hP hD hS hl hQ
  have hl : lv_has ls 3 [(0, .ref bk), (1, .int (nI f)), (2, .int (nI i))] := hl
  refine lv_iload_n hx hb dX0_blockToWrite_0 rfl (lv_at hl 2 rfl) ?_
  refine lv_if_lt (tgt := 19) hx hb dX0_blockToWrite_1 (by decide) (fun c1 => ?_) (fun c1 => ?_)
  · skip
    exact absurd c1 (nI_pos (by omega))
  · skip
    refine lv_iload_n hx hb dX0_blockToWrite_4 rfl (lv_at hl 2 rfl) ?_
    refine lv_aload_n hx hb dX0_blockToWrite_5 rfl (lv_at hl 0 rfl) ?_
    refine lv_iload_n hx hb dX0_blockToWrite_6 rfl (lv_at hl 1 rfl) ?_
    refine k_vi (As := [.int (nI f)]) (rest := [.int (nI i)]) (w2 := fun u : Unit => (wB cI cZ cJ bk nm ln pt tk NM TH SZ PT TK)) ⟨hx, hb, hml, hown, hts⟩ (c_lengthOf_y l D cI cZ cJ bk nm ln pt tk NM TH SZ PT TK f hf ht) (cwV 1 hts gX0_blockToWrite_X0_lengthOf rfl rfl rfl (by decide +kernel) ⟨Nat.le_of_ble_eq_true rfl, Nat.le_of_ble_eq_true rfl⟩) hP hD hK hS hA [0, 1, 2, 3, 4] [] [0, 1, 2, 3, 4] rfl rfl (by decide) (fun u => rfl) rfl rfl (q0 := 0) rfl rfl hl.1 rfl (Nat.le_of_ble_eq_true rfl) dX0_blockToWrite_7 ⟨Nat.le_of_ble_eq_true rfl, Nat.le_of_ble_eq_true rfl⟩ (fun r u H locs hu1 hP hD hS => ?_)
    refine k_t1 (show r = nI (SZ f) from hu1) ?_
    refine k_icmp_gt (tgt := 19) hx hb (by omega) (by omega) dX0_blockToWrite_10 (by decide) (fun c2 => ?_) (fun c2 => ?_)
    · skip
      omega
    · skip
      refine lv_iload_n hx hb dX0_blockToWrite_13 rfl (lv_at hl 2 rfl) ?_
      refine lv_bipush (v := nI 24) hx hb dX0_blockToWrite_14 (by decide) ?_
      refine k_icmp_lt (tgt := 21) hx hb (by omega) (by omega) dX0_blockToWrite_16 (by decide) (fun c3 => ?_) (fun c3 => ?_)
      · skip
        refine lv_aload_n hx hb dX0_blockToWrite_21 rfl (lv_at hl 0 rfl) ?_
        refine lv_iload_n hx hb dX0_blockToWrite_22 rfl (lv_at hl 1 rfl) ?_
        refine lv_iload_n hx hb dX0_blockToWrite_23 rfl (lv_at hl 2 rfl) ?_
        refine k_vi (As := [.int (nI f), .int (nI i)]) (rest := []) (w2 := fun u : Unit => (wB cI cZ cJ bk nm ln pt tk NM TH SZ PT TK)) ⟨hx, hb, hml, hown, hts⟩ (c_opens_n l D cI cZ cJ bk nm ln pt tk NM TH SZ PT TK f i hf ht ho hs (by omega)) (cwV 2 hts gX0_blockToWrite_X0_opensPart rfl rfl rfl (by decide +kernel) ⟨Nat.le_of_ble_eq_true rfl, Nat.le_of_ble_eq_true rfl⟩) hP hD hK hS hA [0, 1, 2, 3, 4] [] [0, 1, 2, 3, 4] rfl rfl (by decide) (fun u => rfl) rfl rfl (q0 := 0) rfl rfl hl.1 rfl (Nat.le_of_ble_eq_true rfl) dX0_blockToWrite_24 ⟨Nat.le_of_ble_eq_true rfl, Nat.le_of_ble_eq_true rfl⟩ (fun r u H locs hu2 hP hD hS => ?_)
        refine k_t1 (show r = 0 from hu2) ?_
        refine lv_if_eq (tgt := 37) hx hb dX0_blockToWrite_27 (by decide) (fun c4 => ?_) (fun c4 => ?_)
        · skip
          refine lv_aload_n hx hb dX0_blockToWrite_37 rfl (lv_at hl 0 rfl) ?_
          refine va_get (D := D) (ci := 0) (v := .ref pt) (C := RX0) (T := TX0) (N := 4) hx hb hts (by decide +kernel) hown hK hP 0 rfl rfl 2 (by decide) (hts (.fieldLink RX0 19 "VeiledFiles$Book" "partBlocks" "[I") (by decide +kernel)) (fun _ h9 => h9) rfl dX0_blockToWrite_38 ?_
          refine lv_iload_n hx hb dX0_blockToWrite_41 rfl (lv_at hl 1 rfl) ?_
          refine lv_iload_n hx hb dX0_blockToWrite_42 rfl (lv_at hl 2 rfl) ?_
          refine k_si (As := [.int (nI f), .int (nI i)]) (rest := [.ref pt]) (w2 := fun u : Unit => (wB cI cZ cJ bk nm ln pt tk NM TH SZ PT TK)) ⟨hx, hb, hml, hown, hts⟩ (c_partAt l D cI cZ cJ  f i (by omega)) (va_cwS 2 hts gX0_blockToWrite_X0_partAt rfl rfl rfl (by decide +kernel) ⟨Nat.le_of_ble_eq_true rfl, Nat.le_of_ble_eq_true rfl⟩) hP hD hK hS hA [] [0, 1, 2, 3, 4] [0, 1, 2, 3, 4] rfl rfl (by decide) (fun u => rfl) rfl hl.1 rfl (Nat.le_of_ble_eq_true rfl) dX0_blockToWrite_43 ⟨Nat.le_of_ble_eq_true rfl, Nat.le_of_ble_eq_true rfl⟩ (fun r u H locs hu3 hP hD hS => ?_)
          refine k_t1 (show r = nI (6 * f + i / 4) from hu3) ?_
          refine k_iald hx hb hK hP 3 0 rfl rfl (6 * f + i / 4) (by omega) (by omega) (v := (nIf PT) (6 * f + i / 4)) (rfl) dX0_blockToWrite_46 ?_
          exact k_reti () hx hb hr hK hS hlk dX0_blockToWrite_47 hP hD (rfl) hQ
        · skip
          exact absurd rfl c4
      · skip
        omega

set_option maxHeartbeats 800000 in
set_option maxRecDepth 100000 in
theorem c_btw_n (l : Launch) (D : va_G) (cI cZ cJ : ClassId) (bk : Nat) (nm : Nat) (ln : Nat) (pt : Nat) (tk : Nat) (NM : Nat → Int64) (TH : Nat → Int32) (SZ : Nat → Nat) (PT : Nat → Nat) (TK : Nat → Int32) (x i : Int32) (hbad : badW TH SZ x i) (hSZ : ∀ f, f < 8 → SZ f ≤ 24) : KI l yX0_blockToWrite wsX0_blockToWrite ({ frames := 1, cells := 0, slots := 0, locals := 21 }) D (kty cI cZ cJ) [.ref bk, .int x, .int i] (wB cI cZ cJ bk nm ln pt tk NM TH SZ PT TK) (fun r (_ : Unit) => r = -1) (fun _ : Unit => (wB cI cZ cJ bk nm ln pt tk NM TH SZ PT TK)) 0 0 := by
  refine k_headI (cc := cX0_blockToWrite) (maxL := 3) (ret := (some .int)) (by decide) rfl (Nat.le_of_ble_eq_true rfl) ?_
  intro p e s m below meth c A ls args Q hx hb hr hml hts hown hlk hnm hA hK hP hD hS hl hQ
  have hl : lv_has ls 3 [(0, .ref bk), (1, .int x), (2, .int i)] := hl
  refine lv_iload_n hx hb dX0_blockToWrite_0 rfl (lv_at hl 2 rfl) ?_
  refine lv_if_lt (tgt := 19) hx hb dX0_blockToWrite_1 (by decide) (fun c1 => ?_) (fun c1 => ?_)
  · skip
    refine lv_iconst (v := -1) hx hb dX0_blockToWrite_19 (by decide) ?_
    exact k_reti () hx hb hr hK hS hlk dX0_blockToWrite_20 hP hD (rfl) hQ
  · skip
    refine lv_iload_n hx hb dX0_blockToWrite_4 rfl (lv_at hl 2 rfl) ?_
    refine lv_aload_n hx hb dX0_blockToWrite_5 rfl (lv_at hl 0 rfl) ?_
    refine lv_iload_n hx hb dX0_blockToWrite_6 rfl (lv_at hl 1 rfl) ?_
    rcases hbad with hbad | hf | ⟨f, hf, rfl, ht, hi⟩
    · skip
      exact absurd hbad c1
    · skip
      refine k_vi (As := [.int x]) (rest := [.int i]) (w2 := fun u : Unit => (wB cI cZ cJ bk nm ln pt tk NM TH SZ PT TK)) ⟨hx, hb, hml, hown, hts⟩ (c_lengthOf_n l D cI cZ cJ bk nm ln pt tk NM TH SZ PT TK x hf) (cwV 1 hts gX0_blockToWrite_X0_lengthOf rfl rfl rfl (by decide +kernel) ⟨Nat.le_of_ble_eq_true rfl, Nat.le_of_ble_eq_true rfl⟩) hP hD hK hS hA [0, 1, 2, 3, 4] [] [0, 1, 2, 3, 4] rfl rfl (by decide) (fun u => rfl) rfl rfl (q0 := 0) rfl rfl hl.1 rfl (Nat.le_of_ble_eq_true rfl) dX0_blockToWrite_7 ⟨Nat.le_of_ble_eq_true rfl, Nat.le_of_ble_eq_true rfl⟩ (fun r u H locs hu1 hP hD hS => ?_)
      refine k_t1 (show r = -1 from hu1) ?_
      refine lv_icmp_gt (tgt := 19) hx hb dX0_blockToWrite_10 (by decide) (fun c2 => ?_) (fun c2 => ?_)
      · skip
        refine lv_iconst (v := -1) hx hb dX0_blockToWrite_19 (by decide) ?_
        exact k_reti () hx hb hr hK hS hlk dX0_blockToWrite_20 hP hD (rfl) hQ
      · skip
        exact absurd (Int32.lt_of_lt_of_le (show (-1 : Int32) < 0 by decide) (Int32.not_lt.mp c1)) c2
    · skip
      refine k_vi (As := [.int (nI f)]) (rest := [.int i]) (w2 := fun u : Unit => (wB cI cZ cJ bk nm ln pt tk NM TH SZ PT TK)) ⟨hx, hb, hml, hown, hts⟩ (c_lengthOf_y l D cI cZ cJ bk nm ln pt tk NM TH SZ PT TK f hf ht) (cwV 1 hts gX0_blockToWrite_X0_lengthOf rfl rfl rfl (by decide +kernel) ⟨Nat.le_of_ble_eq_true rfl, Nat.le_of_ble_eq_true rfl⟩) hP hD hK hS hA [0, 1, 2, 3, 4] [] [0, 1, 2, 3, 4] rfl rfl (by decide) (fun u => rfl) rfl rfl (q0 := 0) rfl rfl hl.1 rfl (Nat.le_of_ble_eq_true rfl) dX0_blockToWrite_7 ⟨Nat.le_of_ble_eq_true rfl, Nat.le_of_ble_eq_true rfl⟩ (fun r u H locs hu2 hP hD hS => ?_)
      refine k_t1 (show r = nI (SZ f) from hu2) ?_
      refine lv_icmp_gt (tgt := 19) hx hb dX0_blockToWrite_10 (by decide) (fun c2 => ?_) (fun c2 => ?_)
      · skip
        refine lv_iconst (v := -1) hx hb dX0_blockToWrite_19 (by decide) ?_
        exact k_reti () hx hb hr hK hS hlk dX0_blockToWrite_20 hP hD (rfl) hQ
      · skip
        refine lv_iload_n hx hb dX0_blockToWrite_13 rfl (lv_at hl 2 rfl) ?_
        refine lv_bipush (v := nI 24) hx hb dX0_blockToWrite_14 (by decide) ?_
        refine lv_icmp_lt (tgt := 21) hx hb dX0_blockToWrite_16 (by decide) (fun c3 => ?_) (fun c3 => ?_)
        · skip
          rcases hi with hi | hi
          · exact absurd hi c2
          · exact absurd c3 (Int32.not_lt.mpr hi)
        · skip
          refine lv_iconst (v := -1) hx hb dX0_blockToWrite_19 (by decide) ?_
          exact k_reti () hx hb hr hK hS hlk dX0_blockToWrite_20 hP hD (rfl) hQ

set_option maxHeartbeats 800000 in
set_option maxRecDepth 100000 in
theorem c_nw_o (l : Launch) (D : va_G) (cI cZ cJ : ClassId) (bk : Nat) (nm : Nat) (ln : Nat) (pt : Nat) (tk : Nat) (NM : Nat → Int64) (TH : Nat → Int32) (SZ : Nat → Nat) (PT : Nat → Nat) (TK : Nat → Int32) (f i d : Nat) (hf : f < 8) (ht : ¬ TH f = 0) (hs : SZ f ≤ 24) (hi2 : i < 24) (hd : d < 64) (hi : i = SZ f) (hm : i % 4 = 0) : KV l yX0_noteWritten wsX0_noteWritten ({ frames := 2, cells := 0, slots := 0, locals := 43 }) D (kty cI cZ cJ) [.ref bk, .int (nI f), .int (nI i), .int (nI d)] (wB cI cZ cJ bk nm ln pt tk NM TH SZ PT TK) (fun (_ : Unit) => True) (fun _ : Unit => (wB cI cZ cJ bk nm ln pt tk NM TH (upN SZ f (SZ f + 1)) (upN PT (6 * f + i / 4) d) (upd TK d 1))) 0 0 := by
  refine k_headV (cc := cX0_noteWritten) (maxL := 4) (ret := none) (by decide) rfl (Nat.le_of_ble_eq_true rfl) ?_
  intro p e s m below meth c A ls args Q hx hb hr hml hts hown hlk hnm hA hK hP hD hS hl hQ
  have hl : lv_has ls 4 [(0, .ref bk), (1, .int (nI f)), (2, .int (nI i)), (3, .int (nI d))] := hl
  refine lv_aload_n hx hb dX0_noteWritten_0 rfl (lv_at hl 0 rfl) ?_
  refine lv_iload_n hx hb dX0_noteWritten_1 rfl (lv_at hl 1 rfl) ?_
  refine lv_iload_n hx hb dX0_noteWritten_2 rfl (lv_at hl 2 rfl) ?_
  refine k_vi (As := [.int (nI f), .int (nI i)]) (rest := []) (w2 := fun u : Unit => (wB cI cZ cJ bk nm ln pt tk NM TH SZ PT TK)) ⟨hx, hb, hml, hown, hts⟩ (c_opens_y l D cI cZ cJ bk nm ln pt tk NM TH SZ PT TK f i hf ht hi hm hs) (cwV 2 hts gX0_noteWritten_X0_opensPart rfl rfl rfl (by decide +kernel) ⟨Nat.le_of_ble_eq_true rfl, Nat.le_of_ble_eq_true rfl⟩) hP hD hK hS hA [0, 1, 2, 3, 4] [] [0, 1, 2, 3, 4] rfl rfl (by decide) (fun u => rfl) rfl rfl (q0 := 0) rfl rfl hl.1 rfl (Nat.le_of_ble_eq_true rfl) dX0_noteWritten_3 ⟨Nat.le_of_ble_eq_true rfl, Nat.le_of_ble_eq_true rfl⟩ (fun r u H locs hu1 hP hD hS => ?_)
  refine k_t1 (show r = 1 from hu1) ?_
  refine lv_if_eq (tgt := 27) hx hb dX0_noteWritten_6 (by decide) (fun c1 => ?_) (fun c1 => ?_)
  · skip
    exact absurd c1 (by decide)
  · skip
    refine lv_aload_n hx hb dX0_noteWritten_9 rfl (lv_at hl 0 rfl) ?_
    refine va_get (D := D) (ci := 0) (v := .ref pt) (C := RX0) (T := TX0) (N := 4) hx hb hts (by decide +kernel) hown hK hP 0 rfl rfl 2 (by decide) (hts (.fieldLink RX0 19 "VeiledFiles$Book" "partBlocks" "[I") (by decide +kernel)) (fun _ h9 => h9) rfl dX0_noteWritten_10 ?_
    refine lv_iload_n hx hb dX0_noteWritten_13 rfl (lv_at hl 1 rfl) ?_
    refine lv_iload_n hx hb dX0_noteWritten_14 rfl (lv_at hl 2 rfl) ?_
    refine k_si (As := [.int (nI f), .int (nI i)]) (rest := [.ref pt]) (w2 := fun u : Unit => (wB cI cZ cJ bk nm ln pt tk NM TH SZ PT TK)) ⟨hx, hb, hml, hown, hts⟩ (c_partAt l D cI cZ cJ  f i (by omega)) (va_cwS 2 hts gX0_noteWritten_X0_partAt rfl rfl rfl (by decide +kernel) ⟨Nat.le_of_ble_eq_true rfl, Nat.le_of_ble_eq_true rfl⟩) hP hD hK hS hA [] [0, 1, 2, 3, 4] [0, 1, 2, 3, 4] rfl rfl (by decide) (fun u => rfl) rfl hl.1 rfl (Nat.le_of_ble_eq_true rfl) dX0_noteWritten_15 ⟨Nat.le_of_ble_eq_true rfl, Nat.le_of_ble_eq_true rfl⟩ (fun r u H locs hu2 hP hD hS => ?_)
    refine k_t1 (show r = nI (6 * f + i / 4) from hu2) ?_
    refine lv_iload_n hx hb dX0_noteWritten_18 rfl (lv_at hl 3 rfl) ?_
    refine k_iast hx hb hK hP hD hS 3 0 rfl rfl (6 * f + i / 4) (by omega) (by omega) (g := nIf (upN PT (6 * f + i / 4) d)) (nIf_up) dX0_noteWritten_19 (fun H locs hP hD hS => ?_)
    have hP : va_P D vwCl (wB cI cZ cJ bk nm ln pt tk NM TH SZ (upN PT (6 * f + i / 4) d) TK) _ := hP
    have hD : va_D A (wB cI cZ cJ bk nm ln pt tk NM TH SZ (upN PT (6 * f + i / 4) d) TK) := hD
    refine lv_aload_n hx hb dX0_noteWritten_20 rfl (lv_at hl 0 rfl) ?_
    refine va_get (D := D) (ci := 0) (v := .ref tk) (C := RX0) (T := TX0) (N := 4) hx hb hts (by decide +kernel) hown hK hP 0 rfl rfl 3 (by decide) (hts (.fieldLink RX0 22 "VeiledFiles$Book" "taken" "[Z") (by decide +kernel)) (fun _ h9 => h9) rfl dX0_noteWritten_21 ?_
    refine lv_iload_n hx hb dX0_noteWritten_24 rfl (lv_at hl 3 rfl) ?_
    refine lv_iconst (v := nI 1) hx hb dX0_noteWritten_25 (by decide) ?_
    refine k_zast hx hb hK hP hD hS 4 1 rfl rfl d (by omega) (by omega) (g := (upd TK d 1)) (rfl) (by first | rfl | decide) dX0_noteWritten_26 (fun H locs hP hD hS => ?_)
    have hP : va_P D vwCl (wB cI cZ cJ bk nm ln pt tk NM TH SZ (upN PT (6 * f + i / 4) d) (upd TK d 1)) _ := hP
    have hD : va_D A (wB cI cZ cJ bk nm ln pt tk NM TH SZ (upN PT (6 * f + i / 4) d) (upd TK d 1)) := hD
    refine lv_iload_n hx hb dX0_noteWritten_27 rfl (lv_at hl 2 rfl) ?_
    refine lv_aload_n hx hb dX0_noteWritten_28 rfl (lv_at hl 0 rfl) ?_
    refine va_get (D := D) (ci := 0) (v := .ref ln) (C := RX0) (T := TX0) (N := 4) hx hb hts (by decide +kernel) hown hK hP 0 rfl rfl 1 (by decide) (hts (.fieldLink RX0 15 "VeiledFiles$Book" "lengths" "[I") (by decide +kernel)) (fun _ h9 => h9) rfl dX0_noteWritten_29 ?_
    refine lv_iload_n hx hb dX0_noteWritten_32 rfl (lv_at hl 1 rfl) ?_
    refine k_iald hx hb hK hP 2 0 rfl rfl f (by omega) (by omega) (v := nI (SZ f)) (lenF_y ht) dX0_noteWritten_33 ?_
    refine k_icmp_ne (tgt := 47) hx hb (by omega) (by omega) dX0_noteWritten_34 (by decide) (fun c2 => ?_) (fun c2 => ?_)
    · skip
      omega
    · skip
      refine lv_aload_n hx hb dX0_noteWritten_37 rfl (lv_at hl 0 rfl) ?_
      refine va_get (D := D) (ci := 0) (v := .ref ln) (C := RX0) (T := TX0) (N := 4) hx hb hts (by decide +kernel) hown hK hP 0 rfl rfl 1 (by decide) (hts (.fieldLink RX0 15 "VeiledFiles$Book" "lengths" "[I") (by decide +kernel)) (fun _ h9 => h9) rfl dX0_noteWritten_38 ?_
      refine lv_iload_n hx hb dX0_noteWritten_41 rfl (lv_at hl 1 rfl) ?_
      refine lv_dup2_11 hx hb dX0_noteWritten_42 rfl rfl ?_
      refine k_iald hx hb hK hP 2 0 rfl rfl f (by omega) (by omega) (v := nI (SZ f)) (lenF_y ht) dX0_noteWritten_43 ?_
      refine lv_iconst (v := nI 1) hx hb dX0_noteWritten_44 (by decide) ?_
      refine lv_iadd hx hb dX0_noteWritten_45 ?_
      refine k_t1 (show (nI (SZ f)) + (nI 1) = nI (SZ f + 1) from nI_add _ _) ?_
      have hP : va_P D vwCl (wBr cI cZ cJ bk nm ln pt tk NM (lenF TH SZ) (upN PT (6 * f + i / 4) d) (upd TK d 1)) _ := hP
      have hD : va_D A (wBr cI cZ cJ bk nm ln pt tk NM (lenF TH SZ) (upN PT (6 * f + i / 4) d) (upd TK d 1)) := hD
      refine k_iast hx hb hK hP hD hS 2 0 rfl rfl f (by omega) (by omega) (g := (upd (lenF TH SZ) f (nI (SZ f + 1)))) (rfl) dX0_noteWritten_46 (fun H locs hP hD hS => ?_)
      have hP : va_P D vwCl (wBr cI cZ cJ bk nm ln pt tk NM (upd (lenF TH SZ) f (nI (SZ f + 1))) (upN PT (6 * f + i / 4) d) (upd TK d 1)) _ := hP
      have hD : va_D A (wBr cI cZ cJ bk nm ln pt tk NM (upd (lenF TH SZ) f (nI (SZ f + 1))) (upN PT (6 * f + i / 4) d) (upd TK d 1)) := hD
      have hE3 : (wBr cI cZ cJ bk nm ln pt tk NM (upd (lenF TH SZ) f (nI (SZ f + 1))) (upN PT (6 * f + i / 4) d) (upd TK d 1)) = (wBr cI cZ cJ bk nm ln pt tk NM (lenF TH (upN SZ f (SZ f + 1))) (upN PT (6 * f + i / 4) d) (upd TK d 1)) := by rw [lenF_inc ht]
      rw [hE3] at hP hD
      have hP : va_P D vwCl (wB cI cZ cJ bk nm ln pt tk NM TH (upN SZ f (SZ f + 1)) (upN PT (6 * f + i / 4) d) (upd TK d 1)) _ := hP
      have hD : va_D A (wB cI cZ cJ bk nm ln pt tk NM TH (upN SZ f (SZ f + 1)) (upN PT (6 * f + i / 4) d) (upd TK d 1)) := hD
      exact k_retv () hx hb hr hK hS hlk dX0_noteWritten_47 hP hD (trivial) hQ

set_option maxHeartbeats 800000 in
set_option maxRecDepth 100000 in
theorem c_nw_e (l : Launch) (D : va_G) (cI cZ cJ : ClassId) (bk : Nat) (nm : Nat) (ln : Nat) (pt : Nat) (tk : Nat) (NM : Nat → Int64) (TH : Nat → Int32) (SZ : Nat → Nat) (PT : Nat → Nat) (TK : Nat → Int32) (f i d : Nat) (hf : f < 8) (ht : ¬ TH f = 0) (hs : SZ f ≤ 24) (hi2 : i < 24) (hd : d < 64) (hi : i = SZ f) (hm : ¬ i % 4 = 0) : KV l yX0_noteWritten wsX0_noteWritten ({ frames := 2, cells := 0, slots := 0, locals := 43 }) D (kty cI cZ cJ) [.ref bk, .int (nI f), .int (nI i), .int (nI d)] (wB cI cZ cJ bk nm ln pt tk NM TH SZ PT TK) (fun (_ : Unit) => True) (fun _ : Unit => (wB cI cZ cJ bk nm ln pt tk NM TH (upN SZ f (SZ f + 1)) PT TK)) 0 0 := by
  refine k_headV (cc := cX0_noteWritten) (maxL := 4) (ret := none) (by decide) rfl (Nat.le_of_ble_eq_true rfl) ?_
  intro p e s m below meth c A ls args Q hx hb hr hml hts hown hlk hnm hA hK hP hD hS hl hQ
  have hl : lv_has ls 4 [(0, .ref bk), (1, .int (nI f)), (2, .int (nI i)), (3, .int (nI d))] := hl
  refine lv_aload_n hx hb dX0_noteWritten_0 rfl (lv_at hl 0 rfl) ?_
  refine lv_iload_n hx hb dX0_noteWritten_1 rfl (lv_at hl 1 rfl) ?_
  refine lv_iload_n hx hb dX0_noteWritten_2 rfl (lv_at hl 2 rfl) ?_
  refine k_vi (As := [.int (nI f), .int (nI i)]) (rest := []) (w2 := fun u : Unit => (wB cI cZ cJ bk nm ln pt tk NM TH SZ PT TK)) ⟨hx, hb, hml, hown, hts⟩ (c_opens_n l D cI cZ cJ bk nm ln pt tk NM TH SZ PT TK f i hf ht (by omega) hs (by omega)) (cwV 2 hts gX0_noteWritten_X0_opensPart rfl rfl rfl (by decide +kernel) ⟨Nat.le_of_ble_eq_true rfl, Nat.le_of_ble_eq_true rfl⟩) hP hD hK hS hA [0, 1, 2, 3, 4] [] [0, 1, 2, 3, 4] rfl rfl (by decide) (fun u => rfl) rfl rfl (q0 := 0) rfl rfl hl.1 rfl (Nat.le_of_ble_eq_true rfl) dX0_noteWritten_3 ⟨Nat.le_of_ble_eq_true rfl, Nat.le_of_ble_eq_true rfl⟩ (fun r u H locs hu1 hP hD hS => ?_)
  refine k_t1 (show r = 0 from hu1) ?_
  refine lv_if_eq (tgt := 27) hx hb dX0_noteWritten_6 (by decide) (fun c1 => ?_) (fun c1 => ?_)
  · skip
    refine lv_iload_n hx hb dX0_noteWritten_27 rfl (lv_at hl 2 rfl) ?_
    refine lv_aload_n hx hb dX0_noteWritten_28 rfl (lv_at hl 0 rfl) ?_
    refine va_get (D := D) (ci := 0) (v := .ref ln) (C := RX0) (T := TX0) (N := 4) hx hb hts (by decide +kernel) hown hK hP 0 rfl rfl 1 (by decide) (hts (.fieldLink RX0 15 "VeiledFiles$Book" "lengths" "[I") (by decide +kernel)) (fun _ h9 => h9) rfl dX0_noteWritten_29 ?_
    refine lv_iload_n hx hb dX0_noteWritten_32 rfl (lv_at hl 1 rfl) ?_
    refine k_iald hx hb hK hP 2 0 rfl rfl f (by omega) (by omega) (v := nI (SZ f)) (lenF_y ht) dX0_noteWritten_33 ?_
    refine k_icmp_ne (tgt := 47) hx hb (by omega) (by omega) dX0_noteWritten_34 (by decide) (fun c2 => ?_) (fun c2 => ?_)
    · skip
      omega
    · skip
      refine lv_aload_n hx hb dX0_noteWritten_37 rfl (lv_at hl 0 rfl) ?_
      refine va_get (D := D) (ci := 0) (v := .ref ln) (C := RX0) (T := TX0) (N := 4) hx hb hts (by decide +kernel) hown hK hP 0 rfl rfl 1 (by decide) (hts (.fieldLink RX0 15 "VeiledFiles$Book" "lengths" "[I") (by decide +kernel)) (fun _ h9 => h9) rfl dX0_noteWritten_38 ?_
      refine lv_iload_n hx hb dX0_noteWritten_41 rfl (lv_at hl 1 rfl) ?_
      refine lv_dup2_11 hx hb dX0_noteWritten_42 rfl rfl ?_
      refine k_iald hx hb hK hP 2 0 rfl rfl f (by omega) (by omega) (v := nI (SZ f)) (lenF_y ht) dX0_noteWritten_43 ?_
      refine lv_iconst (v := nI 1) hx hb dX0_noteWritten_44 (by decide) ?_
      refine lv_iadd hx hb dX0_noteWritten_45 ?_
      refine k_t1 (show (nI (SZ f)) + (nI 1) = nI (SZ f + 1) from nI_add _ _) ?_
      have hP : va_P D vwCl (wBr cI cZ cJ bk nm ln pt tk NM (lenF TH SZ) PT TK) _ := hP
      have hD : va_D A (wBr cI cZ cJ bk nm ln pt tk NM (lenF TH SZ) PT TK) := hD
      refine k_iast hx hb hK hP hD hS 2 0 rfl rfl f (by omega) (by omega) (g := (upd (lenF TH SZ) f (nI (SZ f + 1)))) (rfl) dX0_noteWritten_46 (fun H locs hP hD hS => ?_)
      have hP : va_P D vwCl (wBr cI cZ cJ bk nm ln pt tk NM (upd (lenF TH SZ) f (nI (SZ f + 1))) PT TK) _ := hP
      have hD : va_D A (wBr cI cZ cJ bk nm ln pt tk NM (upd (lenF TH SZ) f (nI (SZ f + 1))) PT TK) := hD
      have hE2 : (wBr cI cZ cJ bk nm ln pt tk NM (upd (lenF TH SZ) f (nI (SZ f + 1))) PT TK) = (wBr cI cZ cJ bk nm ln pt tk NM (lenF TH (upN SZ f (SZ f + 1))) PT TK) := by rw [lenF_inc ht]
      rw [hE2] at hP hD
      have hP : va_P D vwCl (wB cI cZ cJ bk nm ln pt tk NM TH (upN SZ f (SZ f + 1)) PT TK) _ := hP
      have hD : va_D A (wB cI cZ cJ bk nm ln pt tk NM TH (upN SZ f (SZ f + 1)) PT TK) := hD
      exact k_retv () hx hb hr hK hS hlk dX0_noteWritten_47 hP hD (trivial) hQ
  · skip
    exact absurd rfl c1

set_option maxHeartbeats 800000 in
set_option maxRecDepth 100000 in
theorem c_nw_i (l : Launch) (D : va_G) (cI cZ cJ : ClassId) (bk : Nat) (nm : Nat) (ln : Nat) (pt : Nat) (tk : Nat) (NM : Nat → Int64) (TH : Nat → Int32) (SZ : Nat → Nat) (PT : Nat → Nat) (TK : Nat → Int32) (f i d : Nat) (hf : f < 8) (ht : ¬ TH f = 0) (hs : SZ f ≤ 24) (hi2 : i < 24) (hd : d < 64) (hi : i < SZ f) : KV l yX0_noteWritten wsX0_noteWritten ({ frames := 2, cells := 0, slots := 0, locals := 43 }) D (kty cI cZ cJ) [.ref bk, .int (nI f), .int (nI i), .int (nI d)] (wB cI cZ cJ bk nm ln pt tk NM TH SZ PT TK) (fun (_ : Unit) => True) (fun _ : Unit => (wB cI cZ cJ bk nm ln pt tk NM TH SZ PT TK)) 0 0 := by
  refine k_headV (cc := cX0_noteWritten) (maxL := 4) (ret := none) (by decide) rfl (Nat.le_of_ble_eq_true rfl) ?_
  intro p e s m below meth c A ls args Q hx hb hr hml hts hown hlk hnm hA hK hP hD hS hl hQ
  have hl : lv_has ls 4 [(0, .ref bk), (1, .int (nI f)), (2, .int (nI i)), (3, .int (nI d))] := hl
  refine lv_aload_n hx hb dX0_noteWritten_0 rfl (lv_at hl 0 rfl) ?_
  refine lv_iload_n hx hb dX0_noteWritten_1 rfl (lv_at hl 1 rfl) ?_
  refine lv_iload_n hx hb dX0_noteWritten_2 rfl (lv_at hl 2 rfl) ?_
  refine k_vi (As := [.int (nI f), .int (nI i)]) (rest := []) (w2 := fun u : Unit => (wB cI cZ cJ bk nm ln pt tk NM TH SZ PT TK)) ⟨hx, hb, hml, hown, hts⟩ (c_opens_n l D cI cZ cJ bk nm ln pt tk NM TH SZ PT TK f i hf ht (by omega) hs (by omega)) (cwV 2 hts gX0_noteWritten_X0_opensPart rfl rfl rfl (by decide +kernel) ⟨Nat.le_of_ble_eq_true rfl, Nat.le_of_ble_eq_true rfl⟩) hP hD hK hS hA [0, 1, 2, 3, 4] [] [0, 1, 2, 3, 4] rfl rfl (by decide) (fun u => rfl) rfl rfl (q0 := 0) rfl rfl hl.1 rfl (Nat.le_of_ble_eq_true rfl) dX0_noteWritten_3 ⟨Nat.le_of_ble_eq_true rfl, Nat.le_of_ble_eq_true rfl⟩ (fun r u H locs hu1 hP hD hS => ?_)
  refine k_t1 (show r = 0 from hu1) ?_
  refine lv_if_eq (tgt := 27) hx hb dX0_noteWritten_6 (by decide) (fun c1 => ?_) (fun c1 => ?_)
  · skip
    refine lv_iload_n hx hb dX0_noteWritten_27 rfl (lv_at hl 2 rfl) ?_
    refine lv_aload_n hx hb dX0_noteWritten_28 rfl (lv_at hl 0 rfl) ?_
    refine va_get (D := D) (ci := 0) (v := .ref ln) (C := RX0) (T := TX0) (N := 4) hx hb hts (by decide +kernel) hown hK hP 0 rfl rfl 1 (by decide) (hts (.fieldLink RX0 15 "VeiledFiles$Book" "lengths" "[I") (by decide +kernel)) (fun _ h9 => h9) rfl dX0_noteWritten_29 ?_
    refine lv_iload_n hx hb dX0_noteWritten_32 rfl (lv_at hl 1 rfl) ?_
    refine k_iald hx hb hK hP 2 0 rfl rfl f (by omega) (by omega) (v := nI (SZ f)) (lenF_y ht) dX0_noteWritten_33 ?_
    refine k_icmp_ne (tgt := 47) hx hb (by omega) (by omega) dX0_noteWritten_34 (by decide) (fun c2 => ?_) (fun c2 => ?_)
    · skip
      exact k_retv () hx hb hr hK hS hlk dX0_noteWritten_47 hP hD (trivial) hQ
    · skip
      omega
  · skip
    exact absurd rfl c1

set_option maxHeartbeats 800000 in
set_option maxRecDepth 100000 in
theorem c_countFiles (l : Launch) (D : va_G) (cI cZ cJ : ClassId) (bk : Nat) (nm : Nat) (ln : Nat) (pt : Nat) (tk : Nat) (NM : Nat → Int64) (TH : Nat → Int32) (SZ : Nat → Nat) (PT : Nat → Nat) (TK : Nat → Int32)  (hSZ : ∀ f, f < 8 → SZ f ≤ 24) : KI l yX0_countFiles wsX0_countFiles ({ frames := 0, cells := 0, slots := 0, locals := 0 }) D (kty cI cZ cJ) [.ref bk] (wB cI cZ cJ bk nm ln pt tk NM TH SZ PT TK) (fun r (_ : Unit) => r = nI (cntN TH 8)) (fun _ : Unit => (wB cI cZ cJ bk nm ln pt tk NM TH SZ PT TK)) 0 0 := by
  refine k_headI (cc := cX0_countFiles) (maxL := 3) (ret := (some .int)) (by decide) rfl (Nat.le_of_ble_eq_true rfl) ?_
  intro p e s m below meth c A ls args Q hx hb hr hml hts hown hlk hnm hA hK hP hD hS hl hQ
  have hl : lv_has ls 3 [(0, .ref bk)] := hl
  refine lv_iconst (v := nI 0) hx hb dX0_countFiles_0 (by decide) ?_
  refine lv_istore_n (lv' := [(1, .int (nI 0)), (0, .ref bk)]) hx hb dX0_countFiles_1 rfl hl (by decide) rfl (fun ls hl => ?_)
  refine lv_iconst (v := nI 0) hx hb dX0_countFiles_2 (by decide) ?_
  refine lv_istore_n (lv' := [(2, .int (nI 0)), (1, .int (nI 0)), (0, .ref bk)]) hx hb dX0_countFiles_3 rfl hl (by decide) rfl (fun ls hl => ?_)
  have L1 : ∀ (nf k : Nat) (hvL1 : k ≤ 8) (hFL1 : 8 - k < nf) (H : Heap) (locs : List Loc) (ls : Array Slot), va_P D vwCl (wB cI cZ cJ bk nm ln pt tk NM TH SZ PT TK) H → va_D A (wB cI cZ cJ bk nm ln pt tk NM TH SZ PT TK) → va_S A s.heap H locs → lv_has ls 3 [(0, .ref bk), (1, .int (nI (cntN TH k))), (2, .int (nI k))] → W p l e ({ frames := 0, cells := 0, slots := 0, locals := 0 } : Room) s m args below meth c H locs 0 0 Q (F0 m 4 ls []) := by
    intro nf
    induction nf with
    | zero => intro k  hvL1 hFL1; omega
    | succ nf ihL1 =>
      intro k  hvL1 hFL1  H locs ls hP hD hS hl
      refine lv_iload_n hx hb dX0_countFiles_4 rfl (lv_at hl 2 rfl) ?_
      refine lv_bipush (v := nI 8) hx hb dX0_countFiles_5 (by decide) ?_
      refine k_icmp_ge (tgt := 29) hx hb (by omega) (by omega) dX0_countFiles_7 (by decide) (fun c1 => ?_) (fun c1 => ?_)
      · skip
        obtain rfl : k = 8 := by omega
        refine lv_iload_n hx hb dX0_countFiles_29 rfl (lv_at hl 1 rfl) ?_
        exact k_reti () hx hb hr hK hS hlk dX0_countFiles_30 hP hD (rfl) hQ
      · skip
        have hz := lenF_0 (TH := TH) (SZ := SZ) (f := k) (by have := hSZ k c1; omega)
        refine lv_aload_n hx hb dX0_countFiles_10 rfl (lv_at hl 0 rfl) ?_
        refine va_get (D := D) (ci := 0) (v := .ref ln) (C := RX0) (T := TX0) (N := 4) hx hb hts (by decide +kernel) hown hK hP 0 rfl rfl 1 (by decide) (hts (.fieldLink RX0 15 "VeiledFiles$Book" "lengths" "[I") (by decide +kernel)) (fun _ h9 => h9) rfl dX0_countFiles_11 ?_
        refine lv_iload_n hx hb dX0_countFiles_14 rfl (lv_at hl 2 rfl) ?_
        refine k_iald hx hb hK hP 2 0 rfl rfl k (by omega) (by omega) (v := (lenF TH SZ) k) (rfl) dX0_countFiles_15 ?_
        refine lv_iconst (v := -1) hx hb dX0_countFiles_16 (by decide) ?_
        refine lv_icmp_eq (tgt := 23) hx hb dX0_countFiles_17 (by decide) (fun c2 => ?_) (fun c2 => ?_)
        · skip
          refine lv_iinc (v := nI (k + 1)) (lv' := [(2, .int (nI (k + 1))), (0, .ref bk), (1, .int (nI (cntN TH k)))]) hx hb dX0_countFiles_23 hl (k := 2) rfl (nI_add k 1) (by decide) rfl (fun ls hl => ?_)
          refine lv_goto (tgt := 4) hx hb dX0_countFiles_26 (by decide) ?_
          rw [show cntN TH k = cntN TH (k + 1) by simp [cntN, hz.mp c2]] at hl
          exact ihL1 (k + 1)  (by omega) (by omega)  _ _ _ hP hD hS (lv_sub hl [1, 2, 0] rfl)
        · skip
          refine lv_iinc (v := nI (cntN TH k + 1)) (lv' := [(1, .int (nI (cntN TH k + 1))), (0, .ref bk), (2, .int (nI k))]) hx hb dX0_countFiles_20 hl (k := 1) rfl (nI_add (cntN TH k) 1) (by decide) rfl (fun ls hl => ?_)
          refine lv_iinc (v := nI (k + 1)) (lv' := [(2, .int (nI (k + 1))), (1, .int (nI (cntN TH k + 1))), (0, .ref bk)]) hx hb dX0_countFiles_23 hl (k := 2) rfl (nI_add k 1) (by decide) rfl (fun ls hl => ?_)
          refine lv_goto (tgt := 4) hx hb dX0_countFiles_26 (by decide) ?_
          rw [show cntN TH k + 1 = cntN TH (k + 1) by simp [cntN, show ¬ TH k = 0 from fun z => c2 (hz.mpr z)]] at hl
          exact ihL1 (k + 1)  (by omega) (by omega)  _ _ _ hP hD hS (lv_sub hl [2, 1, 0] rfl)
  exact L1 (8 + 1) 0  (by omega) (by omega)  _ _ _ hP hD hS (lv_sub hl [2, 1, 0] rfl)

set_option maxHeartbeats 800000 in
set_option maxRecDepth 100000 in
theorem c_countFree (l : Launch) (D : va_G) (cI cZ cJ : ClassId) (bk : Nat) (nm : Nat) (ln : Nat) (pt : Nat) (tk : Nat) (NM : Nat → Int64) (TH : Nat → Int32) (SZ : Nat → Nat) (PT : Nat → Nat) (TK : Nat → Int32)   : KI l yX0_countFreeBlocks wsX0_countFreeBlocks ({ frames := 0, cells := 0, slots := 0, locals := 0 }) D (kty cI cZ cJ) [.ref bk] (wB cI cZ cJ bk nm ln pt tk NM TH SZ PT TK) (fun r (_ : Unit) => r = nI (cf0 TK 64)) (fun _ : Unit => (wB cI cZ cJ bk nm ln pt tk NM TH SZ PT TK)) 0 0 := by
  refine k_headI (cc := cX0_countFreeBlocks) (maxL := 3) (ret := (some .int)) (by decide) rfl (Nat.le_of_ble_eq_true rfl) ?_
  intro p e s m below meth c A ls args Q hx hb hr hml hts hown hlk hnm hA hK hP hD hS hl hQ
  have hl : lv_has ls 3 [(0, .ref bk)] := hl
  refine lv_iconst (v := nI 0) hx hb dX0_countFreeBlocks_0 (by decide) ?_
  refine lv_istore_n (lv' := [(1, .int (nI 0)), (0, .ref bk)]) hx hb dX0_countFreeBlocks_1 rfl hl (by decide) rfl (fun ls hl => ?_)
  refine lv_iconst (v := nI 0) hx hb dX0_countFreeBlocks_2 (by decide) ?_
  refine lv_istore_n (lv' := [(2, .int (nI 0)), (1, .int (nI 0)), (0, .ref bk)]) hx hb dX0_countFreeBlocks_3 rfl hl (by decide) rfl (fun ls hl => ?_)
  have L1 : ∀ (nf k : Nat) (hvL1 : k ≤ 64) (hFL1 : 64 - k < nf) (H : Heap) (locs : List Loc) (ls : Array Slot), va_P D vwCl (wB cI cZ cJ bk nm ln pt tk NM TH SZ PT TK) H → va_D A (wB cI cZ cJ bk nm ln pt tk NM TH SZ PT TK) → va_S A s.heap H locs → lv_has ls 3 [(0, .ref bk), (1, .int (nI (cf0 TK k))), (2, .int (nI k))] → W p l e ({ frames := 0, cells := 0, slots := 0, locals := 0 } : Room) s m args below meth c H locs 0 0 Q (F0 m 4 ls []) := by
    intro nf
    induction nf with
    | zero => intro k  hvL1 hFL1; omega
    | succ nf ihL1 =>
      intro k  hvL1 hFL1  H locs ls hP hD hS hl
      refine lv_iload_n hx hb dX0_countFreeBlocks_4 rfl (lv_at hl 2 rfl) ?_
      refine lv_bipush (v := nI 64) hx hb dX0_countFreeBlocks_5 (by decide) ?_
      refine k_icmp_ge (tgt := 28) hx hb (by omega) (by omega) dX0_countFreeBlocks_7 (by decide) (fun c1 => ?_) (fun c1 => ?_)
      · skip
        obtain rfl : k = 64 := by omega
        refine lv_iload_n hx hb dX0_countFreeBlocks_28 rfl (lv_at hl 1 rfl) ?_
        exact k_reti () hx hb hr hK hS hlk dX0_countFreeBlocks_29 hP hD (rfl) hQ
      · skip
        refine lv_aload_n hx hb dX0_countFreeBlocks_10 rfl (lv_at hl 0 rfl) ?_
        refine va_get (D := D) (ci := 0) (v := .ref tk) (C := RX0) (T := TX0) (N := 4) hx hb hts (by decide +kernel) hown hK hP 0 rfl rfl 3 (by decide) (hts (.fieldLink RX0 22 "VeiledFiles$Book" "taken" "[Z") (by decide +kernel)) (fun _ h9 => h9) rfl dX0_countFreeBlocks_11 ?_
        refine lv_iload_n hx hb dX0_countFreeBlocks_14 rfl (lv_at hl 2 rfl) ?_
        refine k_zald hx hb hK hP 4 1 rfl rfl k (by omega) (by omega) (v := TK k) (rfl) dX0_countFreeBlocks_15 ?_
        refine lv_if_ne (tgt := 22) hx hb dX0_countFreeBlocks_16 (by decide) (fun c2 => ?_) (fun c2 => ?_)
        · skip
          refine lv_iinc (v := nI (k + 1)) (lv' := [(2, .int (nI (k + 1))), (0, .ref bk), (1, .int (nI (cf0 TK k)))]) hx hb dX0_countFreeBlocks_22 hl (k := 2) rfl (nI_add k 1) (by decide) rfl (fun ls hl => ?_)
          refine lv_goto (tgt := 4) hx hb dX0_countFreeBlocks_25 (by decide) ?_
          rw [show cf0 TK k = cf0 TK (k + 1) by simp [cf0, c2]] at hl
          exact ihL1 (k + 1)  (by omega) (by omega)  _ _ _ hP hD hS (lv_sub hl [1, 2, 0] rfl)
        · skip
          refine lv_iinc (v := nI (cf0 TK k + 1)) (lv' := [(1, .int (nI (cf0 TK k + 1))), (0, .ref bk), (2, .int (nI k))]) hx hb dX0_countFreeBlocks_19 hl (k := 1) rfl (nI_add (cf0 TK k) 1) (by decide) rfl (fun ls hl => ?_)
          refine lv_iinc (v := nI (k + 1)) (lv' := [(2, .int (nI (k + 1))), (1, .int (nI (cf0 TK k + 1))), (0, .ref bk)]) hx hb dX0_countFreeBlocks_22 hl (k := 2) rfl (nI_add k 1) (by decide) rfl (fun ls hl => ?_)
          refine lv_goto (tgt := 4) hx hb dX0_countFreeBlocks_25 (by decide) ?_
          rw [show cf0 TK k + 1 = cf0 TK (k + 1) by simp [cf0, c2]] at hl
          exact ihL1 (k + 1)  (by omega) (by omega)  _ _ _ hP hD hS (lv_sub hl [2, 1, 0] rfl)
  exact L1 (64 + 1) 0  (by omega) (by omega)  _ _ _ hP hD hS (lv_sub hl [2, 1, 0] rfl)

set_option maxHeartbeats 800000 in
set_option maxRecDepth 100000 in
theorem c_bk_empty (l : Launch) (D : va_G) (cI cZ cJ : ClassId) (bk : Nat) (nm : Nat) (ln : Nat) (pt : Nat) (tk : Nat) (NM : Nat → Int64) (TH : Nat → Int32) (SZ : Nat → Nat) (PT : Nat → Nat) (TK : Nat → Int32)   : KV l yX0_empty wsX0_empty ({ frames := 1, cells := 0, slots := 0, locals := 23 }) D (kty cI cZ cJ) [.ref bk] (wB cI cZ cJ bk nm ln pt tk NM TH SZ PT TK) (fun (_ : Unit) => True) (fun _ : Unit => (wB cI cZ cJ bk nm ln pt tk NM (fun _ => 0) SZ PT (fun _ => 0))) 0 0 := by
  refine k_headV (cc := cX0_empty) (maxL := 2) (ret := none) (by decide) rfl (Nat.le_of_ble_eq_true rfl) ?_
  intro p e s m below meth c A ls args Q hx hb hr hml hts hown hlk hnm hA hK hP hD hS hl hQ
  have hl : lv_has ls 2 [(0, .ref bk)] := hl
  have hP : va_P D vwCl (wBr cI cZ cJ bk nm ln pt tk NM (lenF TH SZ) PT TK) s.heap := hP
  have hD : va_D A (wBr cI cZ cJ bk nm ln pt tk NM (lenF TH SZ) PT TK) := hD
  refine lv_aload_n hx hb dX0_empty_0 rfl (lv_at hl 0 rfl) ?_
  refine va_get (D := D) (ci := 0) (v := .ref ln) (C := RX0) (T := TX0) (N := 4) hx hb hts (by decide +kernel) hown hK hP 0 rfl rfl 1 (by decide) (hts (.fieldLink RX0 15 "VeiledFiles$Book" "lengths" "[I") (by decide +kernel)) (fun _ h9 => h9) rfl dX0_empty_1 ?_
  refine lv_iconst (v := -1) hx hb dX0_empty_4 (by decide) ?_
  refine k_sv (As := [.ref ln, .int (-1)]) (rest := []) (w2 := fun u : Unit => (wBr cI cZ cJ bk nm ln pt tk NM (fiK (lenF TH SZ) (-1) 8) PT TK)) ⟨hx, hb, hml, hown, hts⟩ (c_fill l D cI cZ cJ ln 8 (lenF TH SZ) (-1) (by omega)) (va_cwS 2 hts gX0_empty_J7_fill_53178 rfl rfl rfl (by decide +kernel) ⟨Nat.le_of_ble_eq_true rfl, Nat.le_of_ble_eq_true rfl⟩) hP hD hK hS hA [2] [0, 1, 3, 4] [0, 1, 4, 2, 3] rfl rfl (by decide) (fun u => rfl) rfl hl.1 rfl (Nat.le_of_ble_eq_true rfl) dX0_empty_5 ⟨Nat.le_of_ble_eq_true rfl, Nat.le_of_ble_eq_true rfl⟩ (fun u H locs hu1 hP hD hS => ?_)
  have hP : va_P D vwCl (wBr cI cZ cJ bk nm ln pt tk NM (lenF (fun _ => 0) SZ) PT TK) H := k_extP (q0 := 2) hP rfl (fun j hj => by rw [fiK_lt hj]; rfl)
  have hD : va_D A (wBr cI cZ cJ bk nm ln pt tk NM (lenF (fun _ => 0) SZ) PT TK) := hD.set (p := 2) rfl
  have hP : va_P D vwCl (wB cI cZ cJ bk nm ln pt tk NM (fun _ => 0) SZ PT TK) _ := hP
  have hD : va_D A (wB cI cZ cJ bk nm ln pt tk NM (fun _ => 0) SZ PT TK) := hD
  refine lv_iconst (v := nI 0) hx hb dX0_empty_8 (by decide) ?_
  refine lv_istore_n (lv' := [(1, .int (nI 0)), (0, .ref bk)]) hx hb dX0_empty_9 rfl hl (by decide) rfl (fun ls hl => ?_)
  have hE2 : (wB cI cZ cJ bk nm ln pt tk NM (fun _ => 0) SZ PT TK) = (wB cI cZ cJ bk nm ln pt tk NM (fun _ => 0) SZ PT (fiK TK 0 0)) := by rw [fiK_0]
  rw [hE2] at hP hD
  have L1 : ∀ (nf k : Nat) (hvL1 : k ≤ 64) (hFL1 : 64 - k < nf) (H : Heap) (locs : List Loc) (ls : Array Slot), va_P D vwCl (wB cI cZ cJ bk nm ln pt tk NM (fun _ => 0) SZ PT (fiK TK 0 k)) H → va_D A (wB cI cZ cJ bk nm ln pt tk NM (fun _ => 0) SZ PT (fiK TK 0 k)) → va_S A s.heap H locs → lv_has ls 2 [(0, .ref bk), (1, .int (nI k))] → W p l e ({ frames := 1, cells := 0, slots := 0, locals := 23 } : Room) s m args below meth c H locs 0 0 Q (F0 m 10 ls []) := by
    intro nf
    induction nf with
    | zero => intro k  hvL1 hFL1; omega
    | succ nf ihL1 =>
      intro k  hvL1 hFL1  H locs ls hP hD hS hl
      refine lv_iload_n hx hb dX0_empty_10 rfl (lv_at hl 1 rfl) ?_
      refine lv_bipush (v := nI 64) hx hb dX0_empty_11 (by decide) ?_
      refine k_icmp_ge (tgt := 29) hx hb (by omega) (by omega) dX0_empty_13 (by decide) (fun c1 => ?_) (fun c1 => ?_)
      · skip
        obtain rfl : k = 64 := by omega
        have hP : va_P D vwCl (wB cI cZ cJ bk nm ln pt tk NM (fun _ => 0) SZ PT (fun _ => 0)) H := k_extP (q0 := 4) hP rfl (fun j hj => fiK_lt hj)
        have hD : va_D A (wB cI cZ cJ bk nm ln pt tk NM (fun _ => 0) SZ PT (fun _ => 0)) := hD.set (p := 4) rfl
        exact k_retv () hx hb hr hK hS hlk dX0_empty_29 hP hD (trivial) hQ
      · skip
        refine lv_aload_n hx hb dX0_empty_16 rfl (lv_at hl 0 rfl) ?_
        refine va_get (D := D) (ci := 0) (v := .ref tk) (C := RX0) (T := TX0) (N := 4) hx hb hts (by decide +kernel) hown hK hP 0 rfl rfl 3 (by decide) (hts (.fieldLink RX0 22 "VeiledFiles$Book" "taken" "[Z") (by decide +kernel)) (fun _ h9 => h9) rfl dX0_empty_17 ?_
        refine lv_iload_n hx hb dX0_empty_20 rfl (lv_at hl 1 rfl) ?_
        refine lv_iconst (v := nI 0) hx hb dX0_empty_21 (by decide) ?_
        refine k_zast hx hb hK hP hD hS 4 1 rfl rfl k (by omega) (by omega) (g := (fiK TK 0 (k + 1))) (fiK_s) (by first | rfl | decide) dX0_empty_22 (fun H locs hP hD hS => ?_)
        have hP : va_P D vwCl (wB cI cZ cJ bk nm ln pt tk NM (fun _ => 0) SZ PT (fiK TK 0 (k + 1))) _ := hP
        have hD : va_D A (wB cI cZ cJ bk nm ln pt tk NM (fun _ => 0) SZ PT (fiK TK 0 (k + 1))) := hD
        refine lv_iinc (v := nI (k + 1)) (lv' := [(1, .int (nI (k + 1))), (0, .ref bk)]) hx hb dX0_empty_23 hl (k := 1) rfl (nI_add k 1) (by decide) rfl (fun ls hl => ?_)
        refine lv_goto (tgt := 10) hx hb dX0_empty_26 (by decide) ?_
        exact ihL1 (k + 1)  (by omega) (by omega)  _ _ _ hP hD hS (lv_sub hl [1, 0] rfl)
  exact L1 (64 + 1) 0  (by omega) (by omega)  _ _ _ hP hD hS (lv_sub hl [1, 0] rfl)

/-! sealed -/
set_option maxHeartbeats 800000 in
set_option maxRecDepth 100000 in
theorem c_sealed0_y (l : Launch) (D : va_G) (cI cZ cJ : ClassId) (vf : Nat) (di : Nat) (t0 : Nat) (st0 : Nat) (ct0 : Nat) (hd0 : Nat) (lv0 : Nat) (wd0 : Nat) (t1 : Nat) (st1 : Nat) (ct1 : Nat) (hd1 : Nat) (lv1 : Nat) (wd1 : Nat) (mp : Nat) (bk : Nat) (nm : Nat) (ln : Nat) (pt : Nat) (tk : Nat) (tr : Nat) (ml : Nat) (dl : Nat) (G : Int32) (ky0 : Int32) (S0 : Nat → Nat → Int32) (C0 : Nat → Int32) (O0 : Nat → Int32) (L0 : Nat → Int32) (W0 : Nat → Nat → Int32) (ky1 : Int32) (S1 : Nat → Nat → Int32) (C1 : Nat → Int32) (O1 : Nat → Int32) (L1 : Nat → Int32) (W1 : Nat → Nat → Int32) (MP : Nat → Nat) (NM : Nat → Int64) (TH : Nat → Int32) (SZ : Nat → Nat) (PT : Nat → Nat) (TK : Nat → Int32) (ML : Nat → Int32) (DL : Nat → Int32) (cn : Nat) (DE : Int32) (b i : Nat) (hb0 : b < 7) (hi : i < 25) : KI l yX4_sealed wsX4_sealed ({ frames := 2, cells := 0, slots := 0, locals := 43 }) D (kty cI cZ cJ) [.ref vf, .int 0, .int (nI b), .int (nI i)] (wV cI cZ cJ vf di t0 st0 ct0 hd0 lv0 wd0 t1 st1 ct1 hd1 lv1 wd1 mp bk nm ln pt tk tr ml dl G ky0 S0 C0 O0 L0 W0 ky1 S1 C1 O1 L1 W1 MP NM TH SZ PT TK ML DL cn DE) (fun r (_ : Unit) => r = S0 b i) (fun _ : Unit => (wV cI cZ cJ vf di t0 st0 ct0 hd0 lv0 wd0 t1 st1 ct1 hd1 lv1 wd1 mp bk nm ln pt tk tr ml dl G ky0 S0 C0 O0 L0 W0 ky1 S1 C1 O1 L1 W1 MP NM TH SZ PT TK ML DL cn DE)) 0 0 := by
  refine k_headI (cc := cX4_sealed) (maxL := 5) (ret := (some .int)) (by decide) rfl (Nat.le_of_ble_eq_true rfl) ?_
  intro p e s m below meth c A ls args Q hx hb hr hml hts hown hlk hnm hA hK hP hD hS hl hQ
  have hl : lv_has ls 5 [(0, .ref vf), (1, .int 0), (2, .int (nI b)), (3, .int (nI i))] := hl
  refine lv_aload_n hx hb dX4_sealed_0 rfl (lv_at hl 0 rfl) ?_
  refine lv_iload_n hx hb dX4_sealed_1 rfl (lv_at hl 1 rfl) ?_
  refine k_vq (As := [.int 0]) (rest := []) (w2 := fun u : Unit => (wV cI cZ cJ vf di t0 st0 ct0 hd0 lv0 wd0 t1 st1 ct1 hd1 lv1 wd1 mp bk nm ln pt tk tr ml dl G ky0 S0 C0 O0 L0 W0 ky1 S1 C1 O1 L1 W1 MP NM TH SZ PT TK ML DL cn DE)) ⟨hx, hb, hml, hown, hts⟩ (c_tree0 l D cI cZ cJ vf di t0 st0 ct0 hd0 lv0 wd0 t1 st1 ct1 hd1 lv1 wd1 mp bk nm ln pt tk tr ml dl G ky0 S0 C0 O0 L0 W0 ky1 S1 C1 O1 L1 W1 MP NM TH SZ PT TK ML DL cn DE ) (cwV 1 hts gX4_sealed_X4_treeNumbered rfl rfl rfl (by decide +kernel) ⟨Nat.le_of_ble_eq_true rfl, Nat.le_of_ble_eq_true rfl⟩) hP hD hK hS hA [0, 1, 2, 3, 4, 5, 6, 7, 8, 9, 10, 11, 12, 13, 14, 15, 16, 17, 18, 19, 20, 21, 22] [] [0, 1, 2, 3, 4, 5, 6, 7, 8, 9, 10, 11, 12, 13, 14, 15, 16, 17, 18, 19, 20, 21, 22] rfl rfl (by decide) (fun u => rfl) rfl rfl (q0 := 0) rfl rfl hl.1 rfl (Nat.le_of_ble_eq_true rfl) dX4_sealed_2 ⟨Nat.le_of_ble_eq_true rfl, Nat.le_of_ble_eq_true rfl⟩ (fun r u H locs hu1 hP hD hS => ?_)
  refine k_tq (show r = some t0 from hu1) ?_
  refine W.eq (g2 := F0 m 5 ls [.ref t0]) rfl ?_
  refine lv_astore (lv' := [(4, .ref t0), (0, .ref vf), (1, .int 0), (2, .int (nI b)), (3, .int (nI i))]) hx hb dX4_sealed_5 hl (by decide) rfl (fun ls hl => ?_)
  refine lv_aload hx hb dX4_sealed_7 (lv_at hl 0 rfl) ?_
  refine lv_ifnull hx hb dX4_sealed_9 ?_
  refine lv_aload hx hb dX4_sealed_12 (lv_at hl 0 rfl) ?_
  refine lv_iload_n hx hb dX4_sealed_14 rfl (lv_at hl 3 rfl) ?_
  refine lv_iload_n hx hb dX4_sealed_15 rfl (lv_at hl 4 rfl) ?_
  refine k_vi (As := [.int (nI b), .int (nI i)]) (rest := []) (w2 := fun u : Unit => (wV cI cZ cJ vf di t0 st0 ct0 hd0 lv0 wd0 t1 st1 ct1 hd1 lv1 wd1 mp bk nm ln pt tk tr ml dl G ky0 S0 C0 O0 L0 W0 ky1 S1 C1 O1 L1 W1 MP NM TH SZ PT TK ML DL cn DE)) ⟨hx, hb, hml, hown, hts⟩ (c_hasStored_y l D cI cZ cJ t0 st0 ct0 hd0 lv0 wd0 0 4 3 7 8 ky0 S0 C0 O0 L0 W0 b i tp0 hb0 hi) (cwV 2 hts gX4_sealed_X3_hasStored rfl rfl rfl (by decide +kernel) ⟨Nat.le_of_ble_eq_true rfl, Nat.le_of_ble_eq_true rfl⟩) hP hD hK hS hA [2, 3, 4, 5, 6, 7] [0, 1, 8, 9, 10, 11, 12, 13, 14, 15, 16, 17, 18, 19, 20, 21, 22] [0, 1, 17, 18, 19, 20, 21, 22, 2, 3, 4, 5, 6, 7, 8, 9, 10, 11, 12, 13, 14, 15, 16] rfl rfl (by decide) (fun u => rfl) rfl rfl (q0 := 0) rfl rfl hl.1 rfl (Nat.le_of_ble_eq_true rfl) dX4_sealed_16 ⟨Nat.le_of_ble_eq_true rfl, Nat.le_of_ble_eq_true rfl⟩ (fun r u H locs hu2 hP hD hS => ?_)
  refine k_t1 (show r = 1 from hu2) ?_
  refine lv_if_ne (tgt := 30) hx hb dX4_sealed_19 (by decide) (fun c1 => ?_) (fun c1 => ?_)
  · skip
    refine lv_aload hx hb dX4_sealed_30 (lv_at hl 0 rfl) ?_
    refine lv_iload_n hx hb dX4_sealed_32 rfl (lv_at hl 3 rfl) ?_
    refine lv_iload_n hx hb dX4_sealed_33 rfl (lv_at hl 4 rfl) ?_
    refine k_vi (As := [.int (nI b), .int (nI i)]) (rest := []) (w2 := fun u : Unit => (wV cI cZ cJ vf di t0 st0 ct0 hd0 lv0 wd0 t1 st1 ct1 hd1 lv1 wd1 mp bk nm ln pt tk tr ml dl G ky0 S0 C0 O0 L0 W0 ky1 S1 C1 O1 L1 W1 MP NM TH SZ PT TK ML DL cn DE)) ⟨hx, hb, hml, hown, hts⟩ (c_storedWord l D cI cZ cJ t0 st0 ct0 hd0 lv0 wd0 0 4 3 7 8 ky0 S0 C0 O0 L0 W0 b i tp0 hb0 hi) (cwV 2 hts gX4_sealed_X3_storedWord rfl rfl rfl (by decide +kernel) ⟨Nat.le_of_ble_eq_true rfl, Nat.le_of_ble_eq_true rfl⟩) hP hD hK hS hA [2, 3, 4, 5, 6, 7] [0, 1, 8, 9, 10, 11, 12, 13, 14, 15, 16, 17, 18, 19, 20, 21, 22] [0, 1, 17, 18, 19, 20, 21, 22, 2, 3, 4, 5, 6, 7, 8, 9, 10, 11, 12, 13, 14, 15, 16] rfl rfl (by decide) (fun u => rfl) rfl rfl (q0 := 0) rfl rfl hl.1 rfl (Nat.le_of_ble_eq_true rfl) dX4_sealed_34 ⟨Nat.le_of_ble_eq_true rfl, Nat.le_of_ble_eq_true rfl⟩ (fun r u H locs hu3 hP hD hS => ?_)
    refine k_t1 (show r = S0 b i from hu3) ?_
    exact k_reti () hx hb hr hK hS hlk dX4_sealed_37 hP hD (by exact rfl) hQ
  · skip
    exact absurd c1 (by decide)

set_option maxHeartbeats 800000 in
set_option maxRecDepth 100000 in
theorem c_sealed0_n1 (l : Launch) (hlS : l.stackTraces = false) (D : va_G) (cI cZ cJ : ClassId) (vf : Nat) (di : Nat) (t0 : Nat) (st0 : Nat) (ct0 : Nat) (hd0 : Nat) (lv0 : Nat) (wd0 : Nat) (t1 : Nat) (st1 : Nat) (ct1 : Nat) (hd1 : Nat) (lv1 : Nat) (wd1 : Nat) (mp : Nat) (bk : Nat) (nm : Nat) (ln : Nat) (pt : Nat) (tk : Nat) (tr : Nat) (ml : Nat) (dl : Nat) (G : Int32) (ky0 : Int32) (S0 : Nat → Nat → Int32) (C0 : Nat → Int32) (O0 : Nat → Int32) (L0 : Nat → Int32) (W0 : Nat → Nat → Int32) (ky1 : Int32) (S1 : Nat → Nat → Int32) (C1 : Nat → Int32) (O1 : Nat → Int32) (L1 : Nat → Int32) (W1 : Nat → Nat → Int32) (MP : Nat → Nat) (NM : Nat → Int64) (TH : Nat → Int32) (SZ : Nat → Nat) (PT : Nat → Nat) (TK : Nat → Int32) (ML : Nat → Int32) (DL : Nat → Int32) (cn : Nat) (DE : Int32) (y i : Int32) (hy : noB 7 y = true) : KT l yX4_sealed wsX4_sealed ({ frames := 6, cells := 1, slots := 6, locals := 81 }) D (kty cI cZ cJ) [.ref vf, .int 0, .int y, .int i] (wV cI cZ cJ vf di t0 st0 ct0 hd0 lv0 wd0 t1 st1 ct1 hd1 lv1 wd1 mp bk nm ln pt tk tr ml dl G ky0 S0 C0 O0 L0 W0 ky1 S1 C1 O1 L1 W1 MP NM TH SZ PT TK ML DL cn DE) eIO (wV cI cZ cJ vf di t0 st0 ct0 hd0 lv0 wd0 t1 st1 ct1 hd1 lv1 wd1 mp bk nm ln pt tk tr ml dl G ky0 S0 C0 O0 L0 W0 ky1 S1 C1 O1 L1 W1 MP NM TH SZ PT TK ML DL cn DE) := by
  refine k_headT (cc := cX4_sealed) (maxL := 5) (ret := (some .int)) (by decide) rfl (Nat.le_of_ble_eq_true rfl) ?_
  intro p e s m below meth c A ls args Q hx hb hr hml hts hown hlk hnm hA hK hP hD hS hl htab hC hQ
  have hl : lv_has ls 5 [(0, .ref vf), (1, .int 0), (2, .int y), (3, .int i)] := hl
  refine lv_aload_n hx hb dX4_sealed_0 rfl (lv_at hl 0 rfl) ?_
  refine lv_iload_n hx hb dX4_sealed_1 rfl (lv_at hl 1 rfl) ?_
  refine k_vq (As := [.int 0]) (rest := []) (w2 := fun u : Unit => (wV cI cZ cJ vf di t0 st0 ct0 hd0 lv0 wd0 t1 st1 ct1 hd1 lv1 wd1 mp bk nm ln pt tk tr ml dl G ky0 S0 C0 O0 L0 W0 ky1 S1 C1 O1 L1 W1 MP NM TH SZ PT TK ML DL cn DE)) ⟨hx, hb, hml, hown, hts⟩ (c_tree0 l D cI cZ cJ vf di t0 st0 ct0 hd0 lv0 wd0 t1 st1 ct1 hd1 lv1 wd1 mp bk nm ln pt tk tr ml dl G ky0 S0 C0 O0 L0 W0 ky1 S1 C1 O1 L1 W1 MP NM TH SZ PT TK ML DL cn DE ) (cwV 1 hts gX4_sealed_X4_treeNumbered rfl rfl rfl (by decide +kernel) ⟨Nat.le_of_ble_eq_true rfl, Nat.le_of_ble_eq_true rfl⟩) hP hD hK hS hA [0, 1, 2, 3, 4, 5, 6, 7, 8, 9, 10, 11, 12, 13, 14, 15, 16, 17, 18, 19, 20, 21, 22] [] [0, 1, 2, 3, 4, 5, 6, 7, 8, 9, 10, 11, 12, 13, 14, 15, 16, 17, 18, 19, 20, 21, 22] rfl rfl (by decide) (fun u => rfl) rfl rfl (q0 := 0) rfl rfl hl.1 rfl (Nat.le_of_ble_eq_true rfl) dX4_sealed_2 ⟨Nat.le_of_ble_eq_true rfl, Nat.le_of_ble_eq_true rfl⟩ (fun r u H locs hu1 hP hD hS => ?_)
  refine k_tq (show r = some t0 from hu1) ?_
  refine W.eq (g2 := F0 m 5 ls [.ref t0]) rfl ?_
  refine lv_astore (lv' := [(4, .ref t0), (0, .ref vf), (1, .int 0), (2, .int y), (3, .int i)]) hx hb dX4_sealed_5 hl (by decide) rfl (fun ls hl => ?_)
  refine lv_aload hx hb dX4_sealed_7 (lv_at hl 0 rfl) ?_
  refine lv_ifnull hx hb dX4_sealed_9 ?_
  refine lv_aload hx hb dX4_sealed_12 (lv_at hl 0 rfl) ?_
  refine lv_iload_n hx hb dX4_sealed_14 rfl (lv_at hl 3 rfl) ?_
  refine lv_iload_n hx hb dX4_sealed_15 rfl (lv_at hl 4 rfl) ?_
  refine k_vi (As := [.int y, .int i]) (rest := []) (w2 := fun u : Unit => (wV cI cZ cJ vf di t0 st0 ct0 hd0 lv0 wd0 t1 st1 ct1 hd1 lv1 wd1 mp bk nm ln pt tk tr ml dl G ky0 S0 C0 O0 L0 W0 ky1 S1 C1 O1 L1 W1 MP NM TH SZ PT TK ML DL cn DE)) ⟨hx, hb, hml, hown, hts⟩ (c_hasStored_n1 l D cI cZ cJ t0 st0 ct0 hd0 lv0 wd0 0 4 3 7 8 ky0 S0 C0 O0 L0 W0 y i tp0 hy) (cwV 2 hts gX4_sealed_X3_hasStored rfl rfl rfl (by decide +kernel) ⟨Nat.le_of_ble_eq_true rfl, Nat.le_of_ble_eq_true rfl⟩) hP hD hK hS hA [2, 3, 4, 5, 6, 7] [0, 1, 8, 9, 10, 11, 12, 13, 14, 15, 16, 17, 18, 19, 20, 21, 22] [0, 1, 17, 18, 19, 20, 21, 22, 2, 3, 4, 5, 6, 7, 8, 9, 10, 11, 12, 13, 14, 15, 16] rfl rfl (by decide) (fun u => rfl) rfl rfl (q0 := 0) rfl rfl hl.1 rfl (Nat.le_of_ble_eq_true rfl) dX4_sealed_16 ⟨Nat.le_of_ble_eq_true rfl, Nat.le_of_ble_eq_true rfl⟩ (fun r u H locs hu2 hP hD hS => ?_)
  refine k_t1 (show r = 0 from hu2) ?_
  refine lv_if_ne (tgt := 30) hx hb dX4_sealed_19 (by decide) (fun c1 => ?_) (fun c1 => ?_)
  · skip
    exact absurd rfl c1
  · skip
    exact k_throw (own := RX4) (ik := 69) (ic := 71) hx hb hlS hown (by decide +kernel) (hts (.classLink RX4 69 eIO) (by decide +kernel)) (hts (.initialized eIO) (by decide +kernel)) (fun w hw => hts w (List.mem_cons_of_mem _ (List.mem_append_right _ hw))) kx_b71 hC.2.2.1.1 kx_o71 hC hS (by rw [hml]; exact hl.1) hK hP hD htab hlk dX4_sealed_22 dX4_sealed_25 dX4_sealed_26 dX4_sealed_29 ⟨Nat.le_of_ble_eq_true rfl, Nat.le_of_ble_eq_true rfl, Nat.le_of_ble_eq_true rfl, Nat.le_of_ble_eq_true rfl⟩ ⟨rfl, rfl⟩ hQ

set_option maxHeartbeats 800000 in
set_option maxRecDepth 100000 in
theorem c_sealed0_n2 (l : Launch) (hlS : l.stackTraces = false) (D : va_G) (cI cZ cJ : ClassId) (vf : Nat) (di : Nat) (t0 : Nat) (st0 : Nat) (ct0 : Nat) (hd0 : Nat) (lv0 : Nat) (wd0 : Nat) (t1 : Nat) (st1 : Nat) (ct1 : Nat) (hd1 : Nat) (lv1 : Nat) (wd1 : Nat) (mp : Nat) (bk : Nat) (nm : Nat) (ln : Nat) (pt : Nat) (tk : Nat) (tr : Nat) (ml : Nat) (dl : Nat) (G : Int32) (ky0 : Int32) (S0 : Nat → Nat → Int32) (C0 : Nat → Int32) (O0 : Nat → Int32) (L0 : Nat → Int32) (W0 : Nat → Nat → Int32) (ky1 : Int32) (S1 : Nat → Nat → Int32) (C1 : Nat → Int32) (O1 : Nat → Int32) (L1 : Nat → Int32) (W1 : Nat → Nat → Int32) (MP : Nat → Nat) (NM : Nat → Int64) (TH : Nat → Int32) (SZ : Nat → Nat) (PT : Nat → Nat) (TK : Nat → Int32) (ML : Nat → Int32) (DL : Nat → Int32) (cn : Nat) (DE : Int32) (b : Nat) (i : Int32) (hb0 : b < 7) (hi : noB 25 i = true) : KT l yX4_sealed wsX4_sealed ({ frames := 6, cells := 1, slots := 6, locals := 81 }) D (kty cI cZ cJ) [.ref vf, .int 0, .int (nI b), .int i] (wV cI cZ cJ vf di t0 st0 ct0 hd0 lv0 wd0 t1 st1 ct1 hd1 lv1 wd1 mp bk nm ln pt tk tr ml dl G ky0 S0 C0 O0 L0 W0 ky1 S1 C1 O1 L1 W1 MP NM TH SZ PT TK ML DL cn DE) eIO (wV cI cZ cJ vf di t0 st0 ct0 hd0 lv0 wd0 t1 st1 ct1 hd1 lv1 wd1 mp bk nm ln pt tk tr ml dl G ky0 S0 C0 O0 L0 W0 ky1 S1 C1 O1 L1 W1 MP NM TH SZ PT TK ML DL cn DE) := by
  refine k_headT (cc := cX4_sealed) (maxL := 5) (ret := (some .int)) (by decide) rfl (Nat.le_of_ble_eq_true rfl) ?_
  intro p e s m below meth c A ls args Q hx hb hr hml hts hown hlk hnm hA hK hP hD hS hl htab hC hQ
  have hl : lv_has ls 5 [(0, .ref vf), (1, .int 0), (2, .int (nI b)), (3, .int i)] := hl
  refine lv_aload_n hx hb dX4_sealed_0 rfl (lv_at hl 0 rfl) ?_
  refine lv_iload_n hx hb dX4_sealed_1 rfl (lv_at hl 1 rfl) ?_
  refine k_vq (As := [.int 0]) (rest := []) (w2 := fun u : Unit => (wV cI cZ cJ vf di t0 st0 ct0 hd0 lv0 wd0 t1 st1 ct1 hd1 lv1 wd1 mp bk nm ln pt tk tr ml dl G ky0 S0 C0 O0 L0 W0 ky1 S1 C1 O1 L1 W1 MP NM TH SZ PT TK ML DL cn DE)) ⟨hx, hb, hml, hown, hts⟩ (c_tree0 l D cI cZ cJ vf di t0 st0 ct0 hd0 lv0 wd0 t1 st1 ct1 hd1 lv1 wd1 mp bk nm ln pt tk tr ml dl G ky0 S0 C0 O0 L0 W0 ky1 S1 C1 O1 L1 W1 MP NM TH SZ PT TK ML DL cn DE ) (cwV 1 hts gX4_sealed_X4_treeNumbered rfl rfl rfl (by decide +kernel) ⟨Nat.le_of_ble_eq_true rfl, Nat.le_of_ble_eq_true rfl⟩) hP hD hK hS hA [0, 1, 2, 3, 4, 5, 6, 7, 8, 9, 10, 11, 12, 13, 14, 15, 16, 17, 18, 19, 20, 21, 22] [] [0, 1, 2, 3, 4, 5, 6, 7, 8, 9, 10, 11, 12, 13, 14, 15, 16, 17, 18, 19, 20, 21, 22] rfl rfl (by decide) (fun u => rfl) rfl rfl (q0 := 0) rfl rfl hl.1 rfl (Nat.le_of_ble_eq_true rfl) dX4_sealed_2 ⟨Nat.le_of_ble_eq_true rfl, Nat.le_of_ble_eq_true rfl⟩ (fun r u H locs hu1 hP hD hS => ?_)
  refine k_tq (show r = some t0 from hu1) ?_
  refine W.eq (g2 := F0 m 5 ls [.ref t0]) rfl ?_
  refine lv_astore (lv' := [(4, .ref t0), (0, .ref vf), (1, .int 0), (2, .int (nI b)), (3, .int i)]) hx hb dX4_sealed_5 hl (by decide) rfl (fun ls hl => ?_)
  refine lv_aload hx hb dX4_sealed_7 (lv_at hl 0 rfl) ?_
  refine lv_ifnull hx hb dX4_sealed_9 ?_
  refine lv_aload hx hb dX4_sealed_12 (lv_at hl 0 rfl) ?_
  refine lv_iload_n hx hb dX4_sealed_14 rfl (lv_at hl 3 rfl) ?_
  refine lv_iload_n hx hb dX4_sealed_15 rfl (lv_at hl 4 rfl) ?_
  refine k_vi (As := [.int (nI b), .int i]) (rest := []) (w2 := fun u : Unit => (wV cI cZ cJ vf di t0 st0 ct0 hd0 lv0 wd0 t1 st1 ct1 hd1 lv1 wd1 mp bk nm ln pt tk tr ml dl G ky0 S0 C0 O0 L0 W0 ky1 S1 C1 O1 L1 W1 MP NM TH SZ PT TK ML DL cn DE)) ⟨hx, hb, hml, hown, hts⟩ (c_hasStored_n2 l D cI cZ cJ t0 st0 ct0 hd0 lv0 wd0 0 4 3 7 8 ky0 S0 C0 O0 L0 W0 b i tp0 hb0 hi) (cwV 2 hts gX4_sealed_X3_hasStored rfl rfl rfl (by decide +kernel) ⟨Nat.le_of_ble_eq_true rfl, Nat.le_of_ble_eq_true rfl⟩) hP hD hK hS hA [2, 3, 4, 5, 6, 7] [0, 1, 8, 9, 10, 11, 12, 13, 14, 15, 16, 17, 18, 19, 20, 21, 22] [0, 1, 17, 18, 19, 20, 21, 22, 2, 3, 4, 5, 6, 7, 8, 9, 10, 11, 12, 13, 14, 15, 16] rfl rfl (by decide) (fun u => rfl) rfl rfl (q0 := 0) rfl rfl hl.1 rfl (Nat.le_of_ble_eq_true rfl) dX4_sealed_16 ⟨Nat.le_of_ble_eq_true rfl, Nat.le_of_ble_eq_true rfl⟩ (fun r u H locs hu2 hP hD hS => ?_)
  refine k_t1 (show r = 0 from hu2) ?_
  refine lv_if_ne (tgt := 30) hx hb dX4_sealed_19 (by decide) (fun c1 => ?_) (fun c1 => ?_)
  · skip
    exact absurd rfl c1
  · skip
    exact k_throw (own := RX4) (ik := 69) (ic := 71) hx hb hlS hown (by decide +kernel) (hts (.classLink RX4 69 eIO) (by decide +kernel)) (hts (.initialized eIO) (by decide +kernel)) (fun w hw => hts w (List.mem_cons_of_mem _ (List.mem_append_right _ hw))) kx_b71 hC.2.2.1.1 kx_o71 hC hS (by rw [hml]; exact hl.1) hK hP hD htab hlk dX4_sealed_22 dX4_sealed_25 dX4_sealed_26 dX4_sealed_29 ⟨Nat.le_of_ble_eq_true rfl, Nat.le_of_ble_eq_true rfl, Nat.le_of_ble_eq_true rfl, Nat.le_of_ble_eq_true rfl⟩ ⟨rfl, rfl⟩ hQ

set_option maxHeartbeats 800000 in
set_option maxRecDepth 100000 in
theorem c_sealed1_y (l : Launch) (D : va_G) (cI cZ cJ : ClassId) (vf : Nat) (di : Nat) (t0 : Nat) (st0 : Nat) (ct0 : Nat) (hd0 : Nat) (lv0 : Nat) (wd0 : Nat) (t1 : Nat) (st1 : Nat) (ct1 : Nat) (hd1 : Nat) (lv1 : Nat) (wd1 : Nat) (mp : Nat) (bk : Nat) (nm : Nat) (ln : Nat) (pt : Nat) (tk : Nat) (tr : Nat) (ml : Nat) (dl : Nat) (G : Int32) (ky0 : Int32) (S0 : Nat → Nat → Int32) (C0 : Nat → Int32) (O0 : Nat → Int32) (L0 : Nat → Int32) (W0 : Nat → Nat → Int32) (ky1 : Int32) (S1 : Nat → Nat → Int32) (C1 : Nat → Int32) (O1 : Nat → Int32) (L1 : Nat → Int32) (W1 : Nat → Nat → Int32) (MP : Nat → Nat) (NM : Nat → Int64) (TH : Nat → Int32) (SZ : Nat → Nat) (PT : Nat → Nat) (TK : Nat → Int32) (ML : Nat → Int32) (DL : Nat → Int32) (cn : Nat) (DE : Int32) (b i : Nat) (hb0 : b < 63) (hi : i < 25) : KI l yX4_sealed wsX4_sealed ({ frames := 2, cells := 0, slots := 0, locals := 43 }) D (kty cI cZ cJ) [.ref vf, .int 1, .int (nI b), .int (nI i)] (wV cI cZ cJ vf di t0 st0 ct0 hd0 lv0 wd0 t1 st1 ct1 hd1 lv1 wd1 mp bk nm ln pt tk tr ml dl G ky0 S0 C0 O0 L0 W0 ky1 S1 C1 O1 L1 W1 MP NM TH SZ PT TK ML DL cn DE) (fun r (_ : Unit) => r = S1 b i) (fun _ : Unit => (wV cI cZ cJ vf di t0 st0 ct0 hd0 lv0 wd0 t1 st1 ct1 hd1 lv1 wd1 mp bk nm ln pt tk tr ml dl G ky0 S0 C0 O0 L0 W0 ky1 S1 C1 O1 L1 W1 MP NM TH SZ PT TK ML DL cn DE)) 0 0 := by
  refine k_headI (cc := cX4_sealed) (maxL := 5) (ret := (some .int)) (by decide) rfl (Nat.le_of_ble_eq_true rfl) ?_
  intro p e s m below meth c A ls args Q hx hb hr hml hts hown hlk hnm hA hK hP hD hS hl hQ
  have hl : lv_has ls 5 [(0, .ref vf), (1, .int 1), (2, .int (nI b)), (3, .int (nI i))] := hl
  refine lv_aload_n hx hb dX4_sealed_0 rfl (lv_at hl 0 rfl) ?_
  refine lv_iload_n hx hb dX4_sealed_1 rfl (lv_at hl 1 rfl) ?_
  refine k_vq (As := [.int 1]) (rest := []) (w2 := fun u : Unit => (wV cI cZ cJ vf di t0 st0 ct0 hd0 lv0 wd0 t1 st1 ct1 hd1 lv1 wd1 mp bk nm ln pt tk tr ml dl G ky0 S0 C0 O0 L0 W0 ky1 S1 C1 O1 L1 W1 MP NM TH SZ PT TK ML DL cn DE)) ⟨hx, hb, hml, hown, hts⟩ (c_tree1 l D cI cZ cJ vf di t0 st0 ct0 hd0 lv0 wd0 t1 st1 ct1 hd1 lv1 wd1 mp bk nm ln pt tk tr ml dl G ky0 S0 C0 O0 L0 W0 ky1 S1 C1 O1 L1 W1 MP NM TH SZ PT TK ML DL cn DE ) (cwV 1 hts gX4_sealed_X4_treeNumbered rfl rfl rfl (by decide +kernel) ⟨Nat.le_of_ble_eq_true rfl, Nat.le_of_ble_eq_true rfl⟩) hP hD hK hS hA [0, 1, 2, 3, 4, 5, 6, 7, 8, 9, 10, 11, 12, 13, 14, 15, 16, 17, 18, 19, 20, 21, 22] [] [0, 1, 2, 3, 4, 5, 6, 7, 8, 9, 10, 11, 12, 13, 14, 15, 16, 17, 18, 19, 20, 21, 22] rfl rfl (by decide) (fun u => rfl) rfl rfl (q0 := 0) rfl rfl hl.1 rfl (Nat.le_of_ble_eq_true rfl) dX4_sealed_2 ⟨Nat.le_of_ble_eq_true rfl, Nat.le_of_ble_eq_true rfl⟩ (fun r u H locs hu1 hP hD hS => ?_)
  refine k_tq (show r = some t1 from hu1) ?_
  refine W.eq (g2 := F0 m 5 ls [.ref t1]) rfl ?_
  refine lv_astore (lv' := [(4, .ref t1), (0, .ref vf), (1, .int 1), (2, .int (nI b)), (3, .int (nI i))]) hx hb dX4_sealed_5 hl (by decide) rfl (fun ls hl => ?_)
  refine lv_aload hx hb dX4_sealed_7 (lv_at hl 0 rfl) ?_
  refine lv_ifnull hx hb dX4_sealed_9 ?_
  refine lv_aload hx hb dX4_sealed_12 (lv_at hl 0 rfl) ?_
  refine lv_iload_n hx hb dX4_sealed_14 rfl (lv_at hl 3 rfl) ?_
  refine lv_iload_n hx hb dX4_sealed_15 rfl (lv_at hl 4 rfl) ?_
  refine k_vi (As := [.int (nI b), .int (nI i)]) (rest := []) (w2 := fun u : Unit => (wV cI cZ cJ vf di t0 st0 ct0 hd0 lv0 wd0 t1 st1 ct1 hd1 lv1 wd1 mp bk nm ln pt tk tr ml dl G ky0 S0 C0 O0 L0 W0 ky1 S1 C1 O1 L1 W1 MP NM TH SZ PT TK ML DL cn DE)) ⟨hx, hb, hml, hown, hts⟩ (c_hasStored_y l D cI cZ cJ t1 st1 ct1 hd1 lv1 wd1 1 32 6 63 64 ky1 S1 C1 O1 L1 W1 b i tp1 hb0 hi) (cwV 2 hts gX4_sealed_X3_hasStored rfl rfl rfl (by decide +kernel) ⟨Nat.le_of_ble_eq_true rfl, Nat.le_of_ble_eq_true rfl⟩) hP hD hK hS hA [8, 9, 10, 11, 12, 13] [0, 1, 2, 3, 4, 5, 6, 7, 14, 15, 16, 17, 18, 19, 20, 21, 22] [0, 1, 2, 3, 4, 5, 6, 7, 17, 18, 19, 20, 21, 22, 8, 9, 10, 11, 12, 13, 14, 15, 16] rfl rfl (by decide) (fun u => rfl) rfl rfl (q0 := 0) rfl rfl hl.1 rfl (Nat.le_of_ble_eq_true rfl) dX4_sealed_16 ⟨Nat.le_of_ble_eq_true rfl, Nat.le_of_ble_eq_true rfl⟩ (fun r u H locs hu2 hP hD hS => ?_)
  refine k_t1 (show r = 1 from hu2) ?_
  refine lv_if_ne (tgt := 30) hx hb dX4_sealed_19 (by decide) (fun c1 => ?_) (fun c1 => ?_)
  · skip
    refine lv_aload hx hb dX4_sealed_30 (lv_at hl 0 rfl) ?_
    refine lv_iload_n hx hb dX4_sealed_32 rfl (lv_at hl 3 rfl) ?_
    refine lv_iload_n hx hb dX4_sealed_33 rfl (lv_at hl 4 rfl) ?_
    refine k_vi (As := [.int (nI b), .int (nI i)]) (rest := []) (w2 := fun u : Unit => (wV cI cZ cJ vf di t0 st0 ct0 hd0 lv0 wd0 t1 st1 ct1 hd1 lv1 wd1 mp bk nm ln pt tk tr ml dl G ky0 S0 C0 O0 L0 W0 ky1 S1 C1 O1 L1 W1 MP NM TH SZ PT TK ML DL cn DE)) ⟨hx, hb, hml, hown, hts⟩ (c_storedWord l D cI cZ cJ t1 st1 ct1 hd1 lv1 wd1 1 32 6 63 64 ky1 S1 C1 O1 L1 W1 b i tp1 hb0 hi) (cwV 2 hts gX4_sealed_X3_storedWord rfl rfl rfl (by decide +kernel) ⟨Nat.le_of_ble_eq_true rfl, Nat.le_of_ble_eq_true rfl⟩) hP hD hK hS hA [8, 9, 10, 11, 12, 13] [0, 1, 2, 3, 4, 5, 6, 7, 14, 15, 16, 17, 18, 19, 20, 21, 22] [0, 1, 2, 3, 4, 5, 6, 7, 17, 18, 19, 20, 21, 22, 8, 9, 10, 11, 12, 13, 14, 15, 16] rfl rfl (by decide) (fun u => rfl) rfl rfl (q0 := 0) rfl rfl hl.1 rfl (Nat.le_of_ble_eq_true rfl) dX4_sealed_34 ⟨Nat.le_of_ble_eq_true rfl, Nat.le_of_ble_eq_true rfl⟩ (fun r u H locs hu3 hP hD hS => ?_)
    refine k_t1 (show r = S1 b i from hu3) ?_
    exact k_reti () hx hb hr hK hS hlk dX4_sealed_37 hP hD (by exact rfl) hQ
  · skip
    exact absurd c1 (by decide)

set_option maxHeartbeats 800000 in
set_option maxRecDepth 100000 in
theorem c_sealed1_n1 (l : Launch) (hlS : l.stackTraces = false) (D : va_G) (cI cZ cJ : ClassId) (vf : Nat) (di : Nat) (t0 : Nat) (st0 : Nat) (ct0 : Nat) (hd0 : Nat) (lv0 : Nat) (wd0 : Nat) (t1 : Nat) (st1 : Nat) (ct1 : Nat) (hd1 : Nat) (lv1 : Nat) (wd1 : Nat) (mp : Nat) (bk : Nat) (nm : Nat) (ln : Nat) (pt : Nat) (tk : Nat) (tr : Nat) (ml : Nat) (dl : Nat) (G : Int32) (ky0 : Int32) (S0 : Nat → Nat → Int32) (C0 : Nat → Int32) (O0 : Nat → Int32) (L0 : Nat → Int32) (W0 : Nat → Nat → Int32) (ky1 : Int32) (S1 : Nat → Nat → Int32) (C1 : Nat → Int32) (O1 : Nat → Int32) (L1 : Nat → Int32) (W1 : Nat → Nat → Int32) (MP : Nat → Nat) (NM : Nat → Int64) (TH : Nat → Int32) (SZ : Nat → Nat) (PT : Nat → Nat) (TK : Nat → Int32) (ML : Nat → Int32) (DL : Nat → Int32) (cn : Nat) (DE : Int32) (y i : Int32) (hy : noB 63 y = true) : KT l yX4_sealed wsX4_sealed ({ frames := 6, cells := 1, slots := 6, locals := 81 }) D (kty cI cZ cJ) [.ref vf, .int 1, .int y, .int i] (wV cI cZ cJ vf di t0 st0 ct0 hd0 lv0 wd0 t1 st1 ct1 hd1 lv1 wd1 mp bk nm ln pt tk tr ml dl G ky0 S0 C0 O0 L0 W0 ky1 S1 C1 O1 L1 W1 MP NM TH SZ PT TK ML DL cn DE) eIO (wV cI cZ cJ vf di t0 st0 ct0 hd0 lv0 wd0 t1 st1 ct1 hd1 lv1 wd1 mp bk nm ln pt tk tr ml dl G ky0 S0 C0 O0 L0 W0 ky1 S1 C1 O1 L1 W1 MP NM TH SZ PT TK ML DL cn DE) := by
  refine k_headT (cc := cX4_sealed) (maxL := 5) (ret := (some .int)) (by decide) rfl (Nat.le_of_ble_eq_true rfl) ?_
  intro p e s m below meth c A ls args Q hx hb hr hml hts hown hlk hnm hA hK hP hD hS hl htab hC hQ
  have hl : lv_has ls 5 [(0, .ref vf), (1, .int 1), (2, .int y), (3, .int i)] := hl
  refine lv_aload_n hx hb dX4_sealed_0 rfl (lv_at hl 0 rfl) ?_
  refine lv_iload_n hx hb dX4_sealed_1 rfl (lv_at hl 1 rfl) ?_
  refine k_vq (As := [.int 1]) (rest := []) (w2 := fun u : Unit => (wV cI cZ cJ vf di t0 st0 ct0 hd0 lv0 wd0 t1 st1 ct1 hd1 lv1 wd1 mp bk nm ln pt tk tr ml dl G ky0 S0 C0 O0 L0 W0 ky1 S1 C1 O1 L1 W1 MP NM TH SZ PT TK ML DL cn DE)) ⟨hx, hb, hml, hown, hts⟩ (c_tree1 l D cI cZ cJ vf di t0 st0 ct0 hd0 lv0 wd0 t1 st1 ct1 hd1 lv1 wd1 mp bk nm ln pt tk tr ml dl G ky0 S0 C0 O0 L0 W0 ky1 S1 C1 O1 L1 W1 MP NM TH SZ PT TK ML DL cn DE ) (cwV 1 hts gX4_sealed_X4_treeNumbered rfl rfl rfl (by decide +kernel) ⟨Nat.le_of_ble_eq_true rfl, Nat.le_of_ble_eq_true rfl⟩) hP hD hK hS hA [0, 1, 2, 3, 4, 5, 6, 7, 8, 9, 10, 11, 12, 13, 14, 15, 16, 17, 18, 19, 20, 21, 22] [] [0, 1, 2, 3, 4, 5, 6, 7, 8, 9, 10, 11, 12, 13, 14, 15, 16, 17, 18, 19, 20, 21, 22] rfl rfl (by decide) (fun u => rfl) rfl rfl (q0 := 0) rfl rfl hl.1 rfl (Nat.le_of_ble_eq_true rfl) dX4_sealed_2 ⟨Nat.le_of_ble_eq_true rfl, Nat.le_of_ble_eq_true rfl⟩ (fun r u H locs hu1 hP hD hS => ?_)
  refine k_tq (show r = some t1 from hu1) ?_
  refine W.eq (g2 := F0 m 5 ls [.ref t1]) rfl ?_
  refine lv_astore (lv' := [(4, .ref t1), (0, .ref vf), (1, .int 1), (2, .int y), (3, .int i)]) hx hb dX4_sealed_5 hl (by decide) rfl (fun ls hl => ?_)
  refine lv_aload hx hb dX4_sealed_7 (lv_at hl 0 rfl) ?_
  refine lv_ifnull hx hb dX4_sealed_9 ?_
  refine lv_aload hx hb dX4_sealed_12 (lv_at hl 0 rfl) ?_
  refine lv_iload_n hx hb dX4_sealed_14 rfl (lv_at hl 3 rfl) ?_
  refine lv_iload_n hx hb dX4_sealed_15 rfl (lv_at hl 4 rfl) ?_
  refine k_vi (As := [.int y, .int i]) (rest := []) (w2 := fun u : Unit => (wV cI cZ cJ vf di t0 st0 ct0 hd0 lv0 wd0 t1 st1 ct1 hd1 lv1 wd1 mp bk nm ln pt tk tr ml dl G ky0 S0 C0 O0 L0 W0 ky1 S1 C1 O1 L1 W1 MP NM TH SZ PT TK ML DL cn DE)) ⟨hx, hb, hml, hown, hts⟩ (c_hasStored_n1 l D cI cZ cJ t1 st1 ct1 hd1 lv1 wd1 1 32 6 63 64 ky1 S1 C1 O1 L1 W1 y i tp1 hy) (cwV 2 hts gX4_sealed_X3_hasStored rfl rfl rfl (by decide +kernel) ⟨Nat.le_of_ble_eq_true rfl, Nat.le_of_ble_eq_true rfl⟩) hP hD hK hS hA [8, 9, 10, 11, 12, 13] [0, 1, 2, 3, 4, 5, 6, 7, 14, 15, 16, 17, 18, 19, 20, 21, 22] [0, 1, 2, 3, 4, 5, 6, 7, 17, 18, 19, 20, 21, 22, 8, 9, 10, 11, 12, 13, 14, 15, 16] rfl rfl (by decide) (fun u => rfl) rfl rfl (q0 := 0) rfl rfl hl.1 rfl (Nat.le_of_ble_eq_true rfl) dX4_sealed_16 ⟨Nat.le_of_ble_eq_true rfl, Nat.le_of_ble_eq_true rfl⟩ (fun r u H locs hu2 hP hD hS => ?_)
  refine k_t1 (show r = 0 from hu2) ?_
  refine lv_if_ne (tgt := 30) hx hb dX4_sealed_19 (by decide) (fun c1 => ?_) (fun c1 => ?_)
  · skip
    exact absurd rfl c1
  · skip
    exact k_throw (own := RX4) (ik := 69) (ic := 71) hx hb hlS hown (by decide +kernel) (hts (.classLink RX4 69 eIO) (by decide +kernel)) (hts (.initialized eIO) (by decide +kernel)) (fun w hw => hts w (List.mem_cons_of_mem _ (List.mem_append_right _ hw))) kx_b71 hC.2.2.1.1 kx_o71 hC hS (by rw [hml]; exact hl.1) hK hP hD htab hlk dX4_sealed_22 dX4_sealed_25 dX4_sealed_26 dX4_sealed_29 ⟨Nat.le_of_ble_eq_true rfl, Nat.le_of_ble_eq_true rfl, Nat.le_of_ble_eq_true rfl, Nat.le_of_ble_eq_true rfl⟩ ⟨rfl, rfl⟩ hQ

set_option maxHeartbeats 800000 in
set_option maxRecDepth 100000 in
theorem c_sealed1_n2 (l : Launch) (hlS : l.stackTraces = false) (D : va_G) (cI cZ cJ : ClassId) (vf : Nat) (di : Nat) (t0 : Nat) (st0 : Nat) (ct0 : Nat) (hd0 : Nat) (lv0 : Nat) (wd0 : Nat) (t1 : Nat) (st1 : Nat) (ct1 : Nat) (hd1 : Nat) (lv1 : Nat) (wd1 : Nat) (mp : Nat) (bk : Nat) (nm : Nat) (ln : Nat) (pt : Nat) (tk : Nat) (tr : Nat) (ml : Nat) (dl : Nat) (G : Int32) (ky0 : Int32) (S0 : Nat → Nat → Int32) (C0 : Nat → Int32) (O0 : Nat → Int32) (L0 : Nat → Int32) (W0 : Nat → Nat → Int32) (ky1 : Int32) (S1 : Nat → Nat → Int32) (C1 : Nat → Int32) (O1 : Nat → Int32) (L1 : Nat → Int32) (W1 : Nat → Nat → Int32) (MP : Nat → Nat) (NM : Nat → Int64) (TH : Nat → Int32) (SZ : Nat → Nat) (PT : Nat → Nat) (TK : Nat → Int32) (ML : Nat → Int32) (DL : Nat → Int32) (cn : Nat) (DE : Int32) (b : Nat) (i : Int32) (hb0 : b < 63) (hi : noB 25 i = true) : KT l yX4_sealed wsX4_sealed ({ frames := 6, cells := 1, slots := 6, locals := 81 }) D (kty cI cZ cJ) [.ref vf, .int 1, .int (nI b), .int i] (wV cI cZ cJ vf di t0 st0 ct0 hd0 lv0 wd0 t1 st1 ct1 hd1 lv1 wd1 mp bk nm ln pt tk tr ml dl G ky0 S0 C0 O0 L0 W0 ky1 S1 C1 O1 L1 W1 MP NM TH SZ PT TK ML DL cn DE) eIO (wV cI cZ cJ vf di t0 st0 ct0 hd0 lv0 wd0 t1 st1 ct1 hd1 lv1 wd1 mp bk nm ln pt tk tr ml dl G ky0 S0 C0 O0 L0 W0 ky1 S1 C1 O1 L1 W1 MP NM TH SZ PT TK ML DL cn DE) := by
  refine k_headT (cc := cX4_sealed) (maxL := 5) (ret := (some .int)) (by decide) rfl (Nat.le_of_ble_eq_true rfl) ?_
  intro p e s m below meth c A ls args Q hx hb hr hml hts hown hlk hnm hA hK hP hD hS hl htab hC hQ
  have hl : lv_has ls 5 [(0, .ref vf), (1, .int 1), (2, .int (nI b)), (3, .int i)] := hl
  refine lv_aload_n hx hb dX4_sealed_0 rfl (lv_at hl 0 rfl) ?_
  refine lv_iload_n hx hb dX4_sealed_1 rfl (lv_at hl 1 rfl) ?_
  refine k_vq (As := [.int 1]) (rest := []) (w2 := fun u : Unit => (wV cI cZ cJ vf di t0 st0 ct0 hd0 lv0 wd0 t1 st1 ct1 hd1 lv1 wd1 mp bk nm ln pt tk tr ml dl G ky0 S0 C0 O0 L0 W0 ky1 S1 C1 O1 L1 W1 MP NM TH SZ PT TK ML DL cn DE)) ⟨hx, hb, hml, hown, hts⟩ (c_tree1 l D cI cZ cJ vf di t0 st0 ct0 hd0 lv0 wd0 t1 st1 ct1 hd1 lv1 wd1 mp bk nm ln pt tk tr ml dl G ky0 S0 C0 O0 L0 W0 ky1 S1 C1 O1 L1 W1 MP NM TH SZ PT TK ML DL cn DE ) (cwV 1 hts gX4_sealed_X4_treeNumbered rfl rfl rfl (by decide +kernel) ⟨Nat.le_of_ble_eq_true rfl, Nat.le_of_ble_eq_true rfl⟩) hP hD hK hS hA [0, 1, 2, 3, 4, 5, 6, 7, 8, 9, 10, 11, 12, 13, 14, 15, 16, 17, 18, 19, 20, 21, 22] [] [0, 1, 2, 3, 4, 5, 6, 7, 8, 9, 10, 11, 12, 13, 14, 15, 16, 17, 18, 19, 20, 21, 22] rfl rfl (by decide) (fun u => rfl) rfl rfl (q0 := 0) rfl rfl hl.1 rfl (Nat.le_of_ble_eq_true rfl) dX4_sealed_2 ⟨Nat.le_of_ble_eq_true rfl, Nat.le_of_ble_eq_true rfl⟩ (fun r u H locs hu1 hP hD hS => ?_)
  refine k_tq (show r = some t1 from hu1) ?_
  refine W.eq (g2 := F0 m 5 ls [.ref t1]) rfl ?_
  refine lv_astore (lv' := [(4, .ref t1), (0, .ref vf), (1, .int 1), (2, .int (nI b)), (3, .int i)]) hx hb dX4_sealed_5 hl (by decide) rfl (fun ls hl => ?_)
  refine lv_aload hx hb dX4_sealed_7 (lv_at hl 0 rfl) ?_
  refine lv_ifnull hx hb dX4_sealed_9 ?_
  refine lv_aload hx hb dX4_sealed_12 (lv_at hl 0 rfl) ?_
  refine lv_iload_n hx hb dX4_sealed_14 rfl (lv_at hl 3 rfl) ?_
  refine lv_iload_n hx hb dX4_sealed_15 rfl (lv_at hl 4 rfl) ?_
  refine k_vi (As := [.int (nI b), .int i]) (rest := []) (w2 := fun u : Unit => (wV cI cZ cJ vf di t0 st0 ct0 hd0 lv0 wd0 t1 st1 ct1 hd1 lv1 wd1 mp bk nm ln pt tk tr ml dl G ky0 S0 C0 O0 L0 W0 ky1 S1 C1 O1 L1 W1 MP NM TH SZ PT TK ML DL cn DE)) ⟨hx, hb, hml, hown, hts⟩ (c_hasStored_n2 l D cI cZ cJ t1 st1 ct1 hd1 lv1 wd1 1 32 6 63 64 ky1 S1 C1 O1 L1 W1 b i tp1 hb0 hi) (cwV 2 hts gX4_sealed_X3_hasStored rfl rfl rfl (by decide +kernel) ⟨Nat.le_of_ble_eq_true rfl, Nat.le_of_ble_eq_true rfl⟩) hP hD hK hS hA [8, 9, 10, 11, 12, 13] [0, 1, 2, 3, 4, 5, 6, 7, 14, 15, 16, 17, 18, 19, 20, 21, 22] [0, 1, 2, 3, 4, 5, 6, 7, 17, 18, 19, 20, 21, 22, 8, 9, 10, 11, 12, 13, 14, 15, 16] rfl rfl (by decide) (fun u => rfl) rfl rfl (q0 := 0) rfl rfl hl.1 rfl (Nat.le_of_ble_eq_true rfl) dX4_sealed_16 ⟨Nat.le_of_ble_eq_true rfl, Nat.le_of_ble_eq_true rfl⟩ (fun r u H locs hu2 hP hD hS => ?_)
  refine k_t1 (show r = 0 from hu2) ?_
  refine lv_if_ne (tgt := 30) hx hb dX4_sealed_19 (by decide) (fun c1 => ?_) (fun c1 => ?_)
  · skip
    exact absurd rfl c1
  · skip
    exact k_throw (own := RX4) (ik := 69) (ic := 71) hx hb hlS hown (by decide +kernel) (hts (.classLink RX4 69 eIO) (by decide +kernel)) (hts (.initialized eIO) (by decide +kernel)) (fun w hw => hts w (List.mem_cons_of_mem _ (List.mem_append_right _ hw))) kx_b71 hC.2.2.1.1 kx_o71 hC hS (by rw [hml]; exact hl.1) hK hP hD htab hlk dX4_sealed_22 dX4_sealed_25 dX4_sealed_26 dX4_sealed_29 ⟨Nat.le_of_ble_eq_true rfl, Nat.le_of_ble_eq_true rfl, Nat.le_of_ble_eq_true rfl, Nat.le_of_ble_eq_true rfl⟩ ⟨rfl, rfl⟩ hQ

set_option maxHeartbeats 800000 in
set_option maxRecDepth 100000 in
theorem c_sealedN (l : Launch) (hlS : l.stackTraces = false) (D : va_G) (cI cZ cJ : ClassId) (vf : Nat) (di : Nat) (t0 : Nat) (st0 : Nat) (ct0 : Nat) (hd0 : Nat) (lv0 : Nat) (wd0 : Nat) (t1 : Nat) (st1 : Nat) (ct1 : Nat) (hd1 : Nat) (lv1 : Nat) (wd1 : Nat) (mp : Nat) (bk : Nat) (nm : Nat) (ln : Nat) (pt : Nat) (tk : Nat) (tr : Nat) (ml : Nat) (dl : Nat) (G : Int32) (ky0 : Int32) (S0 : Nat → Nat → Int32) (C0 : Nat → Int32) (O0 : Nat → Int32) (L0 : Nat → Int32) (W0 : Nat → Nat → Int32) (ky1 : Int32) (S1 : Nat → Nat → Int32) (C1 : Nat → Int32) (O1 : Nat → Int32) (L1 : Nat → Int32) (W1 : Nat → Nat → Int32) (MP : Nat → Nat) (NM : Nat → Int64) (TH : Nat → Int32) (SZ : Nat → Nat) (PT : Nat → Nat) (TK : Nat → Int32) (ML : Nat → Int32) (DL : Nat → Int32) (cn : Nat) (DE : Int32) (x y i : Int32) (hx0 : ¬ x = 0 ∧ ¬ x = 1) : KT l yX4_sealed wsX4_sealed ({ frames := 6, cells := 1, slots := 6, locals := 81 }) D (kty cI cZ cJ) [.ref vf, .int x, .int y, .int i] (wV cI cZ cJ vf di t0 st0 ct0 hd0 lv0 wd0 t1 st1 ct1 hd1 lv1 wd1 mp bk nm ln pt tk tr ml dl G ky0 S0 C0 O0 L0 W0 ky1 S1 C1 O1 L1 W1 MP NM TH SZ PT TK ML DL cn DE) eIO (wV cI cZ cJ vf di t0 st0 ct0 hd0 lv0 wd0 t1 st1 ct1 hd1 lv1 wd1 mp bk nm ln pt tk tr ml dl G ky0 S0 C0 O0 L0 W0 ky1 S1 C1 O1 L1 W1 MP NM TH SZ PT TK ML DL cn DE) := by
  refine k_headT (cc := cX4_sealed) (maxL := 5) (ret := (some .int)) (by decide) rfl (Nat.le_of_ble_eq_true rfl) ?_
  intro p e s m below meth c A ls args Q hx hb hr hml hts hown hlk hnm hA hK hP hD hS hl htab hC hQ
  have hl : lv_has ls 5 [(0, .ref vf), (1, .int x), (2, .int y), (3, .int i)] := hl
  refine lv_aload_n hx hb dX4_sealed_0 rfl (lv_at hl 0 rfl) ?_
  refine lv_iload_n hx hb dX4_sealed_1 rfl (lv_at hl 1 rfl) ?_
  refine k_vq (As := [.int x]) (rest := []) (w2 := fun u : Unit => (wV cI cZ cJ vf di t0 st0 ct0 hd0 lv0 wd0 t1 st1 ct1 hd1 lv1 wd1 mp bk nm ln pt tk tr ml dl G ky0 S0 C0 O0 L0 W0 ky1 S1 C1 O1 L1 W1 MP NM TH SZ PT TK ML DL cn DE)) ⟨hx, hb, hml, hown, hts⟩ (c_treeN l D cI cZ cJ vf di t0 st0 ct0 hd0 lv0 wd0 t1 st1 ct1 hd1 lv1 wd1 mp bk nm ln pt tk tr ml dl G ky0 S0 C0 O0 L0 W0 ky1 S1 C1 O1 L1 W1 MP NM TH SZ PT TK ML DL cn DE x hx0) (cwV 1 hts gX4_sealed_X4_treeNumbered rfl rfl rfl (by decide +kernel) ⟨Nat.le_of_ble_eq_true rfl, Nat.le_of_ble_eq_true rfl⟩) hP hD hK hS hA [0, 1, 2, 3, 4, 5, 6, 7, 8, 9, 10, 11, 12, 13, 14, 15, 16, 17, 18, 19, 20, 21, 22] [] [0, 1, 2, 3, 4, 5, 6, 7, 8, 9, 10, 11, 12, 13, 14, 15, 16, 17, 18, 19, 20, 21, 22] rfl rfl (by decide) (fun u => rfl) rfl rfl (q0 := 0) rfl rfl hl.1 rfl (Nat.le_of_ble_eq_true rfl) dX4_sealed_2 ⟨Nat.le_of_ble_eq_true rfl, Nat.le_of_ble_eq_true rfl⟩ (fun r u H locs hu1 hP hD hS => ?_)
  refine k_tq (show r = none from hu1) ?_
  refine W.eq (g2 := F0 m 5 ls [.null]) rfl ?_
  refine lv_astoreN (lv' := [(4, .null), (0, .ref vf), (1, .int x), (2, .int y), (3, .int i)]) hx hb dX4_sealed_5 hl (by decide) rfl (fun ls hl => ?_)
  refine lv_aloadN hx hb dX4_sealed_7 (lv_at hl 0 rfl) ?_
  refine lv_ifnullN (tgt := 22) hx hb dX4_sealed_9 (by decide) ?_
  exact k_throw (own := RX4) (ik := 69) (ic := 71) hx hb hlS hown (by decide +kernel) (hts (.classLink RX4 69 eIO) (by decide +kernel)) (hts (.initialized eIO) (by decide +kernel)) (fun w hw => hts w (List.mem_cons_of_mem _ (List.mem_append_right _ hw))) kx_b71 hC.2.2.1.1 kx_o71 hC hS (by rw [hml]; exact hl.1) hK hP hD htab hlk dX4_sealed_22 dX4_sealed_25 dX4_sealed_26 dX4_sealed_29 ⟨Nat.le_of_ble_eq_true rfl, Nat.le_of_ble_eq_true rfl, Nat.le_of_ble_eq_true rfl, Nat.le_of_ble_eq_true rfl⟩ ⟨rfl, rfl⟩ hQ

set_option maxHeartbeats 800000 in
set_option maxRecDepth 100000 in
theorem c_alter0_y (l : Launch) (D : va_G) (cI cZ cJ : ClassId) (vf : Nat) (di : Nat) (t0 : Nat) (st0 : Nat) (ct0 : Nat) (hd0 : Nat) (lv0 : Nat) (wd0 : Nat) (t1 : Nat) (st1 : Nat) (ct1 : Nat) (hd1 : Nat) (lv1 : Nat) (wd1 : Nat) (mp : Nat) (bk : Nat) (nm : Nat) (ln : Nat) (pt : Nat) (tk : Nat) (tr : Nat) (ml : Nat) (dl : Nat) (G : Int32) (ky0 : Int32) (S0 : Nat → Nat → Int32) (C0 : Nat → Int32) (O0 : Nat → Int32) (L0 : Nat → Int32) (W0 : Nat → Nat → Int32) (ky1 : Int32) (S1 : Nat → Nat → Int32) (C1 : Nat → Int32) (O1 : Nat → Int32) (L1 : Nat → Int32) (W1 : Nat → Nat → Int32) (MP : Nat → Nat) (NM : Nat → Int64) (TH : Nat → Int32) (SZ : Nat → Nat) (PT : Nat → Nat) (TK : Nat → Int32) (ML : Nat → Int32) (DL : Nat → Int32) (cn : Nat) (DE : Int32) (b i : Nat) (v : Int32) (hb0 : b < 7) (hi : i < 25) (hw : ¬ wholeB ky0 0 C0 (setRow S0 b (upd (S0 b) i v)) b) : KI l yX4_alter wsX4_alter ({ frames := 4, cells := 0, slots := 0, locals := 94 }) D (kty cI cZ cJ) [.ref vf, .int 0, .int (nI b), .int (nI i), .int v] (wV cI cZ cJ vf di t0 st0 ct0 hd0 lv0 wd0 t1 st1 ct1 hd1 lv1 wd1 mp bk nm ln pt tk tr ml dl G ky0 S0 C0 O0 L0 W0 ky1 S1 C1 O1 L1 W1 MP NM TH SZ PT TK ML DL cn DE) (fun r (_ : Unit) => r = 1) (fun _ : Unit => (wV cI cZ cJ vf di t0 st0 ct0 hd0 lv0 wd0 t1 st1 ct1 hd1 lv1 wd1 mp bk nm ln pt tk tr ml dl G ky0 (setRow S0 b (upd (S0 b) i v)) C0 O0 L0 W0 ky1 S1 C1 O1 L1 W1 MP NM TH SZ PT TK ML DL cn DE)) 0 0 := by
  refine k_headI (cc := cX4_alter) (maxL := 6) (ret := (some .boolean)) (by decide) rfl (Nat.le_of_ble_eq_true rfl) ?_
  intro p e s m below meth c A ls args Q hx hb hr hml hts hown hlk hnm hA hK hP hD hS hl hQ
  have hl : lv_has ls 6 [(0, .ref vf), (1, .int 0), (2, .int (nI b)), (3, .int (nI i)), (4, .int v)] := hl
  refine lv_aload_n hx hb dX4_alter_0 rfl (lv_at hl 0 rfl) ?_
  refine lv_iload_n hx hb dX4_alter_1 rfl (lv_at hl 1 rfl) ?_
  refine k_vq (As := [.int 0]) (rest := []) (w2 := fun u : Unit => (wV cI cZ cJ vf di t0 st0 ct0 hd0 lv0 wd0 t1 st1 ct1 hd1 lv1 wd1 mp bk nm ln pt tk tr ml dl G ky0 S0 C0 O0 L0 W0 ky1 S1 C1 O1 L1 W1 MP NM TH SZ PT TK ML DL cn DE)) ⟨hx, hb, hml, hown, hts⟩ (c_tree0 l D cI cZ cJ vf di t0 st0 ct0 hd0 lv0 wd0 t1 st1 ct1 hd1 lv1 wd1 mp bk nm ln pt tk tr ml dl G ky0 S0 C0 O0 L0 W0 ky1 S1 C1 O1 L1 W1 MP NM TH SZ PT TK ML DL cn DE ) (cwV 1 hts gX4_alter_X4_treeNumbered rfl rfl rfl (by decide +kernel) ⟨Nat.le_of_ble_eq_true rfl, Nat.le_of_ble_eq_true rfl⟩) hP hD hK hS hA [0, 1, 2, 3, 4, 5, 6, 7, 8, 9, 10, 11, 12, 13, 14, 15, 16, 17, 18, 19, 20, 21, 22] [] [0, 1, 2, 3, 4, 5, 6, 7, 8, 9, 10, 11, 12, 13, 14, 15, 16, 17, 18, 19, 20, 21, 22] rfl rfl (by decide) (fun u => rfl) rfl rfl (q0 := 0) rfl rfl hl.1 rfl (Nat.le_of_ble_eq_true rfl) dX4_alter_2 ⟨Nat.le_of_ble_eq_true rfl, Nat.le_of_ble_eq_true rfl⟩ (fun r u H locs hu1 hP hD hS => ?_)
  refine k_tq (show r = some t0 from hu1) ?_
  refine W.eq (g2 := F0 m 5 ls [.ref t0]) rfl ?_
  refine lv_astore (lv' := [(5, .ref t0), (0, .ref vf), (1, .int 0), (2, .int (nI b)), (3, .int (nI i)), (4, .int v)]) hx hb dX4_alter_5 hl (by decide) rfl (fun ls hl => ?_)
  refine lv_aload hx hb dX4_alter_7 (lv_at hl 0 rfl) ?_
  refine lv_ifnull hx hb dX4_alter_9 ?_
  refine lv_aload hx hb dX4_alter_12 (lv_at hl 0 rfl) ?_
  refine lv_iload_n hx hb dX4_alter_14 rfl (lv_at hl 3 rfl) ?_
  refine lv_iload_n hx hb dX4_alter_15 rfl (lv_at hl 4 rfl) ?_
  refine k_vi (As := [.int (nI b), .int (nI i)]) (rest := []) (w2 := fun u : Unit => (wV cI cZ cJ vf di t0 st0 ct0 hd0 lv0 wd0 t1 st1 ct1 hd1 lv1 wd1 mp bk nm ln pt tk tr ml dl G ky0 S0 C0 O0 L0 W0 ky1 S1 C1 O1 L1 W1 MP NM TH SZ PT TK ML DL cn DE)) ⟨hx, hb, hml, hown, hts⟩ (c_hasStored_y l D cI cZ cJ t0 st0 ct0 hd0 lv0 wd0 0 4 3 7 8 ky0 S0 C0 O0 L0 W0 b i tp0 hb0 hi) (cwV 2 hts gX4_alter_X3_hasStored rfl rfl rfl (by decide +kernel) ⟨Nat.le_of_ble_eq_true rfl, Nat.le_of_ble_eq_true rfl⟩) hP hD hK hS hA [2, 3, 4, 5, 6, 7] [0, 1, 8, 9, 10, 11, 12, 13, 14, 15, 16, 17, 18, 19, 20, 21, 22] [0, 1, 17, 18, 19, 20, 21, 22, 2, 3, 4, 5, 6, 7, 8, 9, 10, 11, 12, 13, 14, 15, 16] rfl rfl (by decide) (fun u => rfl) rfl rfl (q0 := 0) rfl rfl hl.1 rfl (Nat.le_of_ble_eq_true rfl) dX4_alter_16 ⟨Nat.le_of_ble_eq_true rfl, Nat.le_of_ble_eq_true rfl⟩ (fun r u H locs hu2 hP hD hS => ?_)
  refine k_t1 (show r = 1 from hu2) ?_
  refine lv_if_eq (tgt := 38) hx hb dX4_alter_19 (by decide) (fun c1 => ?_) (fun c1 => ?_)
  · skip
    exact absurd c1 (by decide)
  · skip
    refine lv_aload hx hb dX4_alter_22 (lv_at hl 0 rfl) ?_
    refine lv_iload_n hx hb dX4_alter_24 rfl (lv_at hl 3 rfl) ?_
    refine lv_iload_n hx hb dX4_alter_25 rfl (lv_at hl 4 rfl) ?_
    refine lv_iload hx hb dX4_alter_26 (lv_at hl 5 rfl) ?_
    refine k_vi (As := [.int (nI b), .int (nI i), .int v]) (rest := []) (w2 := fun u : Unit => (wV cI cZ cJ vf di t0 st0 ct0 hd0 lv0 wd0 t1 st1 ct1 hd1 lv1 wd1 mp bk nm ln pt tk tr ml dl G ky0 (setRow S0 b (upd (S0 b) i v)) C0 O0 L0 W0 ky1 S1 C1 O1 L1 W1 MP NM TH SZ PT TK ML DL cn DE)) ⟨hx, hb, hml, hown, hts⟩ (c_spoil_y l D cI cZ cJ t0 st0 ct0 hd0 lv0 wd0 0 4 3 7 8 ky0 S0 C0 O0 L0 W0 b i v tp0 hb0 hi hw) (cwV 3 hts gX4_alter_X3_spoil rfl rfl rfl (by decide +kernel) ⟨Nat.le_of_ble_eq_true rfl, Nat.le_of_ble_eq_true rfl⟩) hP hD hK hS hA [2, 3, 4, 5, 6, 7] [0, 1, 8, 9, 10, 11, 12, 13, 14, 15, 16, 17, 18, 19, 20, 21, 22] [0, 1, 17, 18, 19, 20, 21, 22, 2, 3, 4, 5, 6, 7, 8, 9, 10, 11, 12, 13, 14, 15, 16] rfl rfl (by decide) (fun u => rfl) rfl rfl (q0 := 0) rfl rfl hl.1 rfl (Nat.le_of_ble_eq_true rfl) dX4_alter_28 ⟨Nat.le_of_ble_eq_true rfl, Nat.le_of_ble_eq_true rfl⟩ (fun r u H locs hu3 hP hD hS => ?_)
    refine k_t1 (show r = 1 from hu3) ?_
    refine lv_if_eq (tgt := 38) hx hb dX4_alter_31 (by decide) (fun c2 => ?_) (fun c2 => ?_)
    · skip
      exact absurd c2 (by decide)
    · skip
      refine lv_iconst (v := nI 1) hx hb dX4_alter_34 (by decide) ?_
      refine lv_goto (tgt := 39) hx hb dX4_alter_35 (by decide) ?_
      exact k_retz () hx hb hr hK hS hlk dX4_alter_39 ((by first | exact Or.inl rfl | exact Or.inr rfl)) hP hD (by exact rfl) hQ

set_option maxHeartbeats 800000 in
set_option maxRecDepth 100000 in
theorem c_alter0_w (l : Launch) (D : va_G) (cI cZ cJ : ClassId) (vf : Nat) (di : Nat) (t0 : Nat) (st0 : Nat) (ct0 : Nat) (hd0 : Nat) (lv0 : Nat) (wd0 : Nat) (t1 : Nat) (st1 : Nat) (ct1 : Nat) (hd1 : Nat) (lv1 : Nat) (wd1 : Nat) (mp : Nat) (bk : Nat) (nm : Nat) (ln : Nat) (pt : Nat) (tk : Nat) (tr : Nat) (ml : Nat) (dl : Nat) (G : Int32) (ky0 : Int32) (S0 : Nat → Nat → Int32) (C0 : Nat → Int32) (O0 : Nat → Int32) (L0 : Nat → Int32) (W0 : Nat → Nat → Int32) (ky1 : Int32) (S1 : Nat → Nat → Int32) (C1 : Nat → Int32) (O1 : Nat → Int32) (L1 : Nat → Int32) (W1 : Nat → Nat → Int32) (MP : Nat → Nat) (NM : Nat → Int64) (TH : Nat → Int32) (SZ : Nat → Nat) (PT : Nat → Nat) (TK : Nat → Int32) (ML : Nat → Int32) (DL : Nat → Int32) (cn : Nat) (DE : Int32) (b i : Nat) (v : Int32) (hb0 : b < 7) (hi : i < 25) (hw : wholeB ky0 0 C0 (setRow S0 b (upd (S0 b) i v)) b) : KI l yX4_alter wsX4_alter ({ frames := 4, cells := 0, slots := 0, locals := 94 }) D (kty cI cZ cJ) [.ref vf, .int 0, .int (nI b), .int (nI i), .int v] (wV cI cZ cJ vf di t0 st0 ct0 hd0 lv0 wd0 t1 st1 ct1 hd1 lv1 wd1 mp bk nm ln pt tk tr ml dl G ky0 S0 C0 O0 L0 W0 ky1 S1 C1 O1 L1 W1 MP NM TH SZ PT TK ML DL cn DE) (fun r (_ : Unit) => r = 0) (fun _ : Unit => (wV cI cZ cJ vf di t0 st0 ct0 hd0 lv0 wd0 t1 st1 ct1 hd1 lv1 wd1 mp bk nm ln pt tk tr ml dl G ky0 S0 C0 O0 L0 W0 ky1 S1 C1 O1 L1 W1 MP NM TH SZ PT TK ML DL cn DE)) 0 0 := by
  refine k_headI (cc := cX4_alter) (maxL := 6) (ret := (some .boolean)) (by decide) rfl (Nat.le_of_ble_eq_true rfl) ?_
  intro p e s m below meth c A ls args Q hx hb hr hml hts hown hlk hnm hA hK hP hD hS hl hQ
  have hl : lv_has ls 6 [(0, .ref vf), (1, .int 0), (2, .int (nI b)), (3, .int (nI i)), (4, .int v)] := hl
  refine lv_aload_n hx hb dX4_alter_0 rfl (lv_at hl 0 rfl) ?_
  refine lv_iload_n hx hb dX4_alter_1 rfl (lv_at hl 1 rfl) ?_
  refine k_vq (As := [.int 0]) (rest := []) (w2 := fun u : Unit => (wV cI cZ cJ vf di t0 st0 ct0 hd0 lv0 wd0 t1 st1 ct1 hd1 lv1 wd1 mp bk nm ln pt tk tr ml dl G ky0 S0 C0 O0 L0 W0 ky1 S1 C1 O1 L1 W1 MP NM TH SZ PT TK ML DL cn DE)) ⟨hx, hb, hml, hown, hts⟩ (c_tree0 l D cI cZ cJ vf di t0 st0 ct0 hd0 lv0 wd0 t1 st1 ct1 hd1 lv1 wd1 mp bk nm ln pt tk tr ml dl G ky0 S0 C0 O0 L0 W0 ky1 S1 C1 O1 L1 W1 MP NM TH SZ PT TK ML DL cn DE ) (cwV 1 hts gX4_alter_X4_treeNumbered rfl rfl rfl (by decide +kernel) ⟨Nat.le_of_ble_eq_true rfl, Nat.le_of_ble_eq_true rfl⟩) hP hD hK hS hA [0, 1, 2, 3, 4, 5, 6, 7, 8, 9, 10, 11, 12, 13, 14, 15, 16, 17, 18, 19, 20, 21, 22] [] [0, 1, 2, 3, 4, 5, 6, 7, 8, 9, 10, 11, 12, 13, 14, 15, 16, 17, 18, 19, 20, 21, 22] rfl rfl (by decide) (fun u => rfl) rfl rfl (q0 := 0) rfl rfl hl.1 rfl (Nat.le_of_ble_eq_true rfl) dX4_alter_2 ⟨Nat.le_of_ble_eq_true rfl, Nat.le_of_ble_eq_true rfl⟩ (fun r u H locs hu1 hP hD hS => ?_)
  refine k_tq (show r = some t0 from hu1) ?_
  refine W.eq (g2 := F0 m 5 ls [.ref t0]) rfl ?_
  refine lv_astore (lv' := [(5, .ref t0), (0, .ref vf), (1, .int 0), (2, .int (nI b)), (3, .int (nI i)), (4, .int v)]) hx hb dX4_alter_5 hl (by decide) rfl (fun ls hl => ?_)
  refine lv_aload hx hb dX4_alter_7 (lv_at hl 0 rfl) ?_
  refine lv_ifnull hx hb dX4_alter_9 ?_
  refine lv_aload hx hb dX4_alter_12 (lv_at hl 0 rfl) ?_
  refine lv_iload_n hx hb dX4_alter_14 rfl (lv_at hl 3 rfl) ?_
  refine lv_iload_n hx hb dX4_alter_15 rfl (lv_at hl 4 rfl) ?_
  refine k_vi (As := [.int (nI b), .int (nI i)]) (rest := []) (w2 := fun u : Unit => (wV cI cZ cJ vf di t0 st0 ct0 hd0 lv0 wd0 t1 st1 ct1 hd1 lv1 wd1 mp bk nm ln pt tk tr ml dl G ky0 S0 C0 O0 L0 W0 ky1 S1 C1 O1 L1 W1 MP NM TH SZ PT TK ML DL cn DE)) ⟨hx, hb, hml, hown, hts⟩ (c_hasStored_y l D cI cZ cJ t0 st0 ct0 hd0 lv0 wd0 0 4 3 7 8 ky0 S0 C0 O0 L0 W0 b i tp0 hb0 hi) (cwV 2 hts gX4_alter_X3_hasStored rfl rfl rfl (by decide +kernel) ⟨Nat.le_of_ble_eq_true rfl, Nat.le_of_ble_eq_true rfl⟩) hP hD hK hS hA [2, 3, 4, 5, 6, 7] [0, 1, 8, 9, 10, 11, 12, 13, 14, 15, 16, 17, 18, 19, 20, 21, 22] [0, 1, 17, 18, 19, 20, 21, 22, 2, 3, 4, 5, 6, 7, 8, 9, 10, 11, 12, 13, 14, 15, 16] rfl rfl (by decide) (fun u => rfl) rfl rfl (q0 := 0) rfl rfl hl.1 rfl (Nat.le_of_ble_eq_true rfl) dX4_alter_16 ⟨Nat.le_of_ble_eq_true rfl, Nat.le_of_ble_eq_true rfl⟩ (fun r u H locs hu2 hP hD hS => ?_)
  refine k_t1 (show r = 1 from hu2) ?_
  refine lv_if_eq (tgt := 38) hx hb dX4_alter_19 (by decide) (fun c1 => ?_) (fun c1 => ?_)
  · skip
    exact absurd c1 (by decide)
  · skip
    refine lv_aload hx hb dX4_alter_22 (lv_at hl 0 rfl) ?_
    refine lv_iload_n hx hb dX4_alter_24 rfl (lv_at hl 3 rfl) ?_
    refine lv_iload_n hx hb dX4_alter_25 rfl (lv_at hl 4 rfl) ?_
    refine lv_iload hx hb dX4_alter_26 (lv_at hl 5 rfl) ?_
    refine k_vi (As := [.int (nI b), .int (nI i), .int v]) (rest := []) (w2 := fun u : Unit => (wV cI cZ cJ vf di t0 st0 ct0 hd0 lv0 wd0 t1 st1 ct1 hd1 lv1 wd1 mp bk nm ln pt tk tr ml dl G ky0 S0 C0 O0 L0 W0 ky1 S1 C1 O1 L1 W1 MP NM TH SZ PT TK ML DL cn DE)) ⟨hx, hb, hml, hown, hts⟩ (c_spoil_n l D cI cZ cJ t0 st0 ct0 hd0 lv0 wd0 0 4 3 7 8 ky0 S0 C0 O0 L0 W0 b i v tp0 hb0 hi hw) (cwV 3 hts gX4_alter_X3_spoil rfl rfl rfl (by decide +kernel) ⟨Nat.le_of_ble_eq_true rfl, Nat.le_of_ble_eq_true rfl⟩) hP hD hK hS hA [2, 3, 4, 5, 6, 7] [0, 1, 8, 9, 10, 11, 12, 13, 14, 15, 16, 17, 18, 19, 20, 21, 22] [0, 1, 17, 18, 19, 20, 21, 22, 2, 3, 4, 5, 6, 7, 8, 9, 10, 11, 12, 13, 14, 15, 16] rfl rfl (by decide) (fun u => rfl) rfl rfl (q0 := 0) rfl rfl hl.1 rfl (Nat.le_of_ble_eq_true rfl) dX4_alter_28 ⟨Nat.le_of_ble_eq_true rfl, Nat.le_of_ble_eq_true rfl⟩ (fun r u H locs hu3 hP hD hS => ?_)
    refine k_t1 (show r = 0 from hu3) ?_
    refine lv_if_eq (tgt := 38) hx hb dX4_alter_31 (by decide) (fun c2 => ?_) (fun c2 => ?_)
    · skip
      refine lv_iconst (v := nI 0) hx hb dX4_alter_38 (by decide) ?_
      exact k_retz () hx hb hr hK hS hlk dX4_alter_39 ((by first | exact Or.inl rfl | exact Or.inr rfl)) hP hD (by exact rfl) hQ
    · skip
      exact absurd rfl c2

set_option maxHeartbeats 800000 in
set_option maxRecDepth 100000 in
theorem c_alter0_n1 (l : Launch) (D : va_G) (cI cZ cJ : ClassId) (vf : Nat) (di : Nat) (t0 : Nat) (st0 : Nat) (ct0 : Nat) (hd0 : Nat) (lv0 : Nat) (wd0 : Nat) (t1 : Nat) (st1 : Nat) (ct1 : Nat) (hd1 : Nat) (lv1 : Nat) (wd1 : Nat) (mp : Nat) (bk : Nat) (nm : Nat) (ln : Nat) (pt : Nat) (tk : Nat) (tr : Nat) (ml : Nat) (dl : Nat) (G : Int32) (ky0 : Int32) (S0 : Nat → Nat → Int32) (C0 : Nat → Int32) (O0 : Nat → Int32) (L0 : Nat → Int32) (W0 : Nat → Nat → Int32) (ky1 : Int32) (S1 : Nat → Nat → Int32) (C1 : Nat → Int32) (O1 : Nat → Int32) (L1 : Nat → Int32) (W1 : Nat → Nat → Int32) (MP : Nat → Nat) (NM : Nat → Int64) (TH : Nat → Int32) (SZ : Nat → Nat) (PT : Nat → Nat) (TK : Nat → Int32) (ML : Nat → Int32) (DL : Nat → Int32) (cn : Nat) (DE : Int32) (y i v : Int32) (hy : noB 7 y = true) : KI l yX4_alter wsX4_alter ({ frames := 2, cells := 0, slots := 0, locals := 43 }) D (kty cI cZ cJ) [.ref vf, .int 0, .int y, .int i, .int v] (wV cI cZ cJ vf di t0 st0 ct0 hd0 lv0 wd0 t1 st1 ct1 hd1 lv1 wd1 mp bk nm ln pt tk tr ml dl G ky0 S0 C0 O0 L0 W0 ky1 S1 C1 O1 L1 W1 MP NM TH SZ PT TK ML DL cn DE) (fun r (_ : Unit) => r = 0) (fun _ : Unit => (wV cI cZ cJ vf di t0 st0 ct0 hd0 lv0 wd0 t1 st1 ct1 hd1 lv1 wd1 mp bk nm ln pt tk tr ml dl G ky0 S0 C0 O0 L0 W0 ky1 S1 C1 O1 L1 W1 MP NM TH SZ PT TK ML DL cn DE)) 0 0 := by
  refine k_headI (cc := cX4_alter) (maxL := 6) (ret := (some .boolean)) (by decide) rfl (Nat.le_of_ble_eq_true rfl) ?_
  intro p e s m below meth c A ls args Q hx hb hr hml hts hown hlk hnm hA hK hP hD hS hl hQ
  have hl : lv_has ls 6 [(0, .ref vf), (1, .int 0), (2, .int y), (3, .int i), (4, .int v)] := hl
  refine lv_aload_n hx hb dX4_alter_0 rfl (lv_at hl 0 rfl) ?_
  refine lv_iload_n hx hb dX4_alter_1 rfl (lv_at hl 1 rfl) ?_
  refine k_vq (As := [.int 0]) (rest := []) (w2 := fun u : Unit => (wV cI cZ cJ vf di t0 st0 ct0 hd0 lv0 wd0 t1 st1 ct1 hd1 lv1 wd1 mp bk nm ln pt tk tr ml dl G ky0 S0 C0 O0 L0 W0 ky1 S1 C1 O1 L1 W1 MP NM TH SZ PT TK ML DL cn DE)) ⟨hx, hb, hml, hown, hts⟩ (c_tree0 l D cI cZ cJ vf di t0 st0 ct0 hd0 lv0 wd0 t1 st1 ct1 hd1 lv1 wd1 mp bk nm ln pt tk tr ml dl G ky0 S0 C0 O0 L0 W0 ky1 S1 C1 O1 L1 W1 MP NM TH SZ PT TK ML DL cn DE ) (cwV 1 hts gX4_alter_X4_treeNumbered rfl rfl rfl (by decide +kernel) ⟨Nat.le_of_ble_eq_true rfl, Nat.le_of_ble_eq_true rfl⟩) hP hD hK hS hA [0, 1, 2, 3, 4, 5, 6, 7, 8, 9, 10, 11, 12, 13, 14, 15, 16, 17, 18, 19, 20, 21, 22] [] [0, 1, 2, 3, 4, 5, 6, 7, 8, 9, 10, 11, 12, 13, 14, 15, 16, 17, 18, 19, 20, 21, 22] rfl rfl (by decide) (fun u => rfl) rfl rfl (q0 := 0) rfl rfl hl.1 rfl (Nat.le_of_ble_eq_true rfl) dX4_alter_2 ⟨Nat.le_of_ble_eq_true rfl, Nat.le_of_ble_eq_true rfl⟩ (fun r u H locs hu1 hP hD hS => ?_)
  refine k_tq (show r = some t0 from hu1) ?_
  refine W.eq (g2 := F0 m 5 ls [.ref t0]) rfl ?_
  refine lv_astore (lv' := [(5, .ref t0), (0, .ref vf), (1, .int 0), (2, .int y), (3, .int i), (4, .int v)]) hx hb dX4_alter_5 hl (by decide) rfl (fun ls hl => ?_)
  refine lv_aload hx hb dX4_alter_7 (lv_at hl 0 rfl) ?_
  refine lv_ifnull hx hb dX4_alter_9 ?_
  refine lv_aload hx hb dX4_alter_12 (lv_at hl 0 rfl) ?_
  refine lv_iload_n hx hb dX4_alter_14 rfl (lv_at hl 3 rfl) ?_
  refine lv_iload_n hx hb dX4_alter_15 rfl (lv_at hl 4 rfl) ?_
  refine k_vi (As := [.int y, .int i]) (rest := []) (w2 := fun u : Unit => (wV cI cZ cJ vf di t0 st0 ct0 hd0 lv0 wd0 t1 st1 ct1 hd1 lv1 wd1 mp bk nm ln pt tk tr ml dl G ky0 S0 C0 O0 L0 W0 ky1 S1 C1 O1 L1 W1 MP NM TH SZ PT TK ML DL cn DE)) ⟨hx, hb, hml, hown, hts⟩ (c_hasStored_n1 l D cI cZ cJ t0 st0 ct0 hd0 lv0 wd0 0 4 3 7 8 ky0 S0 C0 O0 L0 W0 y i tp0 hy) (cwV 2 hts gX4_alter_X3_hasStored rfl rfl rfl (by decide +kernel) ⟨Nat.le_of_ble_eq_true rfl, Nat.le_of_ble_eq_true rfl⟩) hP hD hK hS hA [2, 3, 4, 5, 6, 7] [0, 1, 8, 9, 10, 11, 12, 13, 14, 15, 16, 17, 18, 19, 20, 21, 22] [0, 1, 17, 18, 19, 20, 21, 22, 2, 3, 4, 5, 6, 7, 8, 9, 10, 11, 12, 13, 14, 15, 16] rfl rfl (by decide) (fun u => rfl) rfl rfl (q0 := 0) rfl rfl hl.1 rfl (Nat.le_of_ble_eq_true rfl) dX4_alter_16 ⟨Nat.le_of_ble_eq_true rfl, Nat.le_of_ble_eq_true rfl⟩ (fun r u H locs hu2 hP hD hS => ?_)
  refine k_t1 (show r = 0 from hu2) ?_
  refine lv_if_eq (tgt := 38) hx hb dX4_alter_19 (by decide) (fun c1 => ?_) (fun c1 => ?_)
  · skip
    refine lv_iconst (v := nI 0) hx hb dX4_alter_38 (by decide) ?_
    exact k_retz () hx hb hr hK hS hlk dX4_alter_39 ((by first | exact Or.inl rfl | exact Or.inr rfl)) hP hD (by exact rfl) hQ
  · skip
    exact absurd rfl c1

set_option maxHeartbeats 800000 in
set_option maxRecDepth 100000 in
theorem c_alter0_n2 (l : Launch) (D : va_G) (cI cZ cJ : ClassId) (vf : Nat) (di : Nat) (t0 : Nat) (st0 : Nat) (ct0 : Nat) (hd0 : Nat) (lv0 : Nat) (wd0 : Nat) (t1 : Nat) (st1 : Nat) (ct1 : Nat) (hd1 : Nat) (lv1 : Nat) (wd1 : Nat) (mp : Nat) (bk : Nat) (nm : Nat) (ln : Nat) (pt : Nat) (tk : Nat) (tr : Nat) (ml : Nat) (dl : Nat) (G : Int32) (ky0 : Int32) (S0 : Nat → Nat → Int32) (C0 : Nat → Int32) (O0 : Nat → Int32) (L0 : Nat → Int32) (W0 : Nat → Nat → Int32) (ky1 : Int32) (S1 : Nat → Nat → Int32) (C1 : Nat → Int32) (O1 : Nat → Int32) (L1 : Nat → Int32) (W1 : Nat → Nat → Int32) (MP : Nat → Nat) (NM : Nat → Int64) (TH : Nat → Int32) (SZ : Nat → Nat) (PT : Nat → Nat) (TK : Nat → Int32) (ML : Nat → Int32) (DL : Nat → Int32) (cn : Nat) (DE : Int32) (b : Nat) (i v : Int32) (hb0 : b < 7) (hi : noB 25 i = true) : KI l yX4_alter wsX4_alter ({ frames := 2, cells := 0, slots := 0, locals := 43 }) D (kty cI cZ cJ) [.ref vf, .int 0, .int (nI b), .int i, .int v] (wV cI cZ cJ vf di t0 st0 ct0 hd0 lv0 wd0 t1 st1 ct1 hd1 lv1 wd1 mp bk nm ln pt tk tr ml dl G ky0 S0 C0 O0 L0 W0 ky1 S1 C1 O1 L1 W1 MP NM TH SZ PT TK ML DL cn DE) (fun r (_ : Unit) => r = 0) (fun _ : Unit => (wV cI cZ cJ vf di t0 st0 ct0 hd0 lv0 wd0 t1 st1 ct1 hd1 lv1 wd1 mp bk nm ln pt tk tr ml dl G ky0 S0 C0 O0 L0 W0 ky1 S1 C1 O1 L1 W1 MP NM TH SZ PT TK ML DL cn DE)) 0 0 := by
  refine k_headI (cc := cX4_alter) (maxL := 6) (ret := (some .boolean)) (by decide) rfl (Nat.le_of_ble_eq_true rfl) ?_
  intro p e s m below meth c A ls args Q hx hb hr hml hts hown hlk hnm hA hK hP hD hS hl hQ
  have hl : lv_has ls 6 [(0, .ref vf), (1, .int 0), (2, .int (nI b)), (3, .int i), (4, .int v)] := hl
  refine lv_aload_n hx hb dX4_alter_0 rfl (lv_at hl 0 rfl) ?_
  refine lv_iload_n hx hb dX4_alter_1 rfl (lv_at hl 1 rfl) ?_
  refine k_vq (As := [.int 0]) (rest := []) (w2 := fun u : Unit => (wV cI cZ cJ vf di t0 st0 ct0 hd0 lv0 wd0 t1 st1 ct1 hd1 lv1 wd1 mp bk nm ln pt tk tr ml dl G ky0 S0 C0 O0 L0 W0 ky1 S1 C1 O1 L1 W1 MP NM TH SZ PT TK ML DL cn DE)) ⟨hx, hb, hml, hown, hts⟩ (c_tree0 l D cI cZ cJ vf di t0 st0 ct0 hd0 lv0 wd0 t1 st1 ct1 hd1 lv1 wd1 mp bk nm ln pt tk tr ml dl G ky0 S0 C0 O0 L0 W0 ky1 S1 C1 O1 L1 W1 MP NM TH SZ PT TK ML DL cn DE ) (cwV 1 hts gX4_alter_X4_treeNumbered rfl rfl rfl (by decide +kernel) ⟨Nat.le_of_ble_eq_true rfl, Nat.le_of_ble_eq_true rfl⟩) hP hD hK hS hA [0, 1, 2, 3, 4, 5, 6, 7, 8, 9, 10, 11, 12, 13, 14, 15, 16, 17, 18, 19, 20, 21, 22] [] [0, 1, 2, 3, 4, 5, 6, 7, 8, 9, 10, 11, 12, 13, 14, 15, 16, 17, 18, 19, 20, 21, 22] rfl rfl (by decide) (fun u => rfl) rfl rfl (q0 := 0) rfl rfl hl.1 rfl (Nat.le_of_ble_eq_true rfl) dX4_alter_2 ⟨Nat.le_of_ble_eq_true rfl, Nat.le_of_ble_eq_true rfl⟩ (fun r u H locs hu1 hP hD hS => ?_)
  refine k_tq (show r = some t0 from hu1) ?_
  refine W.eq (g2 := F0 m 5 ls [.ref t0]) rfl ?_
  refine lv_astore (lv' := [(5, .ref t0), (0, .ref vf), (1, .int 0), (2, .int (nI b)), (3, .int i), (4, .int v)]) hx hb dX4_alter_5 hl (by decide) rfl (fun ls hl => ?_)
  refine lv_aload hx hb dX4_alter_7 (lv_at hl 0 rfl) ?_
  refine lv_ifnull hx hb dX4_alter_9 ?_
  refine lv_aload hx hb dX4_alter_12 (lv_at hl 0 rfl) ?_
  refine lv_iload_n hx hb dX4_alter_14 rfl (lv_at hl 3 rfl) ?_
  refine lv_iload_n hx hb dX4_alter_15 rfl (lv_at hl 4 rfl) ?_
  refine k_vi (As := [.int (nI b), .int i]) (rest := []) (w2 := fun u : Unit => (wV cI cZ cJ vf di t0 st0 ct0 hd0 lv0 wd0 t1 st1 ct1 hd1 lv1 wd1 mp bk nm ln pt tk tr ml dl G ky0 S0 C0 O0 L0 W0 ky1 S1 C1 O1 L1 W1 MP NM TH SZ PT TK ML DL cn DE)) ⟨hx, hb, hml, hown, hts⟩ (c_hasStored_n2 l D cI cZ cJ t0 st0 ct0 hd0 lv0 wd0 0 4 3 7 8 ky0 S0 C0 O0 L0 W0 b i tp0 hb0 hi) (cwV 2 hts gX4_alter_X3_hasStored rfl rfl rfl (by decide +kernel) ⟨Nat.le_of_ble_eq_true rfl, Nat.le_of_ble_eq_true rfl⟩) hP hD hK hS hA [2, 3, 4, 5, 6, 7] [0, 1, 8, 9, 10, 11, 12, 13, 14, 15, 16, 17, 18, 19, 20, 21, 22] [0, 1, 17, 18, 19, 20, 21, 22, 2, 3, 4, 5, 6, 7, 8, 9, 10, 11, 12, 13, 14, 15, 16] rfl rfl (by decide) (fun u => rfl) rfl rfl (q0 := 0) rfl rfl hl.1 rfl (Nat.le_of_ble_eq_true rfl) dX4_alter_16 ⟨Nat.le_of_ble_eq_true rfl, Nat.le_of_ble_eq_true rfl⟩ (fun r u H locs hu2 hP hD hS => ?_)
  refine k_t1 (show r = 0 from hu2) ?_
  refine lv_if_eq (tgt := 38) hx hb dX4_alter_19 (by decide) (fun c1 => ?_) (fun c1 => ?_)
  · skip
    refine lv_iconst (v := nI 0) hx hb dX4_alter_38 (by decide) ?_
    exact k_retz () hx hb hr hK hS hlk dX4_alter_39 ((by first | exact Or.inl rfl | exact Or.inr rfl)) hP hD (by exact rfl) hQ
  · skip
    exact absurd rfl c1

set_option maxHeartbeats 800000 in
set_option maxRecDepth 100000 in
theorem c_alter1_y (l : Launch) (D : va_G) (cI cZ cJ : ClassId) (vf : Nat) (di : Nat) (t0 : Nat) (st0 : Nat) (ct0 : Nat) (hd0 : Nat) (lv0 : Nat) (wd0 : Nat) (t1 : Nat) (st1 : Nat) (ct1 : Nat) (hd1 : Nat) (lv1 : Nat) (wd1 : Nat) (mp : Nat) (bk : Nat) (nm : Nat) (ln : Nat) (pt : Nat) (tk : Nat) (tr : Nat) (ml : Nat) (dl : Nat) (G : Int32) (ky0 : Int32) (S0 : Nat → Nat → Int32) (C0 : Nat → Int32) (O0 : Nat → Int32) (L0 : Nat → Int32) (W0 : Nat → Nat → Int32) (ky1 : Int32) (S1 : Nat → Nat → Int32) (C1 : Nat → Int32) (O1 : Nat → Int32) (L1 : Nat → Int32) (W1 : Nat → Nat → Int32) (MP : Nat → Nat) (NM : Nat → Int64) (TH : Nat → Int32) (SZ : Nat → Nat) (PT : Nat → Nat) (TK : Nat → Int32) (ML : Nat → Int32) (DL : Nat → Int32) (cn : Nat) (DE : Int32) (b i : Nat) (v : Int32) (hb0 : b < 63) (hi : i < 25) (hw : ¬ wholeB ky1 1 C1 (setRow S1 b (upd (S1 b) i v)) b) : KI l yX4_alter wsX4_alter ({ frames := 4, cells := 0, slots := 0, locals := 94 }) D (kty cI cZ cJ) [.ref vf, .int 1, .int (nI b), .int (nI i), .int v] (wV cI cZ cJ vf di t0 st0 ct0 hd0 lv0 wd0 t1 st1 ct1 hd1 lv1 wd1 mp bk nm ln pt tk tr ml dl G ky0 S0 C0 O0 L0 W0 ky1 S1 C1 O1 L1 W1 MP NM TH SZ PT TK ML DL cn DE) (fun r (_ : Unit) => r = 1) (fun _ : Unit => (wV cI cZ cJ vf di t0 st0 ct0 hd0 lv0 wd0 t1 st1 ct1 hd1 lv1 wd1 mp bk nm ln pt tk tr ml dl G ky0 S0 C0 O0 L0 W0 ky1 (setRow S1 b (upd (S1 b) i v)) C1 O1 L1 W1 MP NM TH SZ PT TK ML DL cn DE)) 0 0 := by
  refine k_headI (cc := cX4_alter) (maxL := 6) (ret := (some .boolean)) (by decide) rfl (Nat.le_of_ble_eq_true rfl) ?_
  intro p e s m below meth c A ls args Q hx hb hr hml hts hown hlk hnm hA hK hP hD hS hl hQ
  have hl : lv_has ls 6 [(0, .ref vf), (1, .int 1), (2, .int (nI b)), (3, .int (nI i)), (4, .int v)] := hl
  refine lv_aload_n hx hb dX4_alter_0 rfl (lv_at hl 0 rfl) ?_
  refine lv_iload_n hx hb dX4_alter_1 rfl (lv_at hl 1 rfl) ?_
  refine k_vq (As := [.int 1]) (rest := []) (w2 := fun u : Unit => (wV cI cZ cJ vf di t0 st0 ct0 hd0 lv0 wd0 t1 st1 ct1 hd1 lv1 wd1 mp bk nm ln pt tk tr ml dl G ky0 S0 C0 O0 L0 W0 ky1 S1 C1 O1 L1 W1 MP NM TH SZ PT TK ML DL cn DE)) ⟨hx, hb, hml, hown, hts⟩ (c_tree1 l D cI cZ cJ vf di t0 st0 ct0 hd0 lv0 wd0 t1 st1 ct1 hd1 lv1 wd1 mp bk nm ln pt tk tr ml dl G ky0 S0 C0 O0 L0 W0 ky1 S1 C1 O1 L1 W1 MP NM TH SZ PT TK ML DL cn DE ) (cwV 1 hts gX4_alter_X4_treeNumbered rfl rfl rfl (by decide +kernel) ⟨Nat.le_of_ble_eq_true rfl, Nat.le_of_ble_eq_true rfl⟩) hP hD hK hS hA [0, 1, 2, 3, 4, 5, 6, 7, 8, 9, 10, 11, 12, 13, 14, 15, 16, 17, 18, 19, 20, 21, 22] [] [0, 1, 2, 3, 4, 5, 6, 7, 8, 9, 10, 11, 12, 13, 14, 15, 16, 17, 18, 19, 20, 21, 22] rfl rfl (by decide) (fun u => rfl) rfl rfl (q0 := 0) rfl rfl hl.1 rfl (Nat.le_of_ble_eq_true rfl) dX4_alter_2 ⟨Nat.le_of_ble_eq_true rfl, Nat.le_of_ble_eq_true rfl⟩ (fun r u H locs hu1 hP hD hS => ?_)
  refine k_tq (show r = some t1 from hu1) ?_
  refine W.eq (g2 := F0 m 5 ls [.ref t1]) rfl ?_
  refine lv_astore (lv' := [(5, .ref t1), (0, .ref vf), (1, .int 1), (2, .int (nI b)), (3, .int (nI i)), (4, .int v)]) hx hb dX4_alter_5 hl (by decide) rfl (fun ls hl => ?_)
  refine lv_aload hx hb dX4_alter_7 (lv_at hl 0 rfl) ?_
  refine lv_ifnull hx hb dX4_alter_9 ?_
  refine lv_aload hx hb dX4_alter_12 (lv_at hl 0 rfl) ?_
  refine lv_iload_n hx hb dX4_alter_14 rfl (lv_at hl 3 rfl) ?_
  refine lv_iload_n hx hb dX4_alter_15 rfl (lv_at hl 4 rfl) ?_
  refine k_vi (As := [.int (nI b), .int (nI i)]) (rest := []) (w2 := fun u : Unit => (wV cI cZ cJ vf di t0 st0 ct0 hd0 lv0 wd0 t1 st1 ct1 hd1 lv1 wd1 mp bk nm ln pt tk tr ml dl G ky0 S0 C0 O0 L0 W0 ky1 S1 C1 O1 L1 W1 MP NM TH SZ PT TK ML DL cn DE)) ⟨hx, hb, hml, hown, hts⟩ (c_hasStored_y l D cI cZ cJ t1 st1 ct1 hd1 lv1 wd1 1 32 6 63 64 ky1 S1 C1 O1 L1 W1 b i tp1 hb0 hi) (cwV 2 hts gX4_alter_X3_hasStored rfl rfl rfl (by decide +kernel) ⟨Nat.le_of_ble_eq_true rfl, Nat.le_of_ble_eq_true rfl⟩) hP hD hK hS hA [8, 9, 10, 11, 12, 13] [0, 1, 2, 3, 4, 5, 6, 7, 14, 15, 16, 17, 18, 19, 20, 21, 22] [0, 1, 2, 3, 4, 5, 6, 7, 17, 18, 19, 20, 21, 22, 8, 9, 10, 11, 12, 13, 14, 15, 16] rfl rfl (by decide) (fun u => rfl) rfl rfl (q0 := 0) rfl rfl hl.1 rfl (Nat.le_of_ble_eq_true rfl) dX4_alter_16 ⟨Nat.le_of_ble_eq_true rfl, Nat.le_of_ble_eq_true rfl⟩ (fun r u H locs hu2 hP hD hS => ?_)
  refine k_t1 (show r = 1 from hu2) ?_
  refine lv_if_eq (tgt := 38) hx hb dX4_alter_19 (by decide) (fun c1 => ?_) (fun c1 => ?_)
  · skip
    exact absurd c1 (by decide)
  · skip
    refine lv_aload hx hb dX4_alter_22 (lv_at hl 0 rfl) ?_
    refine lv_iload_n hx hb dX4_alter_24 rfl (lv_at hl 3 rfl) ?_
    refine lv_iload_n hx hb dX4_alter_25 rfl (lv_at hl 4 rfl) ?_
    refine lv_iload hx hb dX4_alter_26 (lv_at hl 5 rfl) ?_
    refine k_vi (As := [.int (nI b), .int (nI i), .int v]) (rest := []) (w2 := fun u : Unit => (wV cI cZ cJ vf di t0 st0 ct0 hd0 lv0 wd0 t1 st1 ct1 hd1 lv1 wd1 mp bk nm ln pt tk tr ml dl G ky0 S0 C0 O0 L0 W0 ky1 (setRow S1 b (upd (S1 b) i v)) C1 O1 L1 W1 MP NM TH SZ PT TK ML DL cn DE)) ⟨hx, hb, hml, hown, hts⟩ (c_spoil_y l D cI cZ cJ t1 st1 ct1 hd1 lv1 wd1 1 32 6 63 64 ky1 S1 C1 O1 L1 W1 b i v tp1 hb0 hi hw) (cwV 3 hts gX4_alter_X3_spoil rfl rfl rfl (by decide +kernel) ⟨Nat.le_of_ble_eq_true rfl, Nat.le_of_ble_eq_true rfl⟩) hP hD hK hS hA [8, 9, 10, 11, 12, 13] [0, 1, 2, 3, 4, 5, 6, 7, 14, 15, 16, 17, 18, 19, 20, 21, 22] [0, 1, 2, 3, 4, 5, 6, 7, 17, 18, 19, 20, 21, 22, 8, 9, 10, 11, 12, 13, 14, 15, 16] rfl rfl (by decide) (fun u => rfl) rfl rfl (q0 := 0) rfl rfl hl.1 rfl (Nat.le_of_ble_eq_true rfl) dX4_alter_28 ⟨Nat.le_of_ble_eq_true rfl, Nat.le_of_ble_eq_true rfl⟩ (fun r u H locs hu3 hP hD hS => ?_)
    refine k_t1 (show r = 1 from hu3) ?_
    refine lv_if_eq (tgt := 38) hx hb dX4_alter_31 (by decide) (fun c2 => ?_) (fun c2 => ?_)
    · skip
      exact absurd c2 (by decide)
    · skip
      refine lv_iconst (v := nI 1) hx hb dX4_alter_34 (by decide) ?_
      refine lv_goto (tgt := 39) hx hb dX4_alter_35 (by decide) ?_
      exact k_retz () hx hb hr hK hS hlk dX4_alter_39 ((by first | exact Or.inl rfl | exact Or.inr rfl)) hP hD (by exact rfl) hQ

set_option maxHeartbeats 800000 in
set_option maxRecDepth 100000 in
theorem c_alter1_w (l : Launch) (D : va_G) (cI cZ cJ : ClassId) (vf : Nat) (di : Nat) (t0 : Nat) (st0 : Nat) (ct0 : Nat) (hd0 : Nat) (lv0 : Nat) (wd0 : Nat) (t1 : Nat) (st1 : Nat) (ct1 : Nat) (hd1 : Nat) (lv1 : Nat) (wd1 : Nat) (mp : Nat) (bk : Nat) (nm : Nat) (ln : Nat) (pt : Nat) (tk : Nat) (tr : Nat) (ml : Nat) (dl : Nat) (G : Int32) (ky0 : Int32) (S0 : Nat → Nat → Int32) (C0 : Nat → Int32) (O0 : Nat → Int32) (L0 : Nat → Int32) (W0 : Nat → Nat → Int32) (ky1 : Int32) (S1 : Nat → Nat → Int32) (C1 : Nat → Int32) (O1 : Nat → Int32) (L1 : Nat → Int32) (W1 : Nat → Nat → Int32) (MP : Nat → Nat) (NM : Nat → Int64) (TH : Nat → Int32) (SZ : Nat → Nat) (PT : Nat → Nat) (TK : Nat → Int32) (ML : Nat → Int32) (DL : Nat → Int32) (cn : Nat) (DE : Int32) (b i : Nat) (v : Int32) (hb0 : b < 63) (hi : i < 25) (hw : wholeB ky1 1 C1 (setRow S1 b (upd (S1 b) i v)) b) : KI l yX4_alter wsX4_alter ({ frames := 4, cells := 0, slots := 0, locals := 94 }) D (kty cI cZ cJ) [.ref vf, .int 1, .int (nI b), .int (nI i), .int v] (wV cI cZ cJ vf di t0 st0 ct0 hd0 lv0 wd0 t1 st1 ct1 hd1 lv1 wd1 mp bk nm ln pt tk tr ml dl G ky0 S0 C0 O0 L0 W0 ky1 S1 C1 O1 L1 W1 MP NM TH SZ PT TK ML DL cn DE) (fun r (_ : Unit) => r = 0) (fun _ : Unit => (wV cI cZ cJ vf di t0 st0 ct0 hd0 lv0 wd0 t1 st1 ct1 hd1 lv1 wd1 mp bk nm ln pt tk tr ml dl G ky0 S0 C0 O0 L0 W0 ky1 S1 C1 O1 L1 W1 MP NM TH SZ PT TK ML DL cn DE)) 0 0 := by
  refine k_headI (cc := cX4_alter) (maxL := 6) (ret := (some .boolean)) (by decide) rfl (Nat.le_of_ble_eq_true rfl) ?_
  intro p e s m below meth c A ls args Q hx hb hr hml hts hown hlk hnm hA hK hP hD hS hl hQ
  have hl : lv_has ls 6 [(0, .ref vf), (1, .int 1), (2, .int (nI b)), (3, .int (nI i)), (4, .int v)] := hl
  refine lv_aload_n hx hb dX4_alter_0 rfl (lv_at hl 0 rfl) ?_
  refine lv_iload_n hx hb dX4_alter_1 rfl (lv_at hl 1 rfl) ?_
  refine k_vq (As := [.int 1]) (rest := []) (w2 := fun u : Unit => (wV cI cZ cJ vf di t0 st0 ct0 hd0 lv0 wd0 t1 st1 ct1 hd1 lv1 wd1 mp bk nm ln pt tk tr ml dl G ky0 S0 C0 O0 L0 W0 ky1 S1 C1 O1 L1 W1 MP NM TH SZ PT TK ML DL cn DE)) ⟨hx, hb, hml, hown, hts⟩ (c_tree1 l D cI cZ cJ vf di t0 st0 ct0 hd0 lv0 wd0 t1 st1 ct1 hd1 lv1 wd1 mp bk nm ln pt tk tr ml dl G ky0 S0 C0 O0 L0 W0 ky1 S1 C1 O1 L1 W1 MP NM TH SZ PT TK ML DL cn DE ) (cwV 1 hts gX4_alter_X4_treeNumbered rfl rfl rfl (by decide +kernel) ⟨Nat.le_of_ble_eq_true rfl, Nat.le_of_ble_eq_true rfl⟩) hP hD hK hS hA [0, 1, 2, 3, 4, 5, 6, 7, 8, 9, 10, 11, 12, 13, 14, 15, 16, 17, 18, 19, 20, 21, 22] [] [0, 1, 2, 3, 4, 5, 6, 7, 8, 9, 10, 11, 12, 13, 14, 15, 16, 17, 18, 19, 20, 21, 22] rfl rfl (by decide) (fun u => rfl) rfl rfl (q0 := 0) rfl rfl hl.1 rfl (Nat.le_of_ble_eq_true rfl) dX4_alter_2 ⟨Nat.le_of_ble_eq_true rfl, Nat.le_of_ble_eq_true rfl⟩ (fun r u H locs hu1 hP hD hS => ?_)
  refine k_tq (show r = some t1 from hu1) ?_
  refine W.eq (g2 := F0 m 5 ls [.ref t1]) rfl ?_
  refine lv_astore (lv' := [(5, .ref t1), (0, .ref vf), (1, .int 1), (2, .int (nI b)), (3, .int (nI i)), (4, .int v)]) hx hb dX4_alter_5 hl (by decide) rfl (fun ls hl => ?_)
  refine lv_aload hx hb dX4_alter_7 (lv_at hl 0 rfl) ?_
  refine lv_ifnull hx hb dX4_alter_9 ?_
  refine lv_aload hx hb dX4_alter_12 (lv_at hl 0 rfl) ?_
  refine lv_iload_n hx hb dX4_alter_14 rfl (lv_at hl 3 rfl) ?_
  refine lv_iload_n hx hb dX4_alter_15 rfl (lv_at hl 4 rfl) ?_
  refine k_vi (As := [.int (nI b), .int (nI i)]) (rest := []) (w2 := fun u : Unit => (wV cI cZ cJ vf di t0 st0 ct0 hd0 lv0 wd0 t1 st1 ct1 hd1 lv1 wd1 mp bk nm ln pt tk tr ml dl G ky0 S0 C0 O0 L0 W0 ky1 S1 C1 O1 L1 W1 MP NM TH SZ PT TK ML DL cn DE)) ⟨hx, hb, hml, hown, hts⟩ (c_hasStored_y l D cI cZ cJ t1 st1 ct1 hd1 lv1 wd1 1 32 6 63 64 ky1 S1 C1 O1 L1 W1 b i tp1 hb0 hi) (cwV 2 hts gX4_alter_X3_hasStored rfl rfl rfl (by decide +kernel) ⟨Nat.le_of_ble_eq_true rfl, Nat.le_of_ble_eq_true rfl⟩) hP hD hK hS hA [8, 9, 10, 11, 12, 13] [0, 1, 2, 3, 4, 5, 6, 7, 14, 15, 16, 17, 18, 19, 20, 21, 22] [0, 1, 2, 3, 4, 5, 6, 7, 17, 18, 19, 20, 21, 22, 8, 9, 10, 11, 12, 13, 14, 15, 16] rfl rfl (by decide) (fun u => rfl) rfl rfl (q0 := 0) rfl rfl hl.1 rfl (Nat.le_of_ble_eq_true rfl) dX4_alter_16 ⟨Nat.le_of_ble_eq_true rfl, Nat.le_of_ble_eq_true rfl⟩ (fun r u H locs hu2 hP hD hS => ?_)
  refine k_t1 (show r = 1 from hu2) ?_
  refine lv_if_eq (tgt := 38) hx hb dX4_alter_19 (by decide) (fun c1 => ?_) (fun c1 => ?_)
  · skip
    exact absurd c1 (by decide)
  · skip
    refine lv_aload hx hb dX4_alter_22 (lv_at hl 0 rfl) ?_
    refine lv_iload_n hx hb dX4_alter_24 rfl (lv_at hl 3 rfl) ?_
    refine lv_iload_n hx hb dX4_alter_25 rfl (lv_at hl 4 rfl) ?_
    refine lv_iload hx hb dX4_alter_26 (lv_at hl 5 rfl) ?_
    refine k_vi (As := [.int (nI b), .int (nI i), .int v]) (rest := []) (w2 := fun u : Unit => (wV cI cZ cJ vf di t0 st0 ct0 hd0 lv0 wd0 t1 st1 ct1 hd1 lv1 wd1 mp bk nm ln pt tk tr ml dl G ky0 S0 C0 O0 L0 W0 ky1 S1 C1 O1 L1 W1 MP NM TH SZ PT TK ML DL cn DE)) ⟨hx, hb, hml, hown, hts⟩ (c_spoil_n l D cI cZ cJ t1 st1 ct1 hd1 lv1 wd1 1 32 6 63 64 ky1 S1 C1 O1 L1 W1 b i v tp1 hb0 hi hw) (cwV 3 hts gX4_alter_X3_spoil rfl rfl rfl (by decide +kernel) ⟨Nat.le_of_ble_eq_true rfl, Nat.le_of_ble_eq_true rfl⟩) hP hD hK hS hA [8, 9, 10, 11, 12, 13] [0, 1, 2, 3, 4, 5, 6, 7, 14, 15, 16, 17, 18, 19, 20, 21, 22] [0, 1, 2, 3, 4, 5, 6, 7, 17, 18, 19, 20, 21, 22, 8, 9, 10, 11, 12, 13, 14, 15, 16] rfl rfl (by decide) (fun u => rfl) rfl rfl (q0 := 0) rfl rfl hl.1 rfl (Nat.le_of_ble_eq_true rfl) dX4_alter_28 ⟨Nat.le_of_ble_eq_true rfl, Nat.le_of_ble_eq_true rfl⟩ (fun r u H locs hu3 hP hD hS => ?_)
    refine k_t1 (show r = 0 from hu3) ?_
    refine lv_if_eq (tgt := 38) hx hb dX4_alter_31 (by decide) (fun c2 => ?_) (fun c2 => ?_)
    · skip
      refine lv_iconst (v := nI 0) hx hb dX4_alter_38 (by decide) ?_
      exact k_retz () hx hb hr hK hS hlk dX4_alter_39 ((by first | exact Or.inl rfl | exact Or.inr rfl)) hP hD (by exact rfl) hQ
    · skip
      exact absurd rfl c2

set_option maxHeartbeats 800000 in
set_option maxRecDepth 100000 in
theorem c_alter1_n1 (l : Launch) (D : va_G) (cI cZ cJ : ClassId) (vf : Nat) (di : Nat) (t0 : Nat) (st0 : Nat) (ct0 : Nat) (hd0 : Nat) (lv0 : Nat) (wd0 : Nat) (t1 : Nat) (st1 : Nat) (ct1 : Nat) (hd1 : Nat) (lv1 : Nat) (wd1 : Nat) (mp : Nat) (bk : Nat) (nm : Nat) (ln : Nat) (pt : Nat) (tk : Nat) (tr : Nat) (ml : Nat) (dl : Nat) (G : Int32) (ky0 : Int32) (S0 : Nat → Nat → Int32) (C0 : Nat → Int32) (O0 : Nat → Int32) (L0 : Nat → Int32) (W0 : Nat → Nat → Int32) (ky1 : Int32) (S1 : Nat → Nat → Int32) (C1 : Nat → Int32) (O1 : Nat → Int32) (L1 : Nat → Int32) (W1 : Nat → Nat → Int32) (MP : Nat → Nat) (NM : Nat → Int64) (TH : Nat → Int32) (SZ : Nat → Nat) (PT : Nat → Nat) (TK : Nat → Int32) (ML : Nat → Int32) (DL : Nat → Int32) (cn : Nat) (DE : Int32) (y i v : Int32) (hy : noB 63 y = true) : KI l yX4_alter wsX4_alter ({ frames := 2, cells := 0, slots := 0, locals := 43 }) D (kty cI cZ cJ) [.ref vf, .int 1, .int y, .int i, .int v] (wV cI cZ cJ vf di t0 st0 ct0 hd0 lv0 wd0 t1 st1 ct1 hd1 lv1 wd1 mp bk nm ln pt tk tr ml dl G ky0 S0 C0 O0 L0 W0 ky1 S1 C1 O1 L1 W1 MP NM TH SZ PT TK ML DL cn DE) (fun r (_ : Unit) => r = 0) (fun _ : Unit => (wV cI cZ cJ vf di t0 st0 ct0 hd0 lv0 wd0 t1 st1 ct1 hd1 lv1 wd1 mp bk nm ln pt tk tr ml dl G ky0 S0 C0 O0 L0 W0 ky1 S1 C1 O1 L1 W1 MP NM TH SZ PT TK ML DL cn DE)) 0 0 := by
  refine k_headI (cc := cX4_alter) (maxL := 6) (ret := (some .boolean)) (by decide) rfl (Nat.le_of_ble_eq_true rfl) ?_
  intro p e s m below meth c A ls args Q hx hb hr hml hts hown hlk hnm hA hK hP hD hS hl hQ
  have hl : lv_has ls 6 [(0, .ref vf), (1, .int 1), (2, .int y), (3, .int i), (4, .int v)] := hl
  refine lv_aload_n hx hb dX4_alter_0 rfl (lv_at hl 0 rfl) ?_
  refine lv_iload_n hx hb dX4_alter_1 rfl (lv_at hl 1 rfl) ?_
  refine k_vq (As := [.int 1]) (rest := []) (w2 := fun u : Unit => (wV cI cZ cJ vf di t0 st0 ct0 hd0 lv0 wd0 t1 st1 ct1 hd1 lv1 wd1 mp bk nm ln pt tk tr ml dl G ky0 S0 C0 O0 L0 W0 ky1 S1 C1 O1 L1 W1 MP NM TH SZ PT TK ML DL cn DE)) ⟨hx, hb, hml, hown, hts⟩ (c_tree1 l D cI cZ cJ vf di t0 st0 ct0 hd0 lv0 wd0 t1 st1 ct1 hd1 lv1 wd1 mp bk nm ln pt tk tr ml dl G ky0 S0 C0 O0 L0 W0 ky1 S1 C1 O1 L1 W1 MP NM TH SZ PT TK ML DL cn DE ) (cwV 1 hts gX4_alter_X4_treeNumbered rfl rfl rfl (by decide +kernel) ⟨Nat.le_of_ble_eq_true rfl, Nat.le_of_ble_eq_true rfl⟩) hP hD hK hS hA [0, 1, 2, 3, 4, 5, 6, 7, 8, 9, 10, 11, 12, 13, 14, 15, 16, 17, 18, 19, 20, 21, 22] [] [0, 1, 2, 3, 4, 5, 6, 7, 8, 9, 10, 11, 12, 13, 14, 15, 16, 17, 18, 19, 20, 21, 22] rfl rfl (by decide) (fun u => rfl) rfl rfl (q0 := 0) rfl rfl hl.1 rfl (Nat.le_of_ble_eq_true rfl) dX4_alter_2 ⟨Nat.le_of_ble_eq_true rfl, Nat.le_of_ble_eq_true rfl⟩ (fun r u H locs hu1 hP hD hS => ?_)
  refine k_tq (show r = some t1 from hu1) ?_
  refine W.eq (g2 := F0 m 5 ls [.ref t1]) rfl ?_
  refine lv_astore (lv' := [(5, .ref t1), (0, .ref vf), (1, .int 1), (2, .int y), (3, .int i), (4, .int v)]) hx hb dX4_alter_5 hl (by decide) rfl (fun ls hl => ?_)
  refine lv_aload hx hb dX4_alter_7 (lv_at hl 0 rfl) ?_
  refine lv_ifnull hx hb dX4_alter_9 ?_
  refine lv_aload hx hb dX4_alter_12 (lv_at hl 0 rfl) ?_
  refine lv_iload_n hx hb dX4_alter_14 rfl (lv_at hl 3 rfl) ?_
  refine lv_iload_n hx hb dX4_alter_15 rfl (lv_at hl 4 rfl) ?_
  refine k_vi (As := [.int y, .int i]) (rest := []) (w2 := fun u : Unit => (wV cI cZ cJ vf di t0 st0 ct0 hd0 lv0 wd0 t1 st1 ct1 hd1 lv1 wd1 mp bk nm ln pt tk tr ml dl G ky0 S0 C0 O0 L0 W0 ky1 S1 C1 O1 L1 W1 MP NM TH SZ PT TK ML DL cn DE)) ⟨hx, hb, hml, hown, hts⟩ (c_hasStored_n1 l D cI cZ cJ t1 st1 ct1 hd1 lv1 wd1 1 32 6 63 64 ky1 S1 C1 O1 L1 W1 y i tp1 hy) (cwV 2 hts gX4_alter_X3_hasStored rfl rfl rfl (by decide +kernel) ⟨Nat.le_of_ble_eq_true rfl, Nat.le_of_ble_eq_true rfl⟩) hP hD hK hS hA [8, 9, 10, 11, 12, 13] [0, 1, 2, 3, 4, 5, 6, 7, 14, 15, 16, 17, 18, 19, 20, 21, 22] [0, 1, 2, 3, 4, 5, 6, 7, 17, 18, 19, 20, 21, 22, 8, 9, 10, 11, 12, 13, 14, 15, 16] rfl rfl (by decide) (fun u => rfl) rfl rfl (q0 := 0) rfl rfl hl.1 rfl (Nat.le_of_ble_eq_true rfl) dX4_alter_16 ⟨Nat.le_of_ble_eq_true rfl, Nat.le_of_ble_eq_true rfl⟩ (fun r u H locs hu2 hP hD hS => ?_)
  refine k_t1 (show r = 0 from hu2) ?_
  refine lv_if_eq (tgt := 38) hx hb dX4_alter_19 (by decide) (fun c1 => ?_) (fun c1 => ?_)
  · skip
    refine lv_iconst (v := nI 0) hx hb dX4_alter_38 (by decide) ?_
    exact k_retz () hx hb hr hK hS hlk dX4_alter_39 ((by first | exact Or.inl rfl | exact Or.inr rfl)) hP hD (by exact rfl) hQ
  · skip
    exact absurd rfl c1

set_option maxHeartbeats 800000 in
set_option maxRecDepth 100000 in
theorem c_alter1_n2 (l : Launch) (D : va_G) (cI cZ cJ : ClassId) (vf : Nat) (di : Nat) (t0 : Nat) (st0 : Nat) (ct0 : Nat) (hd0 : Nat) (lv0 : Nat) (wd0 : Nat) (t1 : Nat) (st1 : Nat) (ct1 : Nat) (hd1 : Nat) (lv1 : Nat) (wd1 : Nat) (mp : Nat) (bk : Nat) (nm : Nat) (ln : Nat) (pt : Nat) (tk : Nat) (tr : Nat) (ml : Nat) (dl : Nat) (G : Int32) (ky0 : Int32) (S0 : Nat → Nat → Int32) (C0 : Nat → Int32) (O0 : Nat → Int32) (L0 : Nat → Int32) (W0 : Nat → Nat → Int32) (ky1 : Int32) (S1 : Nat → Nat → Int32) (C1 : Nat → Int32) (O1 : Nat → Int32) (L1 : Nat → Int32) (W1 : Nat → Nat → Int32) (MP : Nat → Nat) (NM : Nat → Int64) (TH : Nat → Int32) (SZ : Nat → Nat) (PT : Nat → Nat) (TK : Nat → Int32) (ML : Nat → Int32) (DL : Nat → Int32) (cn : Nat) (DE : Int32) (b : Nat) (i v : Int32) (hb0 : b < 63) (hi : noB 25 i = true) : KI l yX4_alter wsX4_alter ({ frames := 2, cells := 0, slots := 0, locals := 43 }) D (kty cI cZ cJ) [.ref vf, .int 1, .int (nI b), .int i, .int v] (wV cI cZ cJ vf di t0 st0 ct0 hd0 lv0 wd0 t1 st1 ct1 hd1 lv1 wd1 mp bk nm ln pt tk tr ml dl G ky0 S0 C0 O0 L0 W0 ky1 S1 C1 O1 L1 W1 MP NM TH SZ PT TK ML DL cn DE) (fun r (_ : Unit) => r = 0) (fun _ : Unit => (wV cI cZ cJ vf di t0 st0 ct0 hd0 lv0 wd0 t1 st1 ct1 hd1 lv1 wd1 mp bk nm ln pt tk tr ml dl G ky0 S0 C0 O0 L0 W0 ky1 S1 C1 O1 L1 W1 MP NM TH SZ PT TK ML DL cn DE)) 0 0 := by
  refine k_headI (cc := cX4_alter) (maxL := 6) (ret := (some .boolean)) (by decide) rfl (Nat.le_of_ble_eq_true rfl) ?_
  intro p e s m below meth c A ls args Q hx hb hr hml hts hown hlk hnm hA hK hP hD hS hl hQ
  have hl : lv_has ls 6 [(0, .ref vf), (1, .int 1), (2, .int (nI b)), (3, .int i), (4, .int v)] := hl
  refine lv_aload_n hx hb dX4_alter_0 rfl (lv_at hl 0 rfl) ?_
  refine lv_iload_n hx hb dX4_alter_1 rfl (lv_at hl 1 rfl) ?_
  refine k_vq (As := [.int 1]) (rest := []) (w2 := fun u : Unit => (wV cI cZ cJ vf di t0 st0 ct0 hd0 lv0 wd0 t1 st1 ct1 hd1 lv1 wd1 mp bk nm ln pt tk tr ml dl G ky0 S0 C0 O0 L0 W0 ky1 S1 C1 O1 L1 W1 MP NM TH SZ PT TK ML DL cn DE)) ⟨hx, hb, hml, hown, hts⟩ (c_tree1 l D cI cZ cJ vf di t0 st0 ct0 hd0 lv0 wd0 t1 st1 ct1 hd1 lv1 wd1 mp bk nm ln pt tk tr ml dl G ky0 S0 C0 O0 L0 W0 ky1 S1 C1 O1 L1 W1 MP NM TH SZ PT TK ML DL cn DE ) (cwV 1 hts gX4_alter_X4_treeNumbered rfl rfl rfl (by decide +kernel) ⟨Nat.le_of_ble_eq_true rfl, Nat.le_of_ble_eq_true rfl⟩) hP hD hK hS hA [0, 1, 2, 3, 4, 5, 6, 7, 8, 9, 10, 11, 12, 13, 14, 15, 16, 17, 18, 19, 20, 21, 22] [] [0, 1, 2, 3, 4, 5, 6, 7, 8, 9, 10, 11, 12, 13, 14, 15, 16, 17, 18, 19, 20, 21, 22] rfl rfl (by decide) (fun u => rfl) rfl rfl (q0 := 0) rfl rfl hl.1 rfl (Nat.le_of_ble_eq_true rfl) dX4_alter_2 ⟨Nat.le_of_ble_eq_true rfl, Nat.le_of_ble_eq_true rfl⟩ (fun r u H locs hu1 hP hD hS => ?_)
  refine k_tq (show r = some t1 from hu1) ?_
  refine W.eq (g2 := F0 m 5 ls [.ref t1]) rfl ?_
  refine lv_astore (lv' := [(5, .ref t1), (0, .ref vf), (1, .int 1), (2, .int (nI b)), (3, .int i), (4, .int v)]) hx hb dX4_alter_5 hl (by decide) rfl (fun ls hl => ?_)
  refine lv_aload hx hb dX4_alter_7 (lv_at hl 0 rfl) ?_
  refine lv_ifnull hx hb dX4_alter_9 ?_
  refine lv_aload hx hb dX4_alter_12 (lv_at hl 0 rfl) ?_
  refine lv_iload_n hx hb dX4_alter_14 rfl (lv_at hl 3 rfl) ?_
  refine lv_iload_n hx hb dX4_alter_15 rfl (lv_at hl 4 rfl) ?_
  refine k_vi (As := [.int (nI b), .int i]) (rest := []) (w2 := fun u : Unit => (wV cI cZ cJ vf di t0 st0 ct0 hd0 lv0 wd0 t1 st1 ct1 hd1 lv1 wd1 mp bk nm ln pt tk tr ml dl G ky0 S0 C0 O0 L0 W0 ky1 S1 C1 O1 L1 W1 MP NM TH SZ PT TK ML DL cn DE)) ⟨hx, hb, hml, hown, hts⟩ (c_hasStored_n2 l D cI cZ cJ t1 st1 ct1 hd1 lv1 wd1 1 32 6 63 64 ky1 S1 C1 O1 L1 W1 b i tp1 hb0 hi) (cwV 2 hts gX4_alter_X3_hasStored rfl rfl rfl (by decide +kernel) ⟨Nat.le_of_ble_eq_true rfl, Nat.le_of_ble_eq_true rfl⟩) hP hD hK hS hA [8, 9, 10, 11, 12, 13] [0, 1, 2, 3, 4, 5, 6, 7, 14, 15, 16, 17, 18, 19, 20, 21, 22] [0, 1, 2, 3, 4, 5, 6, 7, 17, 18, 19, 20, 21, 22, 8, 9, 10, 11, 12, 13, 14, 15, 16] rfl rfl (by decide) (fun u => rfl) rfl rfl (q0 := 0) rfl rfl hl.1 rfl (Nat.le_of_ble_eq_true rfl) dX4_alter_16 ⟨Nat.le_of_ble_eq_true rfl, Nat.le_of_ble_eq_true rfl⟩ (fun r u H locs hu2 hP hD hS => ?_)
  refine k_t1 (show r = 0 from hu2) ?_
  refine lv_if_eq (tgt := 38) hx hb dX4_alter_19 (by decide) (fun c1 => ?_) (fun c1 => ?_)
  · skip
    refine lv_iconst (v := nI 0) hx hb dX4_alter_38 (by decide) ?_
    exact k_retz () hx hb hr hK hS hlk dX4_alter_39 ((by first | exact Or.inl rfl | exact Or.inr rfl)) hP hD (by exact rfl) hQ
  · skip
    exact absurd rfl c1

set_option maxHeartbeats 800000 in
set_option maxRecDepth 100000 in
theorem c_alterN (l : Launch) (D : va_G) (cI cZ cJ : ClassId) (vf : Nat) (di : Nat) (t0 : Nat) (st0 : Nat) (ct0 : Nat) (hd0 : Nat) (lv0 : Nat) (wd0 : Nat) (t1 : Nat) (st1 : Nat) (ct1 : Nat) (hd1 : Nat) (lv1 : Nat) (wd1 : Nat) (mp : Nat) (bk : Nat) (nm : Nat) (ln : Nat) (pt : Nat) (tk : Nat) (tr : Nat) (ml : Nat) (dl : Nat) (G : Int32) (ky0 : Int32) (S0 : Nat → Nat → Int32) (C0 : Nat → Int32) (O0 : Nat → Int32) (L0 : Nat → Int32) (W0 : Nat → Nat → Int32) (ky1 : Int32) (S1 : Nat → Nat → Int32) (C1 : Nat → Int32) (O1 : Nat → Int32) (L1 : Nat → Int32) (W1 : Nat → Nat → Int32) (MP : Nat → Nat) (NM : Nat → Int64) (TH : Nat → Int32) (SZ : Nat → Nat) (PT : Nat → Nat) (TK : Nat → Int32) (ML : Nat → Int32) (DL : Nat → Int32) (cn : Nat) (DE : Int32) (x y i v : Int32) (hx0 : ¬ x = 0 ∧ ¬ x = 1) : KI l yX4_alter wsX4_alter ({ frames := 1, cells := 0, slots := 0, locals := 21 }) D (kty cI cZ cJ) [.ref vf, .int x, .int y, .int i, .int v] (wV cI cZ cJ vf di t0 st0 ct0 hd0 lv0 wd0 t1 st1 ct1 hd1 lv1 wd1 mp bk nm ln pt tk tr ml dl G ky0 S0 C0 O0 L0 W0 ky1 S1 C1 O1 L1 W1 MP NM TH SZ PT TK ML DL cn DE) (fun r (_ : Unit) => r = 0) (fun _ : Unit => (wV cI cZ cJ vf di t0 st0 ct0 hd0 lv0 wd0 t1 st1 ct1 hd1 lv1 wd1 mp bk nm ln pt tk tr ml dl G ky0 S0 C0 O0 L0 W0 ky1 S1 C1 O1 L1 W1 MP NM TH SZ PT TK ML DL cn DE)) 0 0 := by
  refine k_headI (cc := cX4_alter) (maxL := 6) (ret := (some .boolean)) (by decide) rfl (Nat.le_of_ble_eq_true rfl) ?_
  intro p e s m below meth c A ls args Q hx hb hr hml hts hown hlk hnm hA hK hP hD hS hl hQ
  have hl : lv_has ls 6 [(0, .ref vf), (1, .int x), (2, .int y), (3, .int i), (4, .int v)] := hl
  refine lv_aload_n hx hb dX4_alter_0 rfl (lv_at hl 0 rfl) ?_
  refine lv_iload_n hx hb dX4_alter_1 rfl (lv_at hl 1 rfl) ?_
  refine k_vq (As := [.int x]) (rest := []) (w2 := fun u : Unit => (wV cI cZ cJ vf di t0 st0 ct0 hd0 lv0 wd0 t1 st1 ct1 hd1 lv1 wd1 mp bk nm ln pt tk tr ml dl G ky0 S0 C0 O0 L0 W0 ky1 S1 C1 O1 L1 W1 MP NM TH SZ PT TK ML DL cn DE)) ⟨hx, hb, hml, hown, hts⟩ (c_treeN l D cI cZ cJ vf di t0 st0 ct0 hd0 lv0 wd0 t1 st1 ct1 hd1 lv1 wd1 mp bk nm ln pt tk tr ml dl G ky0 S0 C0 O0 L0 W0 ky1 S1 C1 O1 L1 W1 MP NM TH SZ PT TK ML DL cn DE x hx0) (cwV 1 hts gX4_alter_X4_treeNumbered rfl rfl rfl (by decide +kernel) ⟨Nat.le_of_ble_eq_true rfl, Nat.le_of_ble_eq_true rfl⟩) hP hD hK hS hA [0, 1, 2, 3, 4, 5, 6, 7, 8, 9, 10, 11, 12, 13, 14, 15, 16, 17, 18, 19, 20, 21, 22] [] [0, 1, 2, 3, 4, 5, 6, 7, 8, 9, 10, 11, 12, 13, 14, 15, 16, 17, 18, 19, 20, 21, 22] rfl rfl (by decide) (fun u => rfl) rfl rfl (q0 := 0) rfl rfl hl.1 rfl (Nat.le_of_ble_eq_true rfl) dX4_alter_2 ⟨Nat.le_of_ble_eq_true rfl, Nat.le_of_ble_eq_true rfl⟩ (fun r u H locs hu1 hP hD hS => ?_)
  refine k_tq (show r = none from hu1) ?_
  refine W.eq (g2 := F0 m 5 ls [.null]) rfl ?_
  refine lv_astoreN (lv' := [(5, .null), (0, .ref vf), (1, .int x), (2, .int y), (3, .int i), (4, .int v)]) hx hb dX4_alter_5 hl (by decide) rfl (fun ls hl => ?_)
  refine lv_aloadN hx hb dX4_alter_7 (lv_at hl 0 rfl) ?_
  refine lv_ifnullN (tgt := 38) hx hb dX4_alter_9 (by decide) ?_
  refine lv_iconst (v := nI 0) hx hb dX4_alter_38 (by decide) ?_
  exact k_retz () hx hb hr hK hS hlk dX4_alter_39 ((by first | exact Or.inl rfl | exact Or.inr rfl)) hP hD (by exact rfl) hQ

set_option maxHeartbeats 800000 in
set_option maxRecDepth 100000 in
theorem c_state0 (l : Launch) (D : va_G) (cI cZ cJ : ClassId) (vf : Nat) (di : Nat) (t0 : Nat) (st0 : Nat) (ct0 : Nat) (hd0 : Nat) (lv0 : Nat) (wd0 : Nat) (t1 : Nat) (st1 : Nat) (ct1 : Nat) (hd1 : Nat) (lv1 : Nat) (wd1 : Nat) (mp : Nat) (bk : Nat) (nm : Nat) (ln : Nat) (pt : Nat) (tk : Nat) (tr : Nat) (ml : Nat) (dl : Nat) (G : Int32) (ky0 : Int32) (S0 : Nat → Nat → Int32) (C0 : Nat → Int32) (O0 : Nat → Int32) (L0 : Nat → Int32) (W0 : Nat → Nat → Int32) (ky1 : Int32) (S1 : Nat → Nat → Int32) (C1 : Nat → Int32) (O1 : Nat → Int32) (L1 : Nat → Int32) (W1 : Nat → Nat → Int32) (MP : Nat → Nat) (NM : Nat → Int64) (TH : Nat → Int32) (SZ : Nat → Nat) (PT : Nat → Nat) (TK : Nat → Int32) (ML : Nat → Int32) (DL : Nat → Int32) (cn : Nat) (DE : Int32)   : KI l yX4_state wsX4_state ({ frames := 1, cells := 0, slots := 0, locals := 20 }) D (kty cI cZ cJ) [.ref vf, .int 0] (wV cI cZ cJ vf di t0 st0 ct0 hd0 lv0 wd0 t1 st1 ct1 hd1 lv1 wd1 mp bk nm ln pt tk tr ml dl G ky0 S0 C0 O0 L0 W0 ky1 S1 C1 O1 L1 W1 MP NM TH SZ PT TK ML DL cn DE) (fun r (_ : Unit) => r = nI cn) (fun _ : Unit => (wV cI cZ cJ vf di t0 st0 ct0 hd0 lv0 wd0 t1 st1 ct1 hd1 lv1 wd1 mp bk nm ln pt tk tr ml dl G ky0 S0 C0 O0 L0 W0 ky1 S1 C1 O1 L1 W1 MP NM TH SZ PT TK ML DL cn DE)) 0 0 := by
  refine k_headI (cc := cX4_state) (maxL := 2) (ret := (some .int)) (by decide) rfl (Nat.le_of_ble_eq_true rfl) ?_
  intro p e s m below meth c A ls args Q hx hb hr hml hts hown hlk hnm hA hK hP hD hS hl hQ
  have hl : lv_has ls 2 [(0, .ref vf), (1, .int 0)] := hl
  refine lv_iload_n hx hb dX4_state_0 rfl (lv_at hl 1 rfl) ?_
  refine lv_tableIn (off := 31) (tgt := 32) hx hb dX4_state_1 (by decide) (by decide) (by decide) (by decide) ?_
  refine lv_aload_n hx hb dX4_state_32 rfl (lv_at hl 0 rfl) ?_
  refine va_get (D := D) (ci := 4) (v := .ref tr) (C := RX4) (T := TX4) (N := 7) hx hb hts (by decide +kernel) hown hK hP 0 rfl rfl 5 (by decide) (hts (.fieldLink RX4 42 "VeiledFiles" "trail" "LVeiledFiles$Trail;") (by decide +kernel)) (fun _ h9 => h9) rfl dX4_state_33 ?_
  refine k_vi (As := []) (rest := []) (w2 := fun u : Unit => (wV cI cZ cJ vf di t0 st0 ct0 hd0 lv0 wd0 t1 st1 ct1 hd1 lv1 wd1 mp bk nm ln pt tk tr ml dl G ky0 S0 C0 O0 L0 W0 ky1 S1 C1 O1 L1 W1 MP NM TH SZ PT TK ML DL cn DE)) ⟨hx, hb, hml, hown, hts⟩ (c_tr_count l D cI cZ cJ tr ml dl ML DL cn ) (cwV 0 hts gX4_state_X2_countAll rfl rfl rfl (by decide +kernel) ⟨Nat.le_of_ble_eq_true rfl, Nat.le_of_ble_eq_true rfl⟩) hP hD hK hS hA [20, 21, 22] [0, 1, 2, 3, 4, 5, 6, 7, 8, 9, 10, 11, 12, 13, 14, 15, 16, 17, 18, 19] [0, 1, 2, 3, 4, 5, 6, 7, 8, 9, 10, 11, 12, 13, 14, 15, 16, 17, 18, 19, 20, 21, 22] rfl rfl (by decide) (fun u => rfl) rfl rfl (q0 := 0) rfl rfl hl.1 rfl (Nat.le_of_ble_eq_true rfl) dX4_state_36 ⟨Nat.le_of_ble_eq_true rfl, Nat.le_of_ble_eq_true rfl⟩ (fun r u H locs hu1 hP hD hS => ?_)
  refine k_t1 (show r = nI cn from hu1) ?_
  exact k_reti () hx hb hr hK hS hlk dX4_state_39 hP hD (by exact rfl) hQ

set_option maxHeartbeats 800000 in
set_option maxRecDepth 100000 in
theorem c_state1 (l : Launch) (D : va_G) (cI cZ cJ : ClassId) (vf : Nat) (di : Nat) (t0 : Nat) (st0 : Nat) (ct0 : Nat) (hd0 : Nat) (lv0 : Nat) (wd0 : Nat) (t1 : Nat) (st1 : Nat) (ct1 : Nat) (hd1 : Nat) (lv1 : Nat) (wd1 : Nat) (mp : Nat) (bk : Nat) (nm : Nat) (ln : Nat) (pt : Nat) (tk : Nat) (tr : Nat) (ml : Nat) (dl : Nat) (G : Int32) (ky0 : Int32) (S0 : Nat → Nat → Int32) (C0 : Nat → Int32) (O0 : Nat → Int32) (L0 : Nat → Int32) (W0 : Nat → Nat → Int32) (ky1 : Int32) (S1 : Nat → Nat → Int32) (C1 : Nat → Int32) (O1 : Nat → Int32) (L1 : Nat → Int32) (W1 : Nat → Nat → Int32) (MP : Nat → Nat) (NM : Nat → Int64) (TH : Nat → Int32) (SZ : Nat → Nat) (PT : Nat → Nat) (TK : Nat → Int32) (ML : Nat → Int32) (DL : Nat → Int32) (cn : Nat) (DE : Int32)  (hSZ : ∀ f, f < 8 → SZ f ≤ 24) : KI l yX4_state wsX4_state ({ frames := 1, cells := 0, slots := 0, locals := 22 }) D (kty cI cZ cJ) [.ref vf, .int 1] (wV cI cZ cJ vf di t0 st0 ct0 hd0 lv0 wd0 t1 st1 ct1 hd1 lv1 wd1 mp bk nm ln pt tk tr ml dl G ky0 S0 C0 O0 L0 W0 ky1 S1 C1 O1 L1 W1 MP NM TH SZ PT TK ML DL cn DE) (fun r (_ : Unit) => r = nI (cntN TH 8)) (fun _ : Unit => (wV cI cZ cJ vf di t0 st0 ct0 hd0 lv0 wd0 t1 st1 ct1 hd1 lv1 wd1 mp bk nm ln pt tk tr ml dl G ky0 S0 C0 O0 L0 W0 ky1 S1 C1 O1 L1 W1 MP NM TH SZ PT TK ML DL cn DE)) 0 0 := by
  refine k_headI (cc := cX4_state) (maxL := 2) (ret := (some .int)) (by decide) rfl (Nat.le_of_ble_eq_true rfl) ?_
  intro p e s m below meth c A ls args Q hx hb hr hml hts hown hlk hnm hA hK hP hD hS hl hQ
  have hl : lv_has ls 2 [(0, .ref vf), (1, .int 1)] := hl
  refine lv_iload_n hx hb dX4_state_0 rfl (lv_at hl 1 rfl) ?_
  refine lv_tableIn (off := 39) (tgt := 40) hx hb dX4_state_1 (by decide) (by decide) (by decide) (by decide) ?_
  refine lv_aload_n hx hb dX4_state_40 rfl (lv_at hl 0 rfl) ?_
  refine va_get (D := D) (ci := 4) (v := .ref bk) (C := RX4) (T := TX4) (N := 7) hx hb hts (by decide +kernel) hown hK hP 0 rfl rfl 4 (by decide) (hts (.fieldLink RX4 35 "VeiledFiles" "book" "LVeiledFiles$Book;") (by decide +kernel)) (fun _ h9 => h9) rfl dX4_state_41 ?_
  refine k_vi (As := []) (rest := []) (w2 := fun u : Unit => (wV cI cZ cJ vf di t0 st0 ct0 hd0 lv0 wd0 t1 st1 ct1 hd1 lv1 wd1 mp bk nm ln pt tk tr ml dl G ky0 S0 C0 O0 L0 W0 ky1 S1 C1 O1 L1 W1 MP NM TH SZ PT TK ML DL cn DE)) ⟨hx, hb, hml, hown, hts⟩ (c_countFiles l D cI cZ cJ bk nm ln pt tk NM TH SZ PT TK hSZ) (cwV 0 hts gX4_state_X0_countFiles rfl rfl rfl (by decide +kernel) ⟨Nat.le_of_ble_eq_true rfl, Nat.le_of_ble_eq_true rfl⟩) hP hD hK hS hA [15, 16, 17, 18, 19] [0, 1, 2, 3, 4, 5, 6, 7, 8, 9, 10, 11, 12, 13, 14, 20, 21, 22] [0, 1, 2, 3, 4, 5, 6, 7, 8, 9, 10, 11, 12, 13, 14, 18, 19, 20, 21, 22, 15, 16, 17] rfl rfl (by decide) (fun u => rfl) rfl rfl (q0 := 0) rfl rfl hl.1 rfl (Nat.le_of_ble_eq_true rfl) dX4_state_44 ⟨Nat.le_of_ble_eq_true rfl, Nat.le_of_ble_eq_true rfl⟩ (fun r u H locs hu1 hP hD hS => ?_)
  refine k_t1 (show r = nI (cntN TH 8) from hu1) ?_
  exact k_reti () hx hb hr hK hS hlk dX4_state_47 hP hD (by exact rfl) hQ

set_option maxHeartbeats 800000 in
set_option maxRecDepth 100000 in
theorem c_state2 (l : Launch) (D : va_G) (cI cZ cJ : ClassId) (vf : Nat) (di : Nat) (t0 : Nat) (st0 : Nat) (ct0 : Nat) (hd0 : Nat) (lv0 : Nat) (wd0 : Nat) (t1 : Nat) (st1 : Nat) (ct1 : Nat) (hd1 : Nat) (lv1 : Nat) (wd1 : Nat) (mp : Nat) (bk : Nat) (nm : Nat) (ln : Nat) (pt : Nat) (tk : Nat) (tr : Nat) (ml : Nat) (dl : Nat) (G : Int32) (ky0 : Int32) (S0 : Nat → Nat → Int32) (C0 : Nat → Int32) (O0 : Nat → Int32) (L0 : Nat → Int32) (W0 : Nat → Nat → Int32) (ky1 : Int32) (S1 : Nat → Nat → Int32) (C1 : Nat → Int32) (O1 : Nat → Int32) (L1 : Nat → Int32) (W1 : Nat → Nat → Int32) (MP : Nat → Nat) (NM : Nat → Int64) (TH : Nat → Int32) (SZ : Nat → Nat) (PT : Nat → Nat) (TK : Nat → Int32) (ML : Nat → Int32) (DL : Nat → Int32) (cn : Nat) (DE : Int32)   : KI l yX4_state wsX4_state ({ frames := 1, cells := 0, slots := 0, locals := 22 }) D (kty cI cZ cJ) [.ref vf, .int 2] (wV cI cZ cJ vf di t0 st0 ct0 hd0 lv0 wd0 t1 st1 ct1 hd1 lv1 wd1 mp bk nm ln pt tk tr ml dl G ky0 S0 C0 O0 L0 W0 ky1 S1 C1 O1 L1 W1 MP NM TH SZ PT TK ML DL cn DE) (fun r (_ : Unit) => r = nI (cf0 TK 64)) (fun _ : Unit => (wV cI cZ cJ vf di t0 st0 ct0 hd0 lv0 wd0 t1 st1 ct1 hd1 lv1 wd1 mp bk nm ln pt tk tr ml dl G ky0 S0 C0 O0 L0 W0 ky1 S1 C1 O1 L1 W1 MP NM TH SZ PT TK ML DL cn DE)) 0 0 := by
  refine k_headI (cc := cX4_state) (maxL := 2) (ret := (some .int)) (by decide) rfl (Nat.le_of_ble_eq_true rfl) ?_
  intro p e s m below meth c A ls args Q hx hb hr hml hts hown hlk hnm hA hK hP hD hS hl hQ
  have hl : lv_has ls 2 [(0, .ref vf), (1, .int 2)] := hl
  refine lv_iload_n hx hb dX4_state_0 rfl (lv_at hl 1 rfl) ?_
  refine lv_tableIn (off := 47) (tgt := 48) hx hb dX4_state_1 (by decide) (by decide) (by decide) (by decide) ?_
  refine lv_aload_n hx hb dX4_state_48 rfl (lv_at hl 0 rfl) ?_
  refine va_get (D := D) (ci := 4) (v := .ref bk) (C := RX4) (T := TX4) (N := 7) hx hb hts (by decide +kernel) hown hK hP 0 rfl rfl 4 (by decide) (hts (.fieldLink RX4 35 "VeiledFiles" "book" "LVeiledFiles$Book;") (by decide +kernel)) (fun _ h9 => h9) rfl dX4_state_49 ?_
  refine k_vi (As := []) (rest := []) (w2 := fun u : Unit => (wV cI cZ cJ vf di t0 st0 ct0 hd0 lv0 wd0 t1 st1 ct1 hd1 lv1 wd1 mp bk nm ln pt tk tr ml dl G ky0 S0 C0 O0 L0 W0 ky1 S1 C1 O1 L1 W1 MP NM TH SZ PT TK ML DL cn DE)) ⟨hx, hb, hml, hown, hts⟩ (c_countFree l D cI cZ cJ bk nm ln pt tk NM TH SZ PT TK ) (cwV 0 hts gX4_state_X0_countFreeBlocks rfl rfl rfl (by decide +kernel) ⟨Nat.le_of_ble_eq_true rfl, Nat.le_of_ble_eq_true rfl⟩) hP hD hK hS hA [15, 16, 17, 18, 19] [0, 1, 2, 3, 4, 5, 6, 7, 8, 9, 10, 11, 12, 13, 14, 20, 21, 22] [0, 1, 2, 3, 4, 5, 6, 7, 8, 9, 10, 11, 12, 13, 14, 18, 19, 20, 21, 22, 15, 16, 17] rfl rfl (by decide) (fun u => rfl) rfl rfl (q0 := 0) rfl rfl hl.1 rfl (Nat.le_of_ble_eq_true rfl) dX4_state_52 ⟨Nat.le_of_ble_eq_true rfl, Nat.le_of_ble_eq_true rfl⟩ (fun r u H locs hu1 hP hD hS => ?_)
  refine k_t1 (show r = nI (cf0 TK 64) from hu1) ?_
  exact k_reti () hx hb hr hK hS hlk dX4_state_55 hP hD (by exact rfl) hQ

set_option maxHeartbeats 800000 in
set_option maxRecDepth 100000 in
theorem c_state3 (l : Launch) (D : va_G) (cI cZ cJ : ClassId) (vf : Nat) (di : Nat) (t0 : Nat) (st0 : Nat) (ct0 : Nat) (hd0 : Nat) (lv0 : Nat) (wd0 : Nat) (t1 : Nat) (st1 : Nat) (ct1 : Nat) (hd1 : Nat) (lv1 : Nat) (wd1 : Nat) (mp : Nat) (bk : Nat) (nm : Nat) (ln : Nat) (pt : Nat) (tk : Nat) (tr : Nat) (ml : Nat) (dl : Nat) (G : Int32) (ky0 : Int32) (S0 : Nat → Nat → Int32) (C0 : Nat → Int32) (O0 : Nat → Int32) (L0 : Nat → Int32) (W0 : Nat → Nat → Int32) (ky1 : Int32) (S1 : Nat → Nat → Int32) (C1 : Nat → Int32) (O1 : Nat → Int32) (L1 : Nat → Int32) (W1 : Nat → Nat → Int32) (MP : Nat → Nat) (NM : Nat → Int64) (TH : Nat → Int32) (SZ : Nat → Nat) (PT : Nat → Nat) (TK : Nat → Int32) (ML : Nat → Int32) (DL : Nat → Int32) (cn : Nat) (DE : Int32)   : KI l yX4_state wsX4_state ({ frames := 0, cells := 0, slots := 0, locals := 0 }) D (kty cI cZ cJ) [.ref vf, .int 3] (wV cI cZ cJ vf di t0 st0 ct0 hd0 lv0 wd0 t1 st1 ct1 hd1 lv1 wd1 mp bk nm ln pt tk tr ml dl G ky0 S0 C0 O0 L0 W0 ky1 S1 C1 O1 L1 W1 MP NM TH SZ PT TK ML DL cn DE) (fun r (_ : Unit) => r = if DE = 0 then 0 else 1) (fun _ : Unit => (wV cI cZ cJ vf di t0 st0 ct0 hd0 lv0 wd0 t1 st1 ct1 hd1 lv1 wd1 mp bk nm ln pt tk tr ml dl G ky0 S0 C0 O0 L0 W0 ky1 S1 C1 O1 L1 W1 MP NM TH SZ PT TK ML DL cn DE)) 0 0 := by
  refine k_headI (cc := cX4_state) (maxL := 2) (ret := (some .int)) (by decide) rfl (Nat.le_of_ble_eq_true rfl) ?_
  intro p e s m below meth c A ls args Q hx hb hr hml hts hown hlk hnm hA hK hP hD hS hl hQ
  have hl : lv_has ls 2 [(0, .ref vf), (1, .int 3)] := hl
  refine lv_iload_n hx hb dX4_state_0 rfl (lv_at hl 1 rfl) ?_
  refine lv_tableIn (off := 55) (tgt := 56) hx hb dX4_state_1 (by decide) (by decide) (by decide) (by decide) ?_
  refine lv_aload_n hx hb dX4_state_56 rfl (lv_at hl 0 rfl) ?_
  refine va_get (D := D) (ci := 4) (v := .int DE) (C := RX4) (T := TX4) (N := 7) hx hb hts (by decide +kernel) hown hK hP 0 rfl rfl 6 (by decide) (hts (.fieldLink RX4 140 "VeiledFiles" "dead" "Z") (by decide +kernel)) (fun _ h9 => h9) rfl dX4_state_57 ?_
  refine lv_if_eq (tgt := 67) hx hb dX4_state_60 (by decide) (fun c1 => ?_) (fun c1 => ?_)
  · skip
    refine lv_iconst (v := nI 0) hx hb dX4_state_67 (by decide) ?_
    exact k_reti () hx hb hr hK hS hlk dX4_state_68 hP hD (by rw [if_pos c1]; rfl) hQ
  · skip
    refine lv_iconst (v := nI 1) hx hb dX4_state_63 (by decide) ?_
    refine lv_goto (tgt := 68) hx hb dX4_state_64 (by decide) ?_
    exact k_reti () hx hb hr hK hS hlk dX4_state_68 hP hD (by rw [if_neg c1]; rfl) hQ

set_option maxHeartbeats 800000 in
set_option maxRecDepth 100000 in
theorem c_stateN (l : Launch) (D : va_G) (cI cZ cJ : ClassId) (vf : Nat) (di : Nat) (t0 : Nat) (st0 : Nat) (ct0 : Nat) (hd0 : Nat) (lv0 : Nat) (wd0 : Nat) (t1 : Nat) (st1 : Nat) (ct1 : Nat) (hd1 : Nat) (lv1 : Nat) (wd1 : Nat) (mp : Nat) (bk : Nat) (nm : Nat) (ln : Nat) (pt : Nat) (tk : Nat) (tr : Nat) (ml : Nat) (dl : Nat) (G : Int32) (ky0 : Int32) (S0 : Nat → Nat → Int32) (C0 : Nat → Int32) (O0 : Nat → Int32) (L0 : Nat → Int32) (W0 : Nat → Nat → Int32) (ky1 : Int32) (S1 : Nat → Nat → Int32) (C1 : Nat → Int32) (O1 : Nat → Int32) (L1 : Nat → Int32) (W1 : Nat → Nat → Int32) (MP : Nat → Nat) (NM : Nat → Int64) (TH : Nat → Int32) (SZ : Nat → Nat) (PT : Nat → Nat) (TK : Nat → Int32) (ML : Nat → Int32) (DL : Nat → Int32) (cn : Nat) (DE : Int32) (x : Int32) (hx0 : x.toInt < 0 ∨ 3 < x.toInt) : KI l yX4_state wsX4_state ({ frames := 0, cells := 0, slots := 0, locals := 0 }) D (kty cI cZ cJ) [.ref vf, .int x] (wV cI cZ cJ vf di t0 st0 ct0 hd0 lv0 wd0 t1 st1 ct1 hd1 lv1 wd1 mp bk nm ln pt tk tr ml dl G ky0 S0 C0 O0 L0 W0 ky1 S1 C1 O1 L1 W1 MP NM TH SZ PT TK ML DL cn DE) (fun r (_ : Unit) => r = -1) (fun _ : Unit => (wV cI cZ cJ vf di t0 st0 ct0 hd0 lv0 wd0 t1 st1 ct1 hd1 lv1 wd1 mp bk nm ln pt tk tr ml dl G ky0 S0 C0 O0 L0 W0 ky1 S1 C1 O1 L1 W1 MP NM TH SZ PT TK ML DL cn DE)) 0 0 := by
  refine k_headI (cc := cX4_state) (maxL := 2) (ret := (some .int)) (by decide) rfl (Nat.le_of_ble_eq_true rfl) ?_
  intro p e s m below meth c A ls args Q hx hb hr hml hts hown hlk hnm hA hK hP hD hS hl hQ
  have hl : lv_has ls 2 [(0, .ref vf), (1, .int x)] := hl
  refine lv_iload_n hx hb dX4_state_0 rfl (lv_at hl 1 rfl) ?_
  refine lv_tableOut (tgt := 69) hx hb dX4_state_1 hx0 (by decide) ?_
  refine lv_iconst (v := -1) hx hb dX4_state_69 (by decide) ?_
  exact k_reti () hx hb hr hK hS hlk dX4_state_70 hP hD (by exact rfl) hQ

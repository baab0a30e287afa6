set_option maxHeartbeats 800000 in
set_option maxRecDepth 100000 in
theorem c_m_isFile_y (l : Launch) (D : va_G) (cI cZ cJ : ClassId) (mo : Nat) (se : Nat) (co : Nat) (ou : Nat) (le : Nat) (wo : Nat) (ma : Nat) (pl : Nat) (tl : Nat) (tm : Nat) (th : Nat) (na : Nat) (si : Nat) (pa : Nat) (ta : Nat) (thr : Int32) (G : Int32) (ky : Int32) (DE : Int32) (cn : Nat) (got : Int32) (S0 : Nat → Nat → Int32) (C0 : Nat → Int32) (O0 : Nat → Int32) (L0 : Nat → Int32) (W0 : Nat → Nat → Int32) (S1 : Nat → Nat → Int32) (C1 : Nat → Int32) (O1 : Nat → Int32) (L1 : Nat → Int32) (W1 : Nat → Nat → Int32) (MP : Nat → Nat) (PL : Nat → Int32) (ML : Nat → Int32) (DL : Nat → Int32) (TH : Nat → Int32) (NM : Nat → Int64) (SZ : Nat → Nat) (PT : Nat → Nat) (TK : Nat → Int32) (f : Nat) (hf : f < 8) (ht : ¬ TH f = 0) : KI l yX5_isFile wsX5_isFile ({ frames := 0, cells := 0, slots := 0, locals := 0 }) D (kty cI cZ cJ) [.ref mo, .int (nI f)] (wM cI cZ cJ mo se co ou le wo ma pl tl tm th na si pa ta thr G ky DE cn got S0 C0 O0 L0 W0 S1 C1 O1 L1 W1 MP PL ML DL TH NM SZ PT TK) (fun r (_ : Unit) => r = 1) (fun _ : Unit => (wM cI cZ cJ mo se co ou le wo ma pl tl tm th na si pa ta thr G ky DE cn got S0 C0 O0 L0 W0 S1 C1 O1 L1 W1 MP PL ML DL TH NM SZ PT TK)) 0 0 := by
  refine k_headI (cc := cX5_isFile) (maxL := 2) (ret := (some .boolean)) (by decide) rfl (Nat.le_of_ble_eq_true rfl) ?_
  intro p e s m below meth c A ls args Q hx hb hr hml hts hown hlk hnm hA hK hP hD hS hl hQ
  have hl : lv_has ls 2 [(0, .ref mo), (1, .int (nI f))] := hl
  refine lv_iload_n hx hb dX5_isFile_0 rfl (lv_at hl 1 rfl) ?_
  refine lv_if_lt (tgt := 23) hx hb dX5_isFile_1 (by decide) (fun c1 => ?_) (fun c1 => ?_)
  · skip
    exact absurd c1 (nI_pos (by omega))
  · skip
    refine lv_iload_n hx hb dX5_isFile_4 rfl (lv_at hl 1 rfl) ?_
    refine lv_bipush (v := nI 8) hx hb dX5_isFile_5 (by decide) ?_
    refine k_icmp_ge (tgt := 23) hx hb (by omega) (by omega) dX5_isFile_7 (by decide) (fun c2 => ?_) (fun c2 => ?_)
    · skip
      omega
    · skip
      refine lv_aload_n hx hb dX5_isFile_10 rfl (lv_at hl 0 rfl) ?_
      refine va_get (D := D) (ci := 5) (v := .ref th) (C := RX5) (T := TX5) (N := 20) hx hb hts (by decide +kernel) hown hK hP 0 rfl rfl 14 (by decide) (hts (.fieldLink RX5 38 "VeiledFilesModel" "there" "[Z") (by decide +kernel)) (fun _ h9 => h9) rfl dX5_isFile_11 ?_
      refine lv_iload_n hx hb dX5_isFile_14 rfl (lv_at hl 1 rfl) ?_
      refine k_zald hx hb hK hP 10 1 rfl rfl f (by omega) (by omega) (v := TH f) (rfl) dX5_isFile_15 ?_
      refine lv_if_eq (tgt := 23) hx hb dX5_isFile_16 (by decide) (fun c3 => ?_) (fun c3 => ?_)
      · skip
        exact absurd c3 ht
      · skip
        refine lv_iconst (v := nI 1) hx hb dX5_isFile_19 (by decide) ?_
        refine lv_goto (tgt := 24) hx hb dX5_isFile_20 (by decide) ?_
        exact k_retz () hx hb hr hK hS hlk dX5_isFile_24 ((by first | exact Or.inl rfl | exact Or.inr rfl)) hP hD (by exact rfl) hQ

set_option maxHeartbeats 800000 in
set_option maxRecDepth 100000 in
theorem c_m_isFile_n (l : Launch) (D : va_G) (cI cZ cJ : ClassId) (mo : Nat) (se : Nat) (co : Nat) (ou : Nat) (le : Nat) (wo : Nat) (ma : Nat) (pl : Nat) (tl : Nat) (tm : Nat) (th : Nat) (na : Nat) (si : Nat) (pa : Nat) (ta : Nat) (thr : Int32) (G : Int32) (ky : Int32) (DE : Int32) (cn : Nat) (got : Int32) (S0 : Nat → Nat → Int32) (C0 : Nat → Int32) (O0 : Nat → Int32) (L0 : Nat → Int32) (W0 : Nat → Nat → Int32) (S1 : Nat → Nat → Int32) (C1 : Nat → Int32) (O1 : Nat → Int32) (L1 : Nat → Int32) (W1 : Nat → Nat → Int32) (MP : Nat → Nat) (PL : Nat → Int32) (ML : Nat → Int32) (DL : Nat → Int32) (TH : Nat → Int32) (NM : Nat → Int64) (SZ : Nat → Nat) (PT : Nat → Nat) (TK : Nat → Int32) (x : Int32) (hf : notF TH x) : KI l yX5_isFile wsX5_isFile ({ frames := 0, cells := 0, slots := 0, locals := 0 }) D (kty cI cZ cJ) [.ref mo, .int x] (wM cI cZ cJ mo se co ou le wo ma pl tl tm th na si pa ta thr G ky DE cn got S0 C0 O0 L0 W0 S1 C1 O1 L1 W1 MP PL ML DL TH NM SZ PT TK) (fun r (_ : Unit) => r = 0) (fun _ : Unit => (wM cI cZ cJ mo se co ou le wo ma pl tl tm th na si pa ta thr G ky DE cn got S0 C0 O0 L0 W0 S1 C1 O1 L1 W1 MP PL ML DL TH NM SZ PT TK)) 0 0 := by
  refine k_headI (cc := cX5_isFile) (maxL := 2) (ret := (some .boolean)) (by decide) rfl (Nat.le_of_ble_eq_true rfl) ?_
  intro p e s m below meth c A ls args Q hx hb hr hml hts hown hlk hnm hA hK hP hD hS hl hQ
  have hl : lv_has ls 2 [(0, .ref mo), (1, .int x)] := hl
  refine lv_iload_n hx hb dX5_isFile_0 rfl (lv_at hl 1 rfl) ?_
  refine lv_if_lt (tgt := 23) hx hb dX5_isFile_1 (by decide) (fun c1 => ?_) (fun c1 => ?_)
  · skip
    refine lv_iconst (v := nI 0) hx hb dX5_isFile_23 (by decide) ?_
    exact k_retz () hx hb hr hK hS hlk dX5_isFile_24 ((by first | exact Or.inl rfl | exact Or.inr rfl)) hP hD (by exact rfl) hQ
  · skip
    refine lv_iload_n hx hb dX5_isFile_4 rfl (lv_at hl 1 rfl) ?_
    refine lv_bipush (v := nI 8) hx hb dX5_isFile_5 (by decide) ?_
    refine lv_icmp_ge (tgt := 23) hx hb dX5_isFile_7 (by decide) (fun c2 => ?_) (fun c2 => ?_)
    · skip
      refine lv_iconst (v := nI 0) hx hb dX5_isFile_23 (by decide) ?_
      exact k_retz () hx hb hr hK hS hlk dX5_isFile_24 ((by first | exact Or.inl rfl | exact Or.inr rfl)) hP hD (by exact rfl) hQ
    · skip
      rcases hf with hf | ⟨f, hf, rfl, ht⟩
      · skip
        exact absurd hf (by simp [noB, c1, c2])
      · skip
        refine lv_aload_n hx hb dX5_isFile_10 rfl (lv_at hl 0 rfl) ?_
        refine va_get (D := D) (ci := 5) (v := .ref th) (C := RX5) (T := TX5) (N := 20) hx hb hts (by decide +kernel) hown hK hP 0 rfl rfl 14 (by decide) (hts (.fieldLink RX5 38 "VeiledFilesModel" "there" "[Z") (by decide +kernel)) (fun _ h9 => h9) rfl dX5_isFile_11 ?_
        refine lv_iload_n hx hb dX5_isFile_14 rfl (lv_at hl 1 rfl) ?_
        refine k_zald hx hb hK hP 10 1 rfl rfl f (by omega) (by omega) (v := TH f) (rfl) dX5_isFile_15 ?_
        refine lv_if_eq (tgt := 23) hx hb dX5_isFile_16 (by decide) (fun c3 => ?_) (fun c3 => ?_)
        · skip
          refine lv_iconst (v := nI 0) hx hb dX5_isFile_23 (by decide) ?_
          exact k_retz () hx hb hr hK hS hlk dX5_isFile_24 ((by first | exact Or.inl rfl | exact Or.inr rfl)) hP hD (by exact rfl) hQ
        · skip
          exact absurd ht c3

set_option maxHeartbeats 800000 in
set_option maxRecDepth 100000 in
theorem c_m_named (l : Launch) (D : va_G) (cI cZ cJ : ClassId) (mo : Nat) (se : Nat) (co : Nat) (ou : Nat) (le : Nat) (wo : Nat) (ma : Nat) (pl : Nat) (tl : Nat) (tm : Nat) (th : Nat) (na : Nat) (si : Nat) (pa : Nat) (ta : Nat) (thr : Int32) (G : Int32) (ky : Int32) (DE : Int32) (cn : Nat) (got : Int32) (S0 : Nat → Nat → Int32) (C0 : Nat → Int32) (O0 : Nat → Int32) (L0 : Nat → Int32) (W0 : Nat → Nat → Int32) (S1 : Nat → Nat → Int32) (C1 : Nat → Int32) (O1 : Nat → Int32) (L1 : Nat → Int32) (W1 : Nat → Nat → Int32) (MP : Nat → Nat) (PL : Nat → Int32) (ML : Nat → Int32) (DL : Nat → Int32) (TH : Nat → Int32) (NM : Nat → Int64) (SZ : Nat → Nat) (PT : Nat → Nat) (TK : Nat → Int32) (x : Int64)  : KI l yX5_named wsX5_named ({ frames := 0, cells := 0, slots := 0, locals := 0 }) D (kty cI cZ cJ) [.ref mo, .long x] (wM cI cZ cJ mo se co ou le wo ma pl tl tm th na si pa ta thr G ky DE cn got S0 C0 O0 L0 W0 S1 C1 O1 L1 W1 MP PL ML DL TH NM SZ PT TK) (fun r (_ : Unit) => r = idx8 8 (nmQ TH NM x)) (fun _ : Unit => (wM cI cZ cJ mo se co ou le wo ma pl tl tm th na si pa ta thr G ky DE cn got S0 C0 O0 L0 W0 S1 C1 O1 L1 W1 MP PL ML DL TH NM SZ PT TK)) 0 0 := by
  refine k_headI (cc := cX5_named) (maxL := 4) (ret := (some .int)) (by decide) rfl (Nat.le_of_ble_eq_true rfl) ?_
  intro p e s m below meth c A ls args Q hx hb hr hml hts hown hlk hnm hA hK hP hD hS hl hQ
  have hl : lv_has ls 4 [(0, .ref mo), (1, .long x)] := hl
  refine lv_iconst (v := nI 0) hx hb dX5_named_0 (by decide) ?_
  refine lv_istore_n (lv' := [(3, .int (nI 0)), (0, .ref mo), (1, .long x)]) hx hb dX5_named_1 rfl hl (by decide) rfl (fun ls hl => ?_)
  have L1l : ∀ (nf q : Nat) (hvL1l : q ≤ 8) (hFL1l : 8 - q < nf) (hq : ∀ j, j < q → ¬ (¬ TH j = 0 ∧ NM j = x)) (H : Heap) (locs : List Loc) (ls : Array Slot), va_P D vwCl (wM cI cZ cJ mo se co ou le wo ma pl tl tm th na si pa ta thr G ky DE cn got S0 C0 O0 L0 W0 S1 C1 O1 L1 W1 MP PL ML DL TH NM SZ PT TK) H → va_D A (wM cI cZ cJ mo se co ou le wo ma pl tl tm th na si pa ta thr G ky DE cn got S0 C0 O0 L0 W0 S1 C1 O1 L1 W1 MP PL ML DL TH NM SZ PT TK) → va_S A s.heap H locs → lv_has ls 4 [(0, .ref mo), (1, .long x), (3, .int (nI q))] → W p l e ({ frames := 0, cells := 0, slots := 0, locals := 0 } : Room) s m args below meth c H locs 0 0 Q (F0 m 2 ls []) := by
    intro nf
    induction nf with
    | zero => intro q  hvL1l hFL1l; omega
    | succ nf ihL1l =>
      intro q  hvL1l hFL1l hq H locs ls hP hD hS hl
      refine lv_iload_n hx hb dX5_named_2 rfl (lv_at hl 2 rfl) ?_
      refine lv_bipush (v := nI 8) hx hb dX5_named_3 (by decide) ?_
      refine k_icmp_ge (tgt := 36) hx hb (by omega) (by omega) dX5_named_5 (by decide) (fun c1 => ?_) (fun c1 => ?_)
      · skip
        obtain rfl : q = 8 := by omega
        refine lv_iconst (v := -1) hx hb dX5_named_36 (by decide) ?_
        exact k_reti () hx hb hr hK hS hlk dX5_named_37 hP hD (by rw [nmQ_no hq]; rfl) hQ
      · skip
        refine lv_aload_n hx hb dX5_named_8 rfl (lv_at hl 0 rfl) ?_
        refine va_get (D := D) (ci := 5) (v := .ref th) (C := RX5) (T := TX5) (N := 20) hx hb hts (by decide +kernel) hown hK hP 0 rfl rfl 14 (by decide) (hts (.fieldLink RX5 38 "VeiledFilesModel" "there" "[Z") (by decide +kernel)) (fun _ h9 => h9) rfl dX5_named_9 ?_
        refine lv_iload_n hx hb dX5_named_12 rfl (lv_at hl 2 rfl) ?_
        refine k_zald hx hb hK hP 10 1 rfl rfl q (by omega) (by omega) (v := TH q) (rfl) dX5_named_13 ?_
        refine lv_if_eq (tgt := 30) hx hb dX5_named_14 (by decide) (fun c2 => ?_) (fun c2 => ?_)
        · skip
          refine lv_iinc (v := nI (q + 1)) (lv' := [(3, .int (nI (q + 1))), (0, .ref mo), (1, .long x)]) hx hb dX5_named_30 hl (k := 2) rfl (nI_add q 1) (by decide) rfl (fun ls hl => ?_)
          refine lv_goto (tgt := 2) hx hb dX5_named_33 (by decide) ?_
          exact ihL1l (q + 1)  (by omega) (by omega) (fun j hj => by rcases Nat.lt_succ_iff_lt_or_eq.mp hj with h | rfl; exact hq j h; exact fun z => z.1 c2) _ _ _ hP hD hS (lv_sub hl [1, 2, 0] rfl)
        · skip
          refine lv_aload_n hx hb dX5_named_17 rfl (lv_at hl 0 rfl) ?_
          refine va_get (D := D) (ci := 5) (v := .ref na) (C := RX5) (T := TX5) (N := 20) hx hb hts (by decide +kernel) hown hK hP 0 rfl rfl 15 (by decide) (hts (.fieldLink RX5 41 "VeiledFilesModel" "name" "[J") (by decide +kernel)) (fun _ h9 => h9) rfl dX5_named_18 ?_
          refine lv_iload_n hx hb dX5_named_21 rfl (lv_at hl 2 rfl) ?_
          refine k_lald hx hb hK hP 11 2 rfl rfl q (by omega) (by omega) (v := NM q) (rfl) dX5_named_22 ?_
          refine lv_lload_n hx hb dX5_named_23 rfl (lv_at hl 1 rfl) ?_
          refine W.lcmp hx hb dX5_named_24 ?_
          refine lv_if_ne (tgt := 30) hx hb dX5_named_25 (by decide) (fun c3 => ?_) (fun c3 => ?_)
          · skip
            refine lv_iinc (v := nI (q + 1)) (lv' := [(3, .int (nI (q + 1))), (0, .ref mo), (1, .long x)]) hx hb dX5_named_30 hl (k := 2) rfl (nI_add q 1) (by decide) rfl (fun ls hl => ?_)
            refine lv_goto (tgt := 2) hx hb dX5_named_33 (by decide) ?_
            exact ihL1l (q + 1)  (by omega) (by omega) (fun j hj => by rcases Nat.lt_succ_iff_lt_or_eq.mp hj with h | rfl; exact hq j h; exact fun z => c3 (lg_cmp_0.mpr z.2)) _ _ _ hP hD hS (lv_sub hl [1, 2, 0] rfl)
          · skip
            refine lv_iload_n hx hb dX5_named_28 rfl (lv_at hl 2 rfl) ?_
            exact k_reti () hx hb hr hK hS hlk dX5_named_29 hP hD (by rw [nmQ_at c1 ⟨c2, lg_cmp_0.mp c3⟩ hq]; simp [idx8, c1]) hQ
  exact L1l (8 + 1) 0  (by omega) (by omega) (fun j hj => absurd hj (by omega)) _ _ _ hP hD hS (lv_sub hl [1, 2, 0] rfl)

set_option maxHeartbeats 800000 in
set_option maxRecDepth 100000 in
theorem c_m_create (l : Launch) (D : va_G) (cI cZ cJ : ClassId) (mo : Nat) (se : Nat) (co : Nat) (ou : Nat) (le : Nat) (wo : Nat) (ma : Nat) (pl : Nat) (tl : Nat) (tm : Nat) (th : Nat) (na : Nat) (si : Nat) (pa : Nat) (ta : Nat) (thr : Int32) (G : Int32) (ky : Int32) (DE : Int32) (cn : Nat) (got : Int32) (S0 : Nat → Nat → Int32) (C0 : Nat → Int32) (O0 : Nat → Int32) (L0 : Nat → Int32) (W0 : Nat → Nat → Int32) (S1 : Nat → Nat → Int32) (C1 : Nat → Int32) (O1 : Nat → Int32) (L1 : Nat → Int32) (W1 : Nat → Nat → Int32) (MP : Nat → Nat) (PL : Nat → Int32) (ML : Nat → Int32) (DL : Nat → Int32) (TH : Nat → Int32) (NM : Nat → Int64) (SZ : Nat → Nat) (PT : Nat → Nat) (TK : Nat → Int32) (x : Int64)  : KI l yX5_create wsX5_create ({ frames := 1, cells := 0, slots := 0, locals := 23 }) D (kty cI cZ cJ) [.ref mo, .long x] (wM cI cZ cJ mo se co ou le wo ma pl tl tm th na si pa ta thr G ky DE cn got S0 C0 O0 L0 W0 S1 C1 O1 L1 W1 MP PL ML DL TH NM SZ PT TK) (fun r (_ : Unit) => r = adR TH NM x) (fun _ : Unit => (wM cI cZ cJ mo se co ou le wo ma pl tl tm th na si pa ta 0 G ky DE cn got S0 C0 O0 L0 W0 S1 C1 O1 L1 W1 MP PL ML DL (adTH TH NM x) (adNM TH NM x) (adSZ TH NM SZ x) PT TK)) 0 0 := by
  refine k_headI (cc := cX5_create) (maxL := 4) (ret := (some .int)) (by decide) rfl (Nat.le_of_ble_eq_true rfl) ?_
  intro p e s m below meth c A ls args Q hx hb hr hml hts hown hlk hnm hA hK hP hD hS hl hQ
  have hl : lv_has ls 4 [(0, .ref mo), (1, .long x)] := hl
  refine lv_aload_n hx hb dX5_create_0 rfl (lv_at hl 0 rfl) ?_
  refine lv_iconst (v := nI 0) hx hb dX5_create_1 (by decide) ?_
  refine va_put (D := D) (ci := 5) (v := .int (nI 0)) (ty := .int) (C := RX5) (T := TX5) (N := 20) hx hb hts (by decide +kernel) tyX5 tyX5_ok nmX5 hown hK hP hD hS 0 rfl rfl 0 (by decide) (hts (.fieldLink RX5 58 "VeiledFilesModel" "thrown" "I") (by decide +kernel)) (fun _ h9 => h9) rfl (by decide +kernel) rfl rfl (Nat.le_of_ble_eq_true rfl) dX5_create_2 (fun H locs hP hD hS => ?_)
  have hP : va_P D vwCl (wM cI cZ cJ mo se co ou le wo ma pl tl tm th na si pa ta 0 G ky DE cn got S0 C0 O0 L0 W0 S1 C1 O1 L1 W1 MP PL ML DL TH NM SZ PT TK) _ := hP
  have hD : va_D A (wM cI cZ cJ mo se co ou le wo ma pl tl tm th na si pa ta 0 G ky DE cn got S0 C0 O0 L0 W0 S1 C1 O1 L1 W1 MP PL ML DL TH NM SZ PT TK) := hD
  refine lv_aload_n hx hb dX5_create_5 rfl (lv_at hl 0 rfl) ?_
  refine lv_lload_n hx hb dX5_create_6 rfl (lv_at hl 1 rfl) ?_
  refine k_vi (As := [.long x]) (rest := []) (w2 := fun u : Unit => (wM cI cZ cJ mo se co ou le wo ma pl tl tm th na si pa ta 0 G ky DE cn got S0 C0 O0 L0 W0 S1 C1 O1 L1 W1 MP PL ML DL TH NM SZ PT TK)) ⟨hx, hb, hml, hown, hts⟩ (c_m_named l D cI cZ cJ mo se co ou le wo ma pl tl tm th na si pa ta 0 G ky DE cn got S0 C0 O0 L0 W0 S1 C1 O1 L1 W1 MP PL ML DL TH NM SZ PT TK x) (cwV 1 hts gX5_create_X5_named rfl rfl rfl (by decide +kernel) ⟨Nat.le_of_ble_eq_true rfl, Nat.le_of_ble_eq_true rfl⟩) hP hD hK hS hA [0, 1, 2, 3, 4, 5, 6, 7, 8, 9, 10, 11, 12, 13, 14] [] [0, 1, 2, 3, 4, 5, 6, 7, 8, 9, 10, 11, 12, 13, 14] rfl rfl (by decide) (fun u => rfl) rfl rfl (q0 := 0) rfl rfl hl.1 rfl (Nat.le_of_ble_eq_true rfl) dX5_create_7 ⟨Nat.le_of_ble_eq_true rfl, Nat.le_of_ble_eq_true rfl⟩ (fun r u H locs hu1 hP hD hS => ?_)
  refine k_t1 (show r = idx8 8 (nmQ TH NM x) from hu1) ?_
  refine lv_iconst (v := -1) hx hb dX5_create_10 (by decide) ?_
  refine lv_icmp_eq (tgt := 16) hx hb dX5_create_11 (by decide) (fun c1 => ?_) (fun c1 => ?_)
  · skip
    have h2 : ¬ nmQ TH NM x < 8 := fun q => nI_m1 (n := nmQ TH NM x) (by omega) (by rw [← idx8_y q]; exact c1)
    refine lv_iconst (v := nI 0) hx hb dX5_create_16 (by decide) ?_
    refine lv_istore_n (lv' := [(3, .int (nI 0)), (0, .ref mo), (1, .long x)]) hx hb dX5_create_17 rfl hl (by decide) rfl (fun ls hl => ?_)
    have L1l : ∀ (nf q : Nat) (hvL1l : q ≤ 8) (hFL1l : 8 - q < nf) (hq : ∀ j, j < q → ¬ TH j = 0) (H : Heap) (locs : List Loc) (ls : Array Slot), va_P D vwCl (wM cI cZ cJ mo se co ou le wo ma pl tl tm th na si pa ta 0 G ky DE cn got S0 C0 O0 L0 W0 S1 C1 O1 L1 W1 MP PL ML DL TH NM SZ PT TK) H → va_D A (wM cI cZ cJ mo se co ou le wo ma pl tl tm th na si pa ta 0 G ky DE cn got S0 C0 O0 L0 W0 S1 C1 O1 L1 W1 MP PL ML DL TH NM SZ PT TK) → va_S A s.heap H locs → lv_has ls 4 [(0, .ref mo), (1, .long x), (3, .int (nI q))] → W p l e ({ frames := 1, cells := 0, slots := 0, locals := 23 } : Room) s m args below meth c H locs 0 0 Q (F0 m 18 ls []) := by
      intro nf
      induction nf with
      | zero => intro q  hvL1l hFL1l; omega
      | succ nf ihL1l =>
        intro q  hvL1l hFL1l hq H locs ls hP hD hS hl
        refine lv_iload_n hx hb dX5_create_18 rfl (lv_at hl 2 rfl) ?_
        refine lv_bipush (v := nI 8) hx hb dX5_create_19 (by decide) ?_
        refine k_icmp_ge (tgt := 39) hx hb (by omega) (by omega) dX5_create_21 (by decide) (fun c2 => ?_) (fun c2 => ?_)
        · skip
          obtain rfl : q = 8 := by omega
          refine lv_iload_n hx hb dX5_create_39 rfl (lv_at hl 2 rfl) ?_
          refine lv_bipush (v := nI 8) hx hb dX5_create_40 (by decide) ?_
          refine k_icmp_ne (tgt := 47) hx hb (by omega) (by omega) dX5_create_42 (by decide) (fun c3 => ?_) (fun c3 => ?_)
          · skip
            exact absurd rfl c3
          · skip
            have hfr : frQ TH 8 = 8 := frQ_no hq
            have hok : ¬ adOk TH NM x = true := by simp [adOk, hfr]
            have hret : (-1 : Int32) = adR TH NM x := (if_neg hok).symm
            have hE2 : (wM cI cZ cJ mo se co ou le wo ma pl tl tm th na si pa ta 0 G ky DE cn got S0 C0 O0 L0 W0 S1 C1 O1 L1 W1 MP PL ML DL TH NM SZ PT TK) = (wM cI cZ cJ mo se co ou le wo ma pl tl tm th na si pa ta 0 G ky DE cn got S0 C0 O0 L0 W0 S1 C1 O1 L1 W1 MP PL ML DL TH (adNM TH NM x) SZ PT TK) := by rw [show adNM TH NM x = NM from if_neg hok]
            rw [hE2] at hP hD
            have hE3 : (wM cI cZ cJ mo se co ou le wo ma pl tl tm th na si pa ta 0 G ky DE cn got S0 C0 O0 L0 W0 S1 C1 O1 L1 W1 MP PL ML DL TH (adNM TH NM x) SZ PT TK) = (wM cI cZ cJ mo se co ou le wo ma pl tl tm th na si pa ta 0 G ky DE cn got S0 C0 O0 L0 W0 S1 C1 O1 L1 W1 MP PL ML DL TH (adNM TH NM x) (adSZ TH NM SZ x) PT TK) := by rw [show adSZ TH NM SZ x = SZ from if_neg hok]
            rw [hE3] at hP hD
            have hE4 : (wM cI cZ cJ mo se co ou le wo ma pl tl tm th na si pa ta 0 G ky DE cn got S0 C0 O0 L0 W0 S1 C1 O1 L1 W1 MP PL ML DL TH (adNM TH NM x) (adSZ TH NM SZ x) PT TK) = (wM cI cZ cJ mo se co ou le wo ma pl tl tm th na si pa ta 0 G ky DE cn got S0 C0 O0 L0 W0 S1 C1 O1 L1 W1 MP PL ML DL (adTH TH NM x) (adNM TH NM x) (adSZ TH NM SZ x) PT TK) := by rw [show adTH TH NM x = TH from if_neg hok]
            rw [hE4] at hP hD
            refine lv_iconst (v := -1) hx hb dX5_create_45 (by decide) ?_
            exact k_reti () hx hb hr hK hS hlk dX5_create_46 hP hD (by exact hret) hQ
        · skip
          refine lv_aload_n hx hb dX5_create_24 rfl (lv_at hl 0 rfl) ?_
          refine va_get (D := D) (ci := 5) (v := .ref th) (C := RX5) (T := TX5) (N := 20) hx hb hts (by decide +kernel) hown hK hP 0 rfl rfl 14 (by decide) (hts (.fieldLink RX5 38 "VeiledFilesModel" "there" "[Z") (by decide +kernel)) (fun _ h9 => h9) rfl dX5_create_25 ?_
          refine lv_iload_n hx hb dX5_create_28 rfl (lv_at hl 2 rfl) ?_
          refine k_zald hx hb hK hP 10 1 rfl rfl q (by omega) (by omega) (v := TH q) (rfl) dX5_create_29 ?_
          refine lv_if_eq (tgt := 39) hx hb dX5_create_30 (by decide) (fun c3 => ?_) (fun c3 => ?_)
          · skip
            have hfr : frQ TH 8 = q := frQ_at c2 c3 hq
            have hok : adOk TH NM x = true := by simp [adOk, hfr, c2, h2]
            refine lv_iload_n hx hb dX5_create_39 rfl (lv_at hl 2 rfl) ?_
            refine lv_bipush (v := nI 8) hx hb dX5_create_40 (by decide) ?_
            refine k_icmp_ne (tgt := 47) hx hb (by omega) (by omega) dX5_create_42 (by decide) (fun c4 => ?_) (fun c4 => ?_)
            · skip
              refine lv_aload_n hx hb dX5_create_47 rfl (lv_at hl 0 rfl) ?_
              refine va_get (D := D) (ci := 5) (v := .ref th) (C := RX5) (T := TX5) (N := 20) hx hb hts (by decide +kernel) hown hK hP 0 rfl rfl 14 (by decide) (hts (.fieldLink RX5 38 "VeiledFilesModel" "there" "[Z") (by decide +kernel)) (fun _ h9 => h9) rfl dX5_create_48 ?_
              refine lv_iload_n hx hb dX5_create_51 rfl (lv_at hl 2 rfl) ?_
              refine lv_iconst (v := nI 1) hx hb dX5_create_52 (by decide) ?_
              refine k_zast hx hb hK hP hD hS 10 1 rfl rfl q (by omega) (by omega) (g := (upd TH q 1)) (rfl) (by first | rfl | decide) dX5_create_53 (fun H locs hP hD hS => ?_)
              have hP : va_P D vwCl (wM cI cZ cJ mo se co ou le wo ma pl tl tm th na si pa ta 0 G ky DE cn got S0 C0 O0 L0 W0 S1 C1 O1 L1 W1 MP PL ML DL (upd TH q 1) NM SZ PT TK) _ := hP
              have hD : va_D A (wM cI cZ cJ mo se co ou le wo ma pl tl tm th na si pa ta 0 G ky DE cn got S0 C0 O0 L0 W0 S1 C1 O1 L1 W1 MP PL ML DL (upd TH q 1) NM SZ PT TK) := hD
              refine lv_aload_n hx hb dX5_create_54 rfl (lv_at hl 0 rfl) ?_
              refine va_get (D := D) (ci := 5) (v := .ref na) (C := RX5) (T := TX5) (N := 20) hx hb hts (by decide +kernel) hown hK hP 0 rfl rfl 15 (by decide) (hts (.fieldLink RX5 41 "VeiledFilesModel" "name" "[J") (by decide +kernel)) (fun _ h9 => h9) rfl dX5_create_55 ?_
              refine lv_iload_n hx hb dX5_create_58 rfl (lv_at hl 2 rfl) ?_
              refine lv_lload_n hx hb dX5_create_59 rfl (lv_at hl 1 rfl) ?_
              refine k_last hx hb hK hP hD hS 11 2 rfl rfl q (by omega) (by omega) (g := (vp_updL NM q x)) (rfl) dX5_create_60 (fun H locs hP hD hS => ?_)
              have hP : va_P D vwCl (wM cI cZ cJ mo se co ou le wo ma pl tl tm th na si pa ta 0 G ky DE cn got S0 C0 O0 L0 W0 S1 C1 O1 L1 W1 MP PL ML DL (upd TH q 1) (vp_updL NM q x) SZ PT TK) _ := hP
              have hD : va_D A (wM cI cZ cJ mo se co ou le wo ma pl tl tm th na si pa ta 0 G ky DE cn got S0 C0 O0 L0 W0 S1 C1 O1 L1 W1 MP PL ML DL (upd TH q 1) (vp_updL NM q x) SZ PT TK) := hD
              refine lv_aload_n hx hb dX5_create_61 rfl (lv_at hl 0 rfl) ?_
              refine va_get (D := D) (ci := 5) (v := .ref si) (C := RX5) (T := TX5) (N := 20) hx hb hts (by decide +kernel) hown hK hP 0 rfl rfl 16 (by decide) (hts (.fieldLink RX5 45 "VeiledFilesModel" "size" "[I") (by decide +kernel)) (fun _ h9 => h9) rfl dX5_create_62 ?_
              refine lv_iload_n hx hb dX5_create_65 rfl (lv_at hl 2 rfl) ?_
              refine lv_iconst (v := nI 0) hx hb dX5_create_66 (by decide) ?_
              refine k_iast hx hb hK hP hD hS 12 0 rfl rfl q (by omega) (by omega) (g := nIf (upN SZ q 0)) (nIf_up) dX5_create_67 (fun H locs hP hD hS => ?_)
              have hP : va_P D vwCl (wM cI cZ cJ mo se co ou le wo ma pl tl tm th na si pa ta 0 G ky DE cn got S0 C0 O0 L0 W0 S1 C1 O1 L1 W1 MP PL ML DL (upd TH q 1) (vp_updL NM q x) (upN SZ q 0) PT TK) _ := hP
              have hD : va_D A (wM cI cZ cJ mo se co ou le wo ma pl tl tm th na si pa ta 0 G ky DE cn got S0 C0 O0 L0 W0 S1 C1 O1 L1 W1 MP PL ML DL (upd TH q 1) (vp_updL NM q x) (upN SZ q 0) PT TK) := hD
              have hret : nI q = adR TH NM x := by rw [← hfr]; exact (if_pos hok).symm
              have hE5 : (wM cI cZ cJ mo se co ou le wo ma pl tl tm th na si pa ta 0 G ky DE cn got S0 C0 O0 L0 W0 S1 C1 O1 L1 W1 MP PL ML DL (upd TH q 1) (vp_updL NM q x) (upN SZ q 0) PT TK) = (wM cI cZ cJ mo se co ou le wo ma pl tl tm th na si pa ta 0 G ky DE cn got S0 C0 O0 L0 W0 S1 C1 O1 L1 W1 MP PL ML DL (upd TH q 1) (adNM TH NM x) (upN SZ q 0) PT TK) := by rw [show adNM TH NM x = vp_updL NM q x from by rw [← hfr]; exact if_pos hok]
              rw [hE5] at hP hD
              have hE6 : (wM cI cZ cJ mo se co ou le wo ma pl tl tm th na si pa ta 0 G ky DE cn got S0 C0 O0 L0 W0 S1 C1 O1 L1 W1 MP PL ML DL (upd TH q 1) (adNM TH NM x) (upN SZ q 0) PT TK) = (wM cI cZ cJ mo se co ou le wo ma pl tl tm th na si pa ta 0 G ky DE cn got S0 C0 O0 L0 W0 S1 C1 O1 L1 W1 MP PL ML DL (upd TH q 1) (adNM TH NM x) (adSZ TH NM SZ x) PT TK) := by rw [show adSZ TH NM SZ x = upN SZ q 0 from by rw [← hfr]; exact if_pos hok]
              rw [hE6] at hP hD
              have hE7 : (wM cI cZ cJ mo se co ou le wo ma pl tl tm th na si pa ta 0 G ky DE cn got S0 C0 O0 L0 W0 S1 C1 O1 L1 W1 MP PL ML DL (upd TH q 1) (adNM TH NM x) (adSZ TH NM SZ x) PT TK) = (wM cI cZ cJ mo se co ou le wo ma pl tl tm th na si pa ta 0 G ky DE cn got S0 C0 O0 L0 W0 S1 C1 O1 L1 W1 MP PL ML DL (adTH TH NM x) (adNM TH NM x) (adSZ TH NM SZ x) PT TK) := by rw [show adTH TH NM x = upd TH q 1 from by rw [← hfr]; exact if_pos hok]
              rw [hE7] at hP hD
              refine lv_iload_n hx hb dX5_create_68 rfl (lv_at hl 2 rfl) ?_
              exact k_reti () hx hb hr hK hS hlk dX5_create_69 hP hD (by exact hret) hQ
            · skip
              omega
          · skip
            refine lv_iinc (v := nI (q + 1)) (lv' := [(3, .int (nI (q + 1))), (0, .ref mo), (1, .long x)]) hx hb dX5_create_33 hl (k := 2) rfl (nI_add q 1) (by decide) rfl (fun ls hl => ?_)
            refine lv_goto (tgt := 18) hx hb dX5_create_36 (by decide) ?_
            exact ihL1l (q + 1)  (by omega) (by omega) (fun j hj => by rcases Nat.lt_succ_iff_lt_or_eq.mp hj with h | rfl; exact hq j h; exact c3) _ _ _ hP hD hS (lv_sub hl [1, 2, 0] rfl)
    exact L1l (8 + 1) 0  (by omega) (by omega) (fun j hj => absurd hj (by omega)) _ _ _ hP hD hS (lv_sub hl [1, 2, 0] rfl)
  · skip
    have h2 : nmQ TH NM x < 8 := Classical.byContradiction fun q => c1 (idx8_n q)
    have hok : ¬ adOk TH NM x = true := by simp [adOk, h2]
    have hret : (-1 : Int32) = adR TH NM x := (if_neg hok).symm
    have hE8 : (wM cI cZ cJ mo se co ou le wo ma pl tl tm th na si pa ta 0 G ky DE cn got S0 C0 O0 L0 W0 S1 C1 O1 L1 W1 MP PL ML DL TH NM SZ PT TK) = (wM cI cZ cJ mo se co ou le wo ma pl tl tm th na si pa ta 0 G ky DE cn got S0 C0 O0 L0 W0 S1 C1 O1 L1 W1 MP PL ML DL TH (adNM TH NM x) SZ PT TK) := by rw [show adNM TH NM x = NM from if_neg hok]
    rw [hE8] at hP hD
    have hE9 : (wM cI cZ cJ mo se co ou le wo ma pl tl tm th na si pa ta 0 G ky DE cn got S0 C0 O0 L0 W0 S1 C1 O1 L1 W1 MP PL ML DL TH (adNM TH NM x) SZ PT TK) = (wM cI cZ cJ mo se co ou le wo ma pl tl tm th na si pa ta 0 G ky DE cn got S0 C0 O0 L0 W0 S1 C1 O1 L1 W1 MP PL ML DL TH (adNM TH NM x) (adSZ TH NM SZ x) PT TK) := by rw [show adSZ TH NM SZ x = SZ from if_neg hok]
    rw [hE9] at hP hD
    have hE10 : (wM cI cZ cJ mo se co ou le wo ma pl tl tm th na si pa ta 0 G ky DE cn got S0 C0 O0 L0 W0 S1 C1 O1 L1 W1 MP PL ML DL TH (adNM TH NM x) (adSZ TH NM SZ x) PT TK) = (wM cI cZ cJ mo se co ou le wo ma pl tl tm th na si pa ta 0 G ky DE cn got S0 C0 O0 L0 W0 S1 C1 O1 L1 W1 MP PL ML DL (adTH TH NM x) (adNM TH NM x) (adSZ TH NM SZ x) PT TK) := by rw [show adTH TH NM x = TH from if_neg hok]
    rw [hE10] at hP hD
    refine lv_iconst (v := -1) hx hb dX5_create_14 (by decide) ?_
    exact k_reti () hx hb hr hK hS hlk dX5_create_15 hP hD (by exact hret) hQ

set_option maxHeartbeats 800000 in
set_option maxRecDepth 100000 in
theorem c_m_find (l : Launch) (D : va_G) (cI cZ cJ : ClassId) (mo : Nat) (se : Nat) (co : Nat) (ou : Nat) (le : Nat) (wo : Nat) (ma : Nat) (pl : Nat) (tl : Nat) (tm : Nat) (th : Nat) (na : Nat) (si : Nat) (pa : Nat) (ta : Nat) (thr : Int32) (G : Int32) (ky : Int32) (DE : Int32) (cn : Nat) (got : Int32) (S0 : Nat → Nat → Int32) (C0 : Nat → Int32) (O0 : Nat → Int32) (L0 : Nat → Int32) (W0 : Nat → Nat → Int32) (S1 : Nat → Nat → Int32) (C1 : Nat → Int32) (O1 : Nat → Int32) (L1 : Nat → Int32) (W1 : Nat → Nat → Int32) (MP : Nat → Nat) (PL : Nat → Int32) (ML : Nat → Int32) (DL : Nat → Int32) (TH : Nat → Int32) (NM : Nat → Int64) (SZ : Nat → Nat) (PT : Nat → Nat) (TK : Nat → Int32) (x : Int64)  : KI l yX5_find wsX5_find ({ frames := 1, cells := 0, slots := 0, locals := 23 }) D (kty cI cZ cJ) [.ref mo, .long x] (wM cI cZ cJ mo se co ou le wo ma pl tl tm th na si pa ta thr G ky DE cn got S0 C0 O0 L0 W0 S1 C1 O1 L1 W1 MP PL ML DL TH NM SZ PT TK) (fun r (_ : Unit) => r = idx8 8 (nmQ TH NM x)) (fun _ : Unit => (wM cI cZ cJ mo se co ou le wo ma pl tl tm th na si pa ta 0 G ky DE cn got S0 C0 O0 L0 W0 S1 C1 O1 L1 W1 MP PL ML DL TH NM SZ PT TK)) 0 0 := by
  refine k_headI (cc := cX5_find) (maxL := 3) (ret := (some .int)) (by decide) rfl (Nat.le_of_ble_eq_true rfl) ?_
  intro p e s m below meth c A ls args Q hx hb hr hml hts hown hlk hnm hA hK hP hD hS hl hQ
  have hl : lv_has ls 3 [(0, .ref mo), (1, .long x)] := hl
  refine lv_aload_n hx hb dX5_find_0 rfl (lv_at hl 0 rfl) ?_
  refine lv_iconst (v := nI 0) hx hb dX5_find_1 (by decide) ?_
  refine va_put (D := D) (ci := 5) (v := .int (nI 0)) (ty := .int) (C := RX5) (T := TX5) (N := 20) hx hb hts (by decide +kernel) tyX5 tyX5_ok nmX5 hown hK hP hD hS 0 rfl rfl 0 (by decide) (hts (.fieldLink RX5 58 "VeiledFilesModel" "thrown" "I") (by decide +kernel)) (fun _ h9 => h9) rfl (by decide +kernel) rfl rfl (Nat.le_of_ble_eq_true rfl) dX5_find_2 (fun H locs hP hD hS => ?_)
  have hP : va_P D vwCl (wM cI cZ cJ mo se co ou le wo ma pl tl tm th na si pa ta 0 G ky DE cn got S0 C0 O0 L0 W0 S1 C1 O1 L1 W1 MP PL ML DL TH NM SZ PT TK) _ := hP
  have hD : va_D A (wM cI cZ cJ mo se co ou le wo ma pl tl tm th na si pa ta 0 G ky DE cn got S0 C0 O0 L0 W0 S1 C1 O1 L1 W1 MP PL ML DL TH NM SZ PT TK) := hD
  refine lv_aload_n hx hb dX5_find_5 rfl (lv_at hl 0 rfl) ?_
  refine lv_lload_n hx hb dX5_find_6 rfl (lv_at hl 1 rfl) ?_
  refine k_vi (As := [.long x]) (rest := []) (w2 := fun u : Unit => (wM cI cZ cJ mo se co ou le wo ma pl tl tm th na si pa ta 0 G ky DE cn got S0 C0 O0 L0 W0 S1 C1 O1 L1 W1 MP PL ML DL TH NM SZ PT TK)) ⟨hx, hb, hml, hown, hts⟩ (c_m_named l D cI cZ cJ mo se co ou le wo ma pl tl tm th na si pa ta 0 G ky DE cn got S0 C0 O0 L0 W0 S1 C1 O1 L1 W1 MP PL ML DL TH NM SZ PT TK x) (cwV 1 hts gX5_find_X5_named rfl rfl rfl (by decide +kernel) ⟨Nat.le_of_ble_eq_true rfl, Nat.le_of_ble_eq_true rfl⟩) hP hD hK hS hA [0, 1, 2, 3, 4, 5, 6, 7, 8, 9, 10, 11, 12, 13, 14] [] [0, 1, 2, 3, 4, 5, 6, 7, 8, 9, 10, 11, 12, 13, 14] rfl rfl (by decide) (fun u => rfl) rfl rfl (q0 := 0) rfl rfl hl.1 rfl (Nat.le_of_ble_eq_true rfl) dX5_find_7 ⟨Nat.le_of_ble_eq_true rfl, Nat.le_of_ble_eq_true rfl⟩ (fun r u H locs hu1 hP hD hS => ?_)
  refine k_t1 (show r = idx8 8 (nmQ TH NM x) from hu1) ?_
  exact k_reti () hx hb hr hK hS hlk dX5_find_10 hP hD (by exact rfl) hQ

set_option maxHeartbeats 800000 in
set_option maxRecDepth 100000 in
theorem c_m_remove_n (l : Launch) (D : va_G) (cI cZ cJ : ClassId) (mo : Nat) (se : Nat) (co : Nat) (ou : Nat) (le : Nat) (wo : Nat) (ma : Nat) (pl : Nat) (tl : Nat) (tm : Nat) (th : Nat) (na : Nat) (si : Nat) (pa : Nat) (ta : Nat) (thr : Int32) (G : Int32) (ky : Int32) (DE : Int32) (cn : Nat) (got : Int32) (S0 : Nat → Nat → Int32) (C0 : Nat → Int32) (O0 : Nat → Int32) (L0 : Nat → Int32) (W0 : Nat → Nat → Int32) (S1 : Nat → Nat → Int32) (C1 : Nat → Int32) (O1 : Nat → Int32) (L1 : Nat → Int32) (W1 : Nat → Nat → Int32) (MP : Nat → Nat) (PL : Nat → Int32) (ML : Nat → Int32) (DL : Nat → Int32) (TH : Nat → Int32) (NM : Nat → Int64) (SZ : Nat → Nat) (PT : Nat → Nat) (TK : Nat → Int32) (x : Int32) (hf : notF TH x) : KI l yX5_remove wsX5_remove ({ frames := 1, cells := 0, slots := 0, locals := 21 }) D (kty cI cZ cJ) [.ref mo, .int x] (wM cI cZ cJ mo se co ou le wo ma pl tl tm th na si pa ta thr G ky DE cn got S0 C0 O0 L0 W0 S1 C1 O1 L1 W1 MP PL ML DL TH NM SZ PT TK) (fun r (_ : Unit) => r = 0) (fun _ : Unit => (wM cI cZ cJ mo se co ou le wo ma pl tl tm th na si pa ta 0 G ky DE cn got S0 C0 O0 L0 W0 S1 C1 O1 L1 W1 MP PL ML DL TH NM SZ PT TK)) 0 0 := by
  refine k_headI (cc := cX5_remove) (maxL := 3) (ret := (some .boolean)) (by decide) rfl (Nat.le_of_ble_eq_true rfl) ?_
  intro p e s m below meth c A ls args Q hx hb hr hml hts hown hlk hnm hA hK hP hD hS hl hQ
  have hl : lv_has ls 3 [(0, .ref mo), (1, .int x)] := hl
  refine lv_aload_n hx hb dX5_remove_0 rfl (lv_at hl 0 rfl) ?_
  refine lv_iconst (v := nI 0) hx hb dX5_remove_1 (by decide) ?_
  refine va_put (D := D) (ci := 5) (v := .int (nI 0)) (ty := .int) (C := RX5) (T := TX5) (N := 20) hx hb hts (by decide +kernel) tyX5 tyX5_ok nmX5 hown hK hP hD hS 0 rfl rfl 0 (by decide) (hts (.fieldLink RX5 58 "VeiledFilesModel" "thrown" "I") (by decide +kernel)) (fun _ h9 => h9) rfl (by decide +kernel) rfl rfl (Nat.le_of_ble_eq_true rfl) dX5_remove_2 (fun H locs hP hD hS => ?_)
  have hP : va_P D vwCl (wM cI cZ cJ mo se co ou le wo ma pl tl tm th na si pa ta 0 G ky DE cn got S0 C0 O0 L0 W0 S1 C1 O1 L1 W1 MP PL ML DL TH NM SZ PT TK) _ := hP
  have hD : va_D A (wM cI cZ cJ mo se co ou le wo ma pl tl tm th na si pa ta 0 G ky DE cn got S0 C0 O0 L0 W0 S1 C1 O1 L1 W1 MP PL ML DL TH NM SZ PT TK) := hD
  refine lv_aload_n hx hb dX5_remove_5 rfl (lv_at hl 0 rfl) ?_
  refine lv_iload_n hx hb dX5_remove_6 rfl (lv_at hl 1 rfl) ?_
  refine k_vi (As := [.int x]) (rest := []) (w2 := fun u : Unit => (wM cI cZ cJ mo se co ou le wo ma pl tl tm th na si pa ta 0 G ky DE cn got S0 C0 O0 L0 W0 S1 C1 O1 L1 W1 MP PL ML DL TH NM SZ PT TK)) ⟨hx, hb, hml, hown, hts⟩ (c_m_isFile_n l D cI cZ cJ mo se co ou le wo ma pl tl tm th na si pa ta 0 G ky DE cn got S0 C0 O0 L0 W0 S1 C1 O1 L1 W1 MP PL ML DL TH NM SZ PT TK x hf) (cwV 1 hts gX5_remove_X5_isFile rfl rfl rfl (by decide +kernel) ⟨Nat.le_of_ble_eq_true rfl, Nat.le_of_ble_eq_true rfl⟩) hP hD hK hS hA [0, 1, 2, 3, 4, 5, 6, 7, 8, 9, 10, 11, 12, 13, 14] [] [0, 1, 2, 3, 4, 5, 6, 7, 8, 9, 10, 11, 12, 13, 14] rfl rfl (by decide) (fun u => rfl) rfl rfl (q0 := 0) rfl rfl hl.1 rfl (Nat.le_of_ble_eq_true rfl) dX5_remove_7 ⟨Nat.le_of_ble_eq_true rfl, Nat.le_of_ble_eq_true rfl⟩ (fun r u H locs hu1 hP hD hS => ?_)
  refine k_t1 (show r = 0 from hu1) ?_
  refine lv_if_ne (tgt := 15) hx hb dX5_remove_10 (by decide) (fun c1 => ?_) (fun c1 => ?_)
  · skip
    exact absurd rfl c1
  · skip
    refine lv_iconst (v := nI 0) hx hb dX5_remove_13 (by decide) ?_
    exact k_retz () hx hb hr hK hS hlk dX5_remove_14 ((by first | exact Or.inl rfl | exact Or.inr rfl)) hP hD (by exact rfl) hQ

set_option maxHeartbeats 800000 in
set_option maxRecDepth 100000 in
theorem c_m_remove_y (l : Launch) (D : va_G) (cI cZ cJ : ClassId) (mo : Nat) (se : Nat) (co : Nat) (ou : Nat) (le : Nat) (wo : Nat) (ma : Nat) (pl : Nat) (tl : Nat) (tm : Nat) (th : Nat) (na : Nat) (si : Nat) (pa : Nat) (ta : Nat) (thr : Int32) (G : Int32) (ky : Int32) (DE : Int32) (cn : Nat) (got : Int32) (S0 : Nat → Nat → Int32) (C0 : Nat → Int32) (O0 : Nat → Int32) (L0 : Nat → Int32) (W0 : Nat → Nat → Int32) (S1 : Nat → Nat → Int32) (C1 : Nat → Int32) (O1 : Nat → Int32) (L1 : Nat → Int32) (W1 : Nat → Nat → Int32) (MP : Nat → Nat) (PL : Nat → Int32) (ML : Nat → Int32) (DL : Nat → Int32) (TH : Nat → Int32) (NM : Nat → Int64) (SZ : Nat → Nat) (PT : Nat → Nat) (TK : Nat → Int32) (f : Nat) (hf : f < 8) (ht : ¬ TH f = 0) (hs : SZ f ≤ 24) (hPT : ∀ k, PT k < 64) : KI l yX5_remove wsX5_remove ({ frames := 1, cells := 0, slots := 0, locals := 21 }) D (kty cI cZ cJ) [.ref mo, .int (nI f)] (wM cI cZ cJ mo se co ou le wo ma pl tl tm th na si pa ta thr G ky DE cn got S0 C0 O0 L0 W0 S1 C1 O1 L1 W1 MP PL ML DL TH NM SZ PT TK) (fun r (_ : Unit) => r = 1) (fun _ : Unit => (wM cI cZ cJ mo se co ou le wo ma pl tl tm th na si pa ta 0 G ky DE cn got S0 C0 O0 L0 W0 S1 C1 O1 L1 W1 MP PL ML DL (upd TH f 0) NM SZ PT (drK PT f TK ((SZ f + 3) / 4)))) 0 0 := by
  refine k_headI (cc := cX5_remove) (maxL := 3) (ret := (some .boolean)) (by decide) rfl (Nat.le_of_ble_eq_true rfl) ?_
  intro p e s m below meth c A ls args Q hx hb hr hml hts hown hlk hnm hA hK hP hD hS hl hQ
  have hl : lv_has ls 3 [(0, .ref mo), (1, .int (nI f))] := hl
  refine lv_aload_n hx hb dX5_remove_0 rfl (lv_at hl 0 rfl) ?_
  refine lv_iconst (v := nI 0) hx hb dX5_remove_1 (by decide) ?_
  refine va_put (D := D) (ci := 5) (v := .int (nI 0)) (ty := .int) (C := RX5) (T := TX5) (N := 20) hx hb hts (by decide +kernel) tyX5 tyX5_ok nmX5 hown hK hP hD hS 0 rfl rfl 0 (by decide) (hts (.fieldLink RX5 58 "VeiledFilesModel" "thrown" "I") (by decide +kernel)) (fun _ h9 => h9) rfl (by decide +kernel) rfl rfl (Nat.le_of_ble_eq_true rfl) dX5_remove_2 (fun H locs hP hD hS => ?_)
  have hP : va_P D vwCl (wM cI cZ cJ mo se co ou le wo ma pl tl tm th na si pa ta 0 G ky DE cn got S0 C0 O0 L0 W0 S1 C1 O1 L1 W1 MP PL ML DL TH NM SZ PT TK) _ := hP
  have hD : va_D A (wM cI cZ cJ mo se co ou le wo ma pl tl tm th na si pa ta 0 G ky DE cn got S0 C0 O0 L0 W0 S1 C1 O1 L1 W1 MP PL ML DL TH NM SZ PT TK) := hD
  refine lv_aload_n hx hb dX5_remove_5 rfl (lv_at hl 0 rfl) ?_
  refine lv_iload_n hx hb dX5_remove_6 rfl (lv_at hl 1 rfl) ?_
  refine k_vi (As := [.int (nI f)]) (rest := []) (w2 := fun u : Unit => (wM cI cZ cJ mo se co ou le wo ma pl tl tm th na si pa ta 0 G ky DE cn got S0 C0 O0 L0 W0 S1 C1 O1 L1 W1 MP PL ML DL TH NM SZ PT TK)) ⟨hx, hb, hml, hown, hts⟩ (c_m_isFile_y l D cI cZ cJ mo se co ou le wo ma pl tl tm th na si pa ta 0 G ky DE cn got S0 C0 O0 L0 W0 S1 C1 O1 L1 W1 MP PL ML DL TH NM SZ PT TK f hf ht) (cwV 1 hts gX5_remove_X5_isFile rfl rfl rfl (by decide +kernel) ⟨Nat.le_of_ble_eq_true rfl, Nat.le_of_ble_eq_true rfl⟩) hP hD hK hS hA [0, 1, 2, 3, 4, 5, 6, 7, 8, 9, 10, 11, 12, 13, 14] [] [0, 1, 2, 3, 4, 5, 6, 7, 8, 9, 10, 11, 12, 13, 14] rfl rfl (by decide) (fun u => rfl) rfl rfl (q0 := 0) rfl rfl hl.1 rfl (Nat.le_of_ble_eq_true rfl) dX5_remove_7 ⟨Nat.le_of_ble_eq_true rfl, Nat.le_of_ble_eq_true rfl⟩ (fun r u H locs hu1 hP hD hS => ?_)
  refine k_t1 (show r = 1 from hu1) ?_
  refine lv_if_ne (tgt := 15) hx hb dX5_remove_10 (by decide) (fun c1 => ?_) (fun c1 => ?_)
  · skip
    refine lv_iconst (v := nI 0) hx hb dX5_remove_15 (by decide) ?_
    refine lv_istore_n (lv' := [(2, .int (nI 0)), (0, .ref mo), (1, .int (nI f))]) hx hb dX5_remove_16 rfl hl (by decide) rfl (fun ls hl => ?_)
    have L1l : ∀ (nf pp : Nat) (hvL1l : pp ≤ (SZ f + 3) / 4) (hFL1l : (SZ f + 3) / 4 - pp < nf) (H : Heap) (locs : List Loc) (ls : Array Slot), va_P D vwCl (wM cI cZ cJ mo se co ou le wo ma pl tl tm th na si pa ta 0 G ky DE cn got S0 C0 O0 L0 W0 S1 C1 O1 L1 W1 MP PL ML DL TH NM SZ PT (drK PT f TK pp)) H → va_D A (wM cI cZ cJ mo se co ou le wo ma pl tl tm th na si pa ta 0 G ky DE cn got S0 C0 O0 L0 W0 S1 C1 O1 L1 W1 MP PL ML DL TH NM SZ PT (drK PT f TK pp)) → va_S A s.heap H locs → lv_has ls 3 [(0, .ref mo), (1, .int (nI f)), (2, .int (nI pp))] → W p l e ({ frames := 1, cells := 0, slots := 0, locals := 21 } : Room) s m args below meth c H locs 0 0 Q (F0 m 17 ls []) := by
      intro nf
      induction nf with
      | zero => intro pp  hvL1l hFL1l; omega
      | succ nf ihL1l =>
        intro pp  hvL1l hFL1l  H locs ls hP hD hS hl
        refine lv_iconst (v := nI 4) hx hb dX5_remove_17 (by decide) ?_
        refine lv_iload_n hx hb dX5_remove_18 rfl (lv_at hl 2 rfl) ?_
        refine lv_imul hx hb dX5_remove_19 ?_
        refine k_t1 (show (nI 4) * (nI pp) = nI (4 * pp) from pk_mul _ _) ?_
        refine lv_aload_n hx hb dX5_remove_20 rfl (lv_at hl 0 rfl) ?_
        refine va_get (D := D) (ci := 5) (v := .ref si) (C := RX5) (T := TX5) (N := 20) hx hb hts (by decide +kernel) hown hK hP 0 rfl rfl 16 (by decide) (hts (.fieldLink RX5 45 "VeiledFilesModel" "size" "[I") (by decide +kernel)) (fun _ h9 => h9) rfl dX5_remove_21 ?_
        refine lv_iload_n hx hb dX5_remove_24 rfl (lv_at hl 1 rfl) ?_
        refine k_iald hx hb hK hP 12 0 rfl rfl f (by omega) (by omega) (v := nI (SZ f)) (rfl) dX5_remove_25 ?_
        refine k_icmp_ge (tgt := 52) hx hb (by omega) (by omega) dX5_remove_26 (by decide) (fun c2 => ?_) (fun c2 => ?_)
        · skip
          have hpe : pp = (SZ f + 3) / 4 := by omega
          rw [hpe] at hP hD
          refine lv_aload_n hx hb dX5_remove_52 rfl (lv_at hl 0 rfl) ?_
          refine va_get (D := D) (ci := 5) (v := .ref th) (C := RX5) (T := TX5) (N := 20) hx hb hts (by decide +kernel) hown hK hP 0 rfl rfl 14 (by decide) (hts (.fieldLink RX5 38 "VeiledFilesModel" "there" "[Z") (by decide +kernel)) (fun _ h9 => h9) rfl dX5_remove_53 ?_
          refine lv_iload_n hx hb dX5_remove_56 rfl (lv_at hl 1 rfl) ?_
          refine lv_iconst (v := nI 0) hx hb dX5_remove_57 (by decide) ?_
          refine k_zast hx hb hK hP hD hS 10 1 rfl rfl f (by omega) (by omega) (g := (upd TH f 0)) (rfl) (by first | rfl | decide) dX5_remove_58 (fun H locs hP hD hS => ?_)
          have hP : va_P D vwCl (wM cI cZ cJ mo se co ou le wo ma pl tl tm th na si pa ta 0 G ky DE cn got S0 C0 O0 L0 W0 S1 C1 O1 L1 W1 MP PL ML DL (upd TH f 0) NM SZ PT (drK PT f TK ((SZ f + 3) / 4))) _ := hP
          have hD : va_D A (wM cI cZ cJ mo se co ou le wo ma pl tl tm th na si pa ta 0 G ky DE cn got S0 C0 O0 L0 W0 S1 C1 O1 L1 W1 MP PL ML DL (upd TH f 0) NM SZ PT (drK PT f TK ((SZ f + 3) / 4))) := hD
          refine lv_iconst (v := nI 1) hx hb dX5_remove_59 (by decide) ?_
          exact k_retz () hx hb hr hK hS hlk dX5_remove_60 ((by first | exact Or.inl rfl | exact Or.inr rfl)) hP hD (by exact rfl) hQ
        · skip
          have hpt := hPT (6 * f + pp)
          refine lv_aload_n hx hb dX5_remove_29 rfl (lv_at hl 0 rfl) ?_
          refine va_get (D := D) (ci := 5) (v := .ref ta) (C := RX5) (T := TX5) (N := 20) hx hb hts (by decide +kernel) hown hK hP 0 rfl rfl 18 (by decide) (hts (.fieldLink RX5 51 "VeiledFilesModel" "taken" "[Z") (by decide +kernel)) (fun _ h9 => h9) rfl dX5_remove_30 ?_
          refine lv_aload_n hx hb dX5_remove_33 rfl (lv_at hl 0 rfl) ?_
          refine va_get (D := D) (ci := 5) (v := .ref pa) (C := RX5) (T := TX5) (N := 20) hx hb hts (by decide +kernel) hown hK hP 0 rfl rfl 17 (by decide) (hts (.fieldLink RX5 48 "VeiledFilesModel" "part" "[I") (by decide +kernel)) (fun _ h9 => h9) rfl dX5_remove_34 ?_
          refine lv_bipush (v := nI 6) hx hb dX5_remove_37 (by decide) ?_
          refine lv_iload_n hx hb dX5_remove_39 rfl (lv_at hl 1 rfl) ?_
          refine lv_imul hx hb dX5_remove_40 ?_
          refine k_t1 (show (nI 6) * (nI f) = nI (6 * f) from pk_mul _ _) ?_
          refine lv_iload_n hx hb dX5_remove_41 rfl (lv_at hl 2 rfl) ?_
          refine lv_iadd hx hb dX5_remove_42 ?_
          refine k_t1 (show (nI (6 * f)) + (nI pp) = nI (6 * f + pp) from nI_add _ _) ?_
          refine k_iald hx hb hK hP 13 0 rfl rfl (6 * f + pp) (by omega) (by omega) (v := nI (PT (6 * f + pp))) (rfl) dX5_remove_43 ?_
          refine lv_iconst (v := nI 0) hx hb dX5_remove_44 (by decide) ?_
          refine k_zast hx hb hK hP hD hS 14 1 rfl rfl (PT (6 * f + pp)) (by omega) (by omega) (g := (drK PT f TK (pp + 1))) (drK_s) (by first | rfl | decide) dX5_remove_45 (fun H locs hP hD hS => ?_)
          have hP : va_P D vwCl (wM cI cZ cJ mo se co ou le wo ma pl tl tm th na si pa ta 0 G ky DE cn got S0 C0 O0 L0 W0 S1 C1 O1 L1 W1 MP PL ML DL TH NM SZ PT (drK PT f TK (pp + 1))) _ := hP
          have hD : va_D A (wM cI cZ cJ mo se co ou le wo ma pl tl tm th na si pa ta 0 G ky DE cn got S0 C0 O0 L0 W0 S1 C1 O1 L1 W1 MP PL ML DL TH NM SZ PT (drK PT f TK (pp + 1))) := hD
          refine lv_iinc (v := nI (pp + 1)) (lv' := [(2, .int (nI (pp + 1))), (0, .ref mo), (1, .int (nI f))]) hx hb dX5_remove_46 hl (k := 2) rfl (nI_add pp 1) (by decide) rfl (fun ls hl => ?_)
          refine lv_goto (tgt := 17) hx hb dX5_remove_49 (by decide) ?_
          exact ihL1l (pp + 1)  (by omega) (by omega)  _ _ _ hP hD hS (lv_sub hl [1, 2, 0] rfl)
    exact L1l ((SZ f + 3) / 4 + 1) 0  (by omega) (by omega)  _ _ _ hP hD hS (lv_sub hl [1, 2, 0] rfl)
  · skip
    exact absurd c1 (by decide)

set_option maxHeartbeats 800000 in
set_option maxRecDepth 100000 in
theorem c_m_size_n (l : Launch) (D : va_G) (cI cZ cJ : ClassId) (mo : Nat) (se : Nat) (co : Nat) (ou : Nat) (le : Nat) (wo : Nat) (ma : Nat) (pl : Nat) (tl : Nat) (tm : Nat) (th : Nat) (na : Nat) (si : Nat) (pa : Nat) (ta : Nat) (thr : Int32) (G : Int32) (ky : Int32) (DE : Int32) (cn : Nat) (got : Int32) (S0 : Nat → Nat → Int32) (C0 : Nat → Int32) (O0 : Nat → Int32) (L0 : Nat → Int32) (W0 : Nat → Nat → Int32) (S1 : Nat → Nat → Int32) (C1 : Nat → Int32) (O1 : Nat → Int32) (L1 : Nat → Int32) (W1 : Nat → Nat → Int32) (MP : Nat → Nat) (PL : Nat → Int32) (ML : Nat → Int32) (DL : Nat → Int32) (TH : Nat → Int32) (NM : Nat → Int64) (SZ : Nat → Nat) (PT : Nat → Nat) (TK : Nat → Int32) (x : Int32) (hf : notF TH x) : KI l yX5_size wsX5_size ({ frames := 1, cells := 0, slots := 0, locals := 21 }) D (kty cI cZ cJ) [.ref mo, .int x] (wM cI cZ cJ mo se co ou le wo ma pl tl tm th na si pa ta thr G ky DE cn got S0 C0 O0 L0 W0 S1 C1 O1 L1 W1 MP PL ML DL TH NM SZ PT TK) (fun r (_ : Unit) => r = -1) (fun _ : Unit => (wM cI cZ cJ mo se co ou le wo ma pl tl tm th na si pa ta 0 G ky DE cn got S0 C0 O0 L0 W0 S1 C1 O1 L1 W1 MP PL ML DL TH NM SZ PT TK)) 0 0 := by
  refine k_headI (cc := cX5_size) (maxL := 2) (ret := (some .int)) (by decide) rfl (Nat.le_of_ble_eq_true rfl) ?_
  intro p e s m below meth c A ls args Q hx hb hr hml hts hown hlk hnm hA hK hP hD hS hl hQ
  have hl : lv_has ls 2 [(0, .ref mo), (1, .int x)] := hl
  refine lv_aload_n hx hb dX5_size_0 rfl (lv_at hl 0 rfl) ?_
  refine lv_iconst (v := nI 0) hx hb dX5_size_1 (by decide) ?_
  refine va_put (D := D) (ci := 5) (v := .int (nI 0)) (ty := .int) (C := RX5) (T := TX5) (N := 20) hx hb hts (by decide +kernel) tyX5 tyX5_ok nmX5 hown hK hP hD hS 0 rfl rfl 0 (by decide) (hts (.fieldLink RX5 58 "VeiledFilesModel" "thrown" "I") (by decide +kernel)) (fun _ h9 => h9) rfl (by decide +kernel) rfl rfl (Nat.le_of_ble_eq_true rfl) dX5_size_2 (fun H locs hP hD hS => ?_)
  have hP : va_P D vwCl (wM cI cZ cJ mo se co ou le wo ma pl tl tm th na si pa ta 0 G ky DE cn got S0 C0 O0 L0 W0 S1 C1 O1 L1 W1 MP PL ML DL TH NM SZ PT TK) _ := hP
  have hD : va_D A (wM cI cZ cJ mo se co ou le wo ma pl tl tm th na si pa ta 0 G ky DE cn got S0 C0 O0 L0 W0 S1 C1 O1 L1 W1 MP PL ML DL TH NM SZ PT TK) := hD
  refine lv_aload_n hx hb dX5_size_5 rfl (lv_at hl 0 rfl) ?_
  refine lv_iload_n hx hb dX5_size_6 rfl (lv_at hl 1 rfl) ?_
  refine k_vi (As := [.int x]) (rest := []) (w2 := fun u : Unit => (wM cI cZ cJ mo se co ou le wo ma pl tl tm th na si pa ta 0 G ky DE cn got S0 C0 O0 L0 W0 S1 C1 O1 L1 W1 MP PL ML DL TH NM SZ PT TK)) ⟨hx, hb, hml, hown, hts⟩ (c_m_isFile_n l D cI cZ cJ mo se co ou le wo ma pl tl tm th na si pa ta 0 G ky DE cn got S0 C0 O0 L0 W0 S1 C1 O1 L1 W1 MP PL ML DL TH NM SZ PT TK x hf) (cwV 1 hts gX5_size_X5_isFile rfl rfl rfl (by decide +kernel) ⟨Nat.le_of_ble_eq_true rfl, Nat.le_of_ble_eq_true rfl⟩) hP hD hK hS hA [0, 1, 2, 3, 4, 5, 6, 7, 8, 9, 10, 11, 12, 13, 14] [] [0, 1, 2, 3, 4, 5, 6, 7, 8, 9, 10, 11, 12, 13, 14] rfl rfl (by decide) (fun u => rfl) rfl rfl (q0 := 0) rfl rfl hl.1 rfl (Nat.le_of_ble_eq_true rfl) dX5_size_7 ⟨Nat.le_of_ble_eq_true rfl, Nat.le_of_ble_eq_true rfl⟩ (fun r u H locs hu1 hP hD hS => ?_)
  refine k_t1 (show r = 0 from hu1) ?_
  refine lv_if_eq (tgt := 22) hx hb dX5_size_10 (by decide) (fun c1 => ?_) (fun c1 => ?_)
  · skip
    refine lv_iconst (v := -1) hx hb dX5_size_22 (by decide) ?_
    exact k_reti () hx hb hr hK hS hlk dX5_size_23 hP hD (by exact rfl) hQ
  · skip
    exact absurd rfl c1

set_option maxHeartbeats 800000 in
set_option maxRecDepth 100000 in
theorem c_m_size_y (l : Launch) (D : va_G) (cI cZ cJ : ClassId) (mo : Nat) (se : Nat) (co : Nat) (ou : Nat) (le : Nat) (wo : Nat) (ma : Nat) (pl : Nat) (tl : Nat) (tm : Nat) (th : Nat) (na : Nat) (si : Nat) (pa : Nat) (ta : Nat) (thr : Int32) (G : Int32) (ky : Int32) (DE : Int32) (cn : Nat) (got : Int32) (S0 : Nat → Nat → Int32) (C0 : Nat → Int32) (O0 : Nat → Int32) (L0 : Nat → Int32) (W0 : Nat → Nat → Int32) (S1 : Nat → Nat → Int32) (C1 : Nat → Int32) (O1 : Nat → Int32) (L1 : Nat → Int32) (W1 : Nat → Nat → Int32) (MP : Nat → Nat) (PL : Nat → Int32) (ML : Nat → Int32) (DL : Nat → Int32) (TH : Nat → Int32) (NM : Nat → Int64) (SZ : Nat → Nat) (PT : Nat → Nat) (TK : Nat → Int32) (f : Nat) (hf : f < 8) (ht : ¬ TH f = 0) : KI l yX5_size wsX5_size ({ frames := 1, cells := 0, slots := 0, locals := 21 }) D (kty cI cZ cJ) [.ref mo, .int (nI f)] (wM cI cZ cJ mo se co ou le wo ma pl tl tm th na si pa ta thr G ky DE cn got S0 C0 O0 L0 W0 S1 C1 O1 L1 W1 MP PL ML DL TH NM SZ PT TK) (fun r (_ : Unit) => r = nI (SZ f)) (fun _ : Unit => (wM cI cZ cJ mo se co ou le wo ma pl tl tm th na si pa ta 0 G ky DE cn got S0 C0 O0 L0 W0 S1 C1 O1 L1 W1 MP PL ML DL TH NM SZ PT TK)) 0 0 := by
  refine k_headI (cc := cX5_size) (maxL := 2) (ret := (some .int)) (by decide) rfl (Nat.le_of_ble_eq_true rfl) ?_
  intro p e s m below meth c A ls args Q hx hb hr hml hts hown hlk hnm hA hK hP hD hS hl hQ
  have hl : lv_has ls 2 [(0, .ref mo), (1, .int (nI f))] := hl
  refine lv_aload_n hx hb dX5_size_0 rfl (lv_at hl 0 rfl) ?_
  refine lv_iconst (v := nI 0) hx hb dX5_size_1 (by decide) ?_
  refine va_put (D := D) (ci := 5) (v := .int (nI 0)) (ty := .int) (C := RX5) (T := TX5) (N := 20) hx hb hts (by decide +kernel) tyX5 tyX5_ok nmX5 hown hK hP hD hS 0 rfl rfl 0 (by decide) (hts (.fieldLink RX5 58 "VeiledFilesModel" "thrown" "I") (by decide +kernel)) (fun _ h9 => h9) rfl (by decide +kernel) rfl rfl (Nat.le_of_ble_eq_true rfl) dX5_size_2 (fun H locs hP hD hS => ?_)
  have hP : va_P D vwCl (wM cI cZ cJ mo se co ou le wo ma pl tl tm th na si pa ta 0 G ky DE cn got S0 C0 O0 L0 W0 S1 C1 O1 L1 W1 MP PL ML DL TH NM SZ PT TK) _ := hP
  have hD : va_D A (wM cI cZ cJ mo se co ou le wo ma pl tl tm th na si pa ta 0 G ky DE cn got S0 C0 O0 L0 W0 S1 C1 O1 L1 W1 MP PL ML DL TH NM SZ PT TK) := hD
  refine lv_aload_n hx hb dX5_size_5 rfl (lv_at hl 0 rfl) ?_
  refine lv_iload_n hx hb dX5_size_6 rfl (lv_at hl 1 rfl) ?_
  refine k_vi (As := [.int (nI f)]) (rest := []) (w2 := fun u : Unit => (wM cI cZ cJ mo se co ou le wo ma pl tl tm th na si pa ta 0 G ky DE cn got S0 C0 O0 L0 W0 S1 C1 O1 L1 W1 MP PL ML DL TH NM SZ PT TK)) ⟨hx, hb, hml, hown, hts⟩ (c_m_isFile_y l D cI cZ cJ mo se co ou le wo ma pl tl tm th na si pa ta 0 G ky DE cn got S0 C0 O0 L0 W0 S1 C1 O1 L1 W1 MP PL ML DL TH NM SZ PT TK f hf ht) (cwV 1 hts gX5_size_X5_isFile rfl rfl rfl (by decide +kernel) ⟨Nat.le_of_ble_eq_true rfl, Nat.le_of_ble_eq_true rfl⟩) hP hD hK hS hA [0, 1, 2, 3, 4, 5, 6, 7, 8, 9, 10, 11, 12, 13, 14] [] [0, 1, 2, 3, 4, 5, 6, 7, 8, 9, 10, 11, 12, 13, 14] rfl rfl (by decide) (fun u => rfl) rfl rfl (q0 := 0) rfl rfl hl.1 rfl (Nat.le_of_ble_eq_true rfl) dX5_size_7 ⟨Nat.le_of_ble_eq_true rfl, Nat.le_of_ble_eq_true rfl⟩ (fun r u H locs hu1 hP hD hS => ?_)
  refine k_t1 (show r = 1 from hu1) ?_
  refine lv_if_eq (tgt := 22) hx hb dX5_size_10 (by decide) (fun c1 => ?_) (fun c1 => ?_)
  · skip
    exact absurd c1 (by decide)
  · skip
    refine lv_aload_n hx hb dX5_size_13 rfl (lv_at hl 0 rfl) ?_
    refine va_get (D := D) (ci := 5) (v := .ref si) (C := RX5) (T := TX5) (N := 20) hx hb hts (by decide +kernel) hown hK hP 0 rfl rfl 16 (by decide) (hts (.fieldLink RX5 45 "VeiledFilesModel" "size" "[I") (by decide +kernel)) (fun _ h9 => h9) rfl dX5_size_14 ?_
    refine lv_iload_n hx hb dX5_size_17 rfl (lv_at hl 1 rfl) ?_
    refine k_iald hx hb hK hP 12 0 rfl rfl f (by omega) (by omega) (v := (nIf SZ) f) (rfl) dX5_size_18 ?_
    refine lv_goto (tgt := 23) hx hb dX5_size_19 (by decide) ?_
    exact k_reti () hx hb hr hK hS hlk dX5_size_23 hP hD (by exact rfl) hQ

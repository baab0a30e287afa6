set_option maxHeartbeats 800000 in
set_option maxRecDepth 100000 in
theorem c_m_pad0 (l : Launch) (D : va_G) (cI cZ cJ : ClassId) (mo : Nat) (se : Nat) (co : Nat) (ou : Nat) (le : Nat) (wo : Nat) (ma : Nat) (pl : Nat) (tl : Nat) (tm : Nat) (th : Nat) (na : Nat) (si : Nat) (pa : Nat) (ta : Nat) (thr : Int32) (G : Int32) (ky : Int32) (DE : Int32) (cn : Nat) (got : Int32) (S0 : Nat → Nat → Int32) (C0 : Nat → Int32) (O0 : Nat → Int32) (L0 : Nat → Int32) (W0 : Nat → Nat → Int32) (S1 : Nat → Nat → Int32) (C1 : Nat → Int32) (O1 : Nat → Int32) (L1 : Nat → Int32) (W1 : Nat → Nat → Int32) (MP : Nat → Nat) (PL : Nat → Int32) (ML : Nat → Int32) (DL : Nat → Int32) (TH : Nat → Int32) (NM : Nat → Int64) (SZ : Nat → Nat) (PT : Nat → Nat) (TK : Nat → Int32) (b j : Nat) (hb0 : b < 7) : KI l yX5_pad wsX5_pad ({ frames := 1, cells := 0, slots := 0, locals := 21 }) D (kty cI cZ cJ) [.ref mo, .int (nI 0), .int (nI b), .int (nI j)] (wM cI cZ cJ mo se co ou le wo ma pl tl tm th na si pa ta thr G ky DE cn got S0 C0 O0 L0 W0 S1 C1 O1 L1 W1 MP PL ML DL TH NM SZ PT TK) (fun r (_ : Unit) => r = padF ky 0 (C0 b) b j) (fun _ : Unit => (wM cI cZ cJ mo se co ou le wo ma pl tl tm th na si pa ta thr G ky DE cn got S0 C0 O0 L0 W0 S1 C1 O1 L1 W1 MP PL ML DL TH NM SZ PT TK)) 0 0 := by
  refine k_headI (cc := cX5_pad) (maxL := 5) (ret := (some .int)) (by decide) rfl (Nat.le_of_ble_eq_true rfl) ?_
  intro p e s m below meth c A ls args Q hx hb hr hml hts hown hlk hnm hA hK hP hD hS hl hQ
  have hl : lv_has ls 5 [(0, .ref mo), (1, .int (nI 0)), (2, .int (nI b)), (3, .int (nI j))] := hl
  refine lv_aload_n hx hb dX5_pad_0 rfl (lv_at hl 0 rfl) ?_
  refine va_get (D := D) (ci := 5) (v := .int ky) (C := RX5) (T := TX5) (N := 20) hx hb hts (by decide +kernel) hown hK hP 0 rfl rfl 2 (by decide) (hts (.fieldLink RX5 76 "VeiledFilesModel" "key" "I") (by decide +kernel)) (fun _ h9 => h9) rfl dX5_pad_1 ?_
  refine lv_bipush (v := nI 64) hx hb dX5_pad_4 (by decide) ?_
  refine lv_iload_n hx hb dX5_pad_6 rfl (lv_at hl 1 rfl) ?_
  refine lv_imul hx hb dX5_pad_7 ?_
  refine lv_iload_n hx hb dX5_pad_8 rfl (lv_at hl 2 rfl) ?_
  refine lv_iadd hx hb dX5_pad_9 ?_
  refine lv_iconst (v := nI 1) hx hb dX5_pad_10 (by decide) ?_
  refine lv_iadd hx hb dX5_pad_11 ?_
  refine lv_ldc (v := -1640531535) hx hb hown (hts (.constant RX5 79 (-1640531535)) (by decide +kernel)) dX5_pad_12 ?_
  refine lv_imul hx hb dX5_pad_14 ?_
  refine lv_ixor hx hb dX5_pad_15 ?_
  refine lv_aload_n hx hb dX5_pad_16 rfl (lv_at hl 0 rfl) ?_
  refine va_get (D := D) (ci := 5) (v := .ref co) (C := RX5) (T := TX5) (N := 20) hx hb hts (by decide +kernel) hown hK hP 0 rfl rfl 6 (by decide) (hts (.fieldLink RX5 13 "VeiledFilesModel" "counters" "[I") (by decide +kernel)) (fun _ h9 => h9) rfl dX5_pad_17 ?_
  refine lv_iload_n hx hb dX5_pad_20 rfl (lv_at hl 1 rfl) ?_
  refine lv_iload_n hx hb dX5_pad_21 rfl (lv_at hl 2 rfl) ?_
  refine k_si (As := [.int (nI 0), .int (nI b)]) (rest := [.ref co, .int (ky ^^^ (((((nI 64) * (nI 0)) + (nI b)) + (nI 1)) * (-1640531535)))]) (w2 := fun u : Unit => (wM cI cZ cJ mo se co ou le wo ma pl tl tm th na si pa ta thr G ky DE cn got S0 C0 O0 L0 W0 S1 C1 O1 L1 W1 MP PL ML DL TH NM SZ PT TK)) ⟨hx, hb, hml, hown, hts⟩ (c_m_place0 l D cI cZ cJ  b) (va_cwS 2 hts gX5_pad_X5_place rfl rfl rfl (by decide +kernel) ⟨Nat.le_of_ble_eq_true rfl, Nat.le_of_ble_eq_true rfl⟩) hP hD hK hS hA [] [0, 1, 2, 3, 4, 5, 6, 7, 8, 9, 10, 11, 12, 13, 14] [0, 1, 2, 3, 4, 5, 6, 7, 8, 9, 10, 11, 12, 13, 14] rfl rfl (by decide) (fun u => rfl) rfl hl.1 rfl (Nat.le_of_ble_eq_true rfl) dX5_pad_22 ⟨Nat.le_of_ble_eq_true rfl, Nat.le_of_ble_eq_true rfl⟩ (fun r u H locs hu1 hP hD hS => ?_)
  refine k_t1 (show r = nI b from hu1) ?_
  refine k_iald hx hb hK hP 2 0 rfl rfl b (by omega) (by omega) (v := C0 b) (jn_0 (by omega)) dX5_pad_25 ?_
  refine lv_ldc (v := -2048144777) hx hb hown (hts (.constant RX5 84 (-2048144777)) (by decide +kernel)) dX5_pad_26 ?_
  refine lv_imul hx hb dX5_pad_28 ?_
  refine lv_ixor hx hb dX5_pad_29 ?_
  refine lv_iload_n hx hb dX5_pad_30 rfl (lv_at hl 3 rfl) ?_
  refine lv_iconst (v := nI 1) hx hb dX5_pad_31 (by decide) ?_
  refine lv_iadd hx hb dX5_pad_32 ?_
  refine lv_ldc (v := -1028477379) hx hb hown (hts (.constant RX5 85 (-1028477379)) (by decide +kernel)) dX5_pad_33 ?_
  refine lv_imul hx hb dX5_pad_35 ?_
  refine lv_ixor hx hb dX5_pad_36 ?_
  refine lv_topi (fun h0 eh0 => ?_)
  refine lv_istore (lv' := [(4, .int h0), (0, .ref mo), (1, .int (nI 0)), (2, .int (nI b)), (3, .int (nI j))]) hx hb dX5_pad_37 hl (by decide) rfl (fun ls hl => ?_)
  refine lv_iload hx hb dX5_pad_39 (lv_at hl 0 rfl) ?_
  refine lv_iload hx hb dX5_pad_41 (lv_at hl 0 rfl) ?_
  refine lv_bipush (v := nI 15) hx hb dX5_pad_43 (by decide) ?_
  refine lv_iushr (v := ush h0 (nI 15)) hx hb dX5_pad_45 rfl ?_
  refine lv_ixor hx hb dX5_pad_46 ?_
  refine lv_topi (fun h1 eh1 => ?_)
  refine lv_istore (lv' := [(4, .int h1), (0, .ref mo), (1, .int (nI 0)), (2, .int (nI b)), (3, .int (nI j))]) hx hb dX5_pad_47 hl (by decide) rfl (fun ls hl => ?_)
  refine lv_iload hx hb dX5_pad_49 (lv_at hl 0 rfl) ?_
  refine lv_ldc (v := 739982445) hx hb hown (hts (.constant RX5 86 (739982445)) (by decide +kernel)) dX5_pad_51 ?_
  refine lv_imul hx hb dX5_pad_53 ?_
  refine lv_topi (fun h2 eh2 => ?_)
  refine lv_istore (lv' := [(4, .int h2), (0, .ref mo), (1, .int (nI 0)), (2, .int (nI b)), (3, .int (nI j))]) hx hb dX5_pad_54 hl (by decide) rfl (fun ls hl => ?_)
  refine lv_iload hx hb dX5_pad_56 (lv_at hl 0 rfl) ?_
  refine lv_iload hx hb dX5_pad_58 (lv_at hl 0 rfl) ?_
  refine lv_bipush (v := nI 12) hx hb dX5_pad_60 (by decide) ?_
  refine lv_iushr (v := ush h2 (nI 12)) hx hb dX5_pad_62 rfl ?_
  refine lv_ixor hx hb dX5_pad_63 ?_
  refine lv_topi (fun h3 eh3 => ?_)
  refine lv_istore (lv' := [(4, .int h3), (0, .ref mo), (1, .int (nI 0)), (2, .int (nI b)), (3, .int (nI j))]) hx hb dX5_pad_64 hl (by decide) rfl (fun ls hl => ?_)
  refine lv_iload hx hb dX5_pad_66 (lv_at hl 0 rfl) ?_
  refine lv_ldc (v := 695872825) hx hb hown (hts (.constant RX5 87 (695872825)) (by decide +kernel)) dX5_pad_68 ?_
  refine lv_imul hx hb dX5_pad_70 ?_
  refine lv_topi (fun h4 eh4 => ?_)
  refine lv_istore (lv' := [(4, .int h4), (0, .ref mo), (1, .int (nI 0)), (2, .int (nI b)), (3, .int (nI j))]) hx hb dX5_pad_71 hl (by decide) rfl (fun ls hl => ?_)
  refine lv_iload hx hb dX5_pad_73 (lv_at hl 0 rfl) ?_
  refine lv_iload hx hb dX5_pad_75 (lv_at hl 0 rfl) ?_
  refine lv_bipush (v := nI 15) hx hb dX5_pad_77 (by decide) ?_
  refine lv_iushr (v := ush h4 (nI 15)) hx hb dX5_pad_79 rfl ?_
  refine lv_ixor hx hb dX5_pad_80 ?_
  exact k_reti () hx hb hr hK hS hlk dX5_pad_81 hP hD (by subst eh4; subst eh3; subst eh2; subst eh1; subst eh0; rfl) hQ

set_option maxHeartbeats 800000 in
set_option maxRecDepth 100000 in
theorem c_m_tag0 (l : Launch) (D : va_G) (cI cZ cJ : ClassId) (mo : Nat) (se : Nat) (co : Nat) (ou : Nat) (le : Nat) (wo : Nat) (ma : Nat) (pl : Nat) (tl : Nat) (tm : Nat) (th : Nat) (na : Nat) (si : Nat) (pa : Nat) (ta : Nat) (thr : Int32) (G : Int32) (ky : Int32) (DE : Int32) (cn : Nat) (got : Int32) (S0 : Nat → Nat → Int32) (C0 : Nat → Int32) (O0 : Nat → Int32) (L0 : Nat → Int32) (W0 : Nat → Nat → Int32) (S1 : Nat → Nat → Int32) (C1 : Nat → Int32) (O1 : Nat → Int32) (L1 : Nat → Int32) (W1 : Nat → Nat → Int32) (MP : Nat → Nat) (PL : Nat → Int32) (ML : Nat → Int32) (DL : Nat → Int32) (TH : Nat → Int32) (NM : Nat → Int64) (SZ : Nat → Nat) (PT : Nat → Nat) (TK : Nat → Int32) (b : Nat) (hb0 : b < 7) : KI l yX5_tag wsX5_tag ({ frames := 2, cells := 0, slots := 0, locals := 45 }) D (kty cI cZ cJ) [.ref mo, .int (nI 0), .int (nI b)] (wM cI cZ cJ mo se co ou le wo ma pl tl tm th na si pa ta thr G ky DE cn got S0 C0 O0 L0 W0 S1 C1 O1 L1 W1 MP PL ML DL TH NM SZ PT TK) (fun r (_ : Unit) => r = tagF ky 0 (C0 b) b (S0 b)) (fun _ : Unit => (wM cI cZ cJ mo se co ou le wo ma pl tl tm th na si pa ta thr G ky DE cn got S0 C0 O0 L0 W0 S1 C1 O1 L1 W1 MP PL ML DL TH NM SZ PT TK)) 0 0 := by
  refine k_headI (cc := cX5_tag) (maxL := 5) (ret := (some .int)) (by decide) rfl (Nat.le_of_ble_eq_true rfl) ?_
  intro p e s m below meth c A ls args Q hx hb hr hml hts hown hlk hnm hA hK hP hD hS hl hQ
  have hl : lv_has ls 5 [(0, .ref mo), (1, .int (nI 0)), (2, .int (nI b))] := hl
  refine lv_aload_n hx hb dX5_tag_0 rfl (lv_at hl 0 rfl) ?_
  refine lv_iload_n hx hb dX5_tag_1 rfl (lv_at hl 1 rfl) ?_
  refine lv_iload_n hx hb dX5_tag_2 rfl (lv_at hl 2 rfl) ?_
  refine lv_bipush (v := nI 24) hx hb dX5_tag_3 (by decide) ?_
  refine k_vi (As := [.int (nI 0), .int (nI b), .int (nI 24)]) (rest := []) (w2 := fun u : Unit => (wM cI cZ cJ mo se co ou le wo ma pl tl tm th na si pa ta thr G ky DE cn got S0 C0 O0 L0 W0 S1 C1 O1 L1 W1 MP PL ML DL TH NM SZ PT TK)) ⟨hx, hb, hml, hown, hts⟩ (c_m_pad0 l D cI cZ cJ mo se co ou le wo ma pl tl tm th na si pa ta thr G ky DE cn got S0 C0 O0 L0 W0 S1 C1 O1 L1 W1 MP PL ML DL TH NM SZ PT TK b 24 hb0) (cwV 3 hts gX5_tag_X5_pad rfl rfl rfl (by decide +kernel) ⟨Nat.le_of_ble_eq_true rfl, Nat.le_of_ble_eq_true rfl⟩) hP hD hK hS hA [0, 1, 2, 3, 4, 5, 6, 7, 8, 9, 10, 11, 12, 13, 14] [] [0, 1, 2, 3, 4, 5, 6, 7, 8, 9, 10, 11, 12, 13, 14] rfl rfl (by decide) (fun u => rfl) rfl rfl (q0 := 0) rfl rfl hl.1 rfl (Nat.le_of_ble_eq_true rfl) dX5_tag_5 ⟨Nat.le_of_ble_eq_true rfl, Nat.le_of_ble_eq_true rfl⟩ (fun r u H locs hu1 hP hD hS => ?_)
  refine k_t1 (show r = padF ky 0 (C0 b) b 24 from hu1) ?_
  refine lv_istore_n (lv' := [(3, .int (padF ky 0 (C0 b) b 24)), (0, .ref mo), (1, .int (nI 0)), (2, .int (nI b))]) hx hb dX5_tag_8 rfl hl (by decide) rfl (fun ls hl => ?_)
  refine lv_iconst (v := nI 0) hx hb dX5_tag_9 (by decide) ?_
  refine lv_istore (lv' := [(4, .int (nI 0)), (3, .int (padF ky 0 (C0 b) b 24)), (0, .ref mo), (1, .int (nI 0)), (2, .int (nI b))]) hx hb dX5_tag_10 hl (by decide) rfl (fun ls hl => ?_)
  have L1l : ∀ (nf k : Nat) (hvL1l : k ≤ 24) (hFL1l : 24 - k < nf) (H : Heap) (locs : List Loc) (ls : Array Slot), va_P D vwCl (wM cI cZ cJ mo se co ou le wo ma pl tl tm th na si pa ta thr G ky DE cn got S0 C0 O0 L0 W0 S1 C1 O1 L1 W1 MP PL ML DL TH NM SZ PT TK) H → va_D A (wM cI cZ cJ mo se co ou le wo ma pl tl tm th na si pa ta thr G ky DE cn got S0 C0 O0 L0 W0 S1 C1 O1 L1 W1 MP PL ML DL TH NM SZ PT TK) → va_S A s.heap H locs → lv_has ls 5 [(0, .ref mo), (1, .int (nI 0)), (2, .int (nI b)), (3, .int (tagN (padF ky 0 (C0 b) b 24) (S0 b) k)), (4, .int (nI k))] → W p l e ({ frames := 2, cells := 0, slots := 0, locals := 45 } : Room) s m args below meth c H locs 0 0 Q (F0 m 12 ls []) := by
    intro nf
    induction nf with
    | zero => intro k  hvL1l hFL1l; omega
    | succ nf ihL1l =>
      intro k  hvL1l hFL1l  H locs ls hP hD hS hl
      refine lv_iload hx hb dX5_tag_12 (lv_at hl 4 rfl) ?_
      refine lv_bipush (v := nI 24) hx hb dX5_tag_14 (by decide) ?_
      refine k_icmp_ge (tgt := 47) hx hb (by omega) (by omega) dX5_tag_16 (by decide) (fun c1 => ?_) (fun c1 => ?_)
      · skip
        obtain rfl : k = 24 := by omega
        refine lv_iload_n hx hb dX5_tag_47 rfl (lv_at hl 3 rfl) ?_
        exact k_reti () hx hb hr hK hS hlk dX5_tag_48 hP hD (by exact rfl) hQ
      · skip
        refine lv_iload_n hx hb dX5_tag_19 rfl (lv_at hl 3 rfl) ?_
        refine lv_aload_n hx hb dX5_tag_20 rfl (lv_at hl 0 rfl) ?_
        refine va_get (D := D) (ci := 5) (v := .ref se) (C := RX5) (T := TX5) (N := 20) hx hb hts (by decide +kernel) hown hK hP 0 rfl rfl 5 (by decide) (hts (.fieldLink RX5 7 "VeiledFilesModel" "sealed" "[I") (by decide +kernel)) (fun _ h9 => h9) rfl dX5_tag_21 ?_
        refine lv_bipush (v := nI 25) hx hb dX5_tag_24 (by decide) ?_
        refine lv_iload_n hx hb dX5_tag_26 rfl (lv_at hl 1 rfl) ?_
        refine lv_iload_n hx hb dX5_tag_27 rfl (lv_at hl 2 rfl) ?_
        refine k_si (As := [.int (nI 0), .int (nI b)]) (rest := [.int (nI 25), .ref se, .int (tagN (padF ky 0 (C0 b) b 24) (S0 b) k)]) (w2 := fun u : Unit => (wM cI cZ cJ mo se co ou le wo ma pl tl tm th na si pa ta thr G ky DE cn got S0 C0 O0 L0 W0 S1 C1 O1 L1 W1 MP PL ML DL TH NM SZ PT TK)) ⟨hx, hb, hml, hown, hts⟩ (c_m_place0 l D cI cZ cJ  b) (va_cwS 2 hts gX5_tag_X5_place rfl rfl rfl (by decide +kernel) ⟨Nat.le_of_ble_eq_true rfl, Nat.le_of_ble_eq_true rfl⟩) hP hD hK hS hA [] [0, 1, 2, 3, 4, 5, 6, 7, 8, 9, 10, 11, 12, 13, 14] [0, 1, 2, 3, 4, 5, 6, 7, 8, 9, 10, 11, 12, 13, 14] rfl rfl (by decide) (fun u => rfl) rfl hl.1 rfl (Nat.le_of_ble_eq_true rfl) dX5_tag_28 ⟨Nat.le_of_ble_eq_true rfl, Nat.le_of_ble_eq_true rfl⟩ (fun r u H locs hu2 hP hD hS => ?_)
        refine k_t1 (show r = nI b from hu2) ?_
        refine lv_imul hx hb dX5_tag_31 ?_
        refine k_t1 (show (nI 25) * (nI b) = nI (25 * b) from pk_mul _ _) ?_
        refine lv_iload hx hb dX5_tag_32 (lv_at hl 4 rfl) ?_
        refine lv_iadd hx hb dX5_tag_34 ?_
        refine k_t1 (show (nI (25 * b)) + (nI k) = nI (25 * b + k) from nI_add _ _) ?_
        refine k_iald hx hb hK hP 1 0 rfl rfl (25 * b + k) (by omega) (by omega) (v := S0 b k) (rS0 (by omega) (by omega) (by omega)) dX5_tag_35 ?_
        refine lv_ixor hx hb dX5_tag_36 ?_
        refine lv_ldc (v := 16777619) hx hb hown (hts (.constant RX5 91 (16777619)) (by decide +kernel)) dX5_tag_37 ?_
        refine lv_imul hx hb dX5_tag_39 ?_
        refine lv_istore_n (lv' := [(3, .int (((tagN (padF ky 0 (C0 b) b 24) (S0 b) k) ^^^ (S0 b k)) * (16777619))), (0, .ref mo), (1, .int (nI 0)), (2, .int (nI b)), (4, .int (nI k))]) hx hb dX5_tag_40 rfl hl (by decide) rfl (fun ls hl => ?_)
        refine lv_iinc (v := nI (k + 1)) (lv' := [(4, .int (nI (k + 1))), (3, .int (((tagN (padF ky 0 (C0 b) b 24) (S0 b) k) ^^^ (S0 b k)) * (16777619))), (0, .ref mo), (1, .int (nI 0)), (2, .int (nI b))]) hx hb dX5_tag_41 hl (k := 4) rfl (nI_add k 1) (by decide) rfl (fun ls hl => ?_)
        refine lv_goto (tgt := 12) hx hb dX5_tag_44 (by decide) ?_
        exact ihL1l (k + 1)  (by omega) (by omega)  _ _ _ hP hD hS (lv_sub hl [2, 3, 4, 1, 0] rfl)
  exact L1l (24 + 1) 0  (by omega) (by omega)  _ _ _ hP hD hS (lv_sub hl [2, 3, 4, 1, 0] rfl)

set_option maxHeartbeats 800000 in
set_option maxRecDepth 100000 in
theorem c_m_seal0 (l : Launch) (D : va_G) (cI cZ cJ : ClassId) (mo : Nat) (se : Nat) (co : Nat) (ou : Nat) (le : Nat) (wo : Nat) (ma : Nat) (pl : Nat) (tl : Nat) (tm : Nat) (th : Nat) (na : Nat) (si : Nat) (pa : Nat) (ta : Nat) (thr : Int32) (G : Int32) (ky : Int32) (DE : Int32) (cn : Nat) (got : Int32) (S0 : Nat → Nat → Int32) (C0 : Nat → Int32) (O0 : Nat → Int32) (L0 : Nat → Int32) (W0 : Nat → Nat → Int32) (S1 : Nat → Nat → Int32) (C1 : Nat → Int32) (O1 : Nat → Int32) (L1 : Nat → Int32) (W1 : Nat → Nat → Int32) (MP : Nat → Nat) (PL : Nat → Int32) (ML : Nat → Int32) (DL : Nat → Int32) (TH : Nat → Int32) (NM : Nat → Int64) (SZ : Nat → Nat) (PT : Nat → Nat) (TK : Nat → Int32) (b : Nat) (hb0 : b < 7) : KV l yX5_seal wsX5_seal ({ frames := 3, cells := 0, slots := 0, locals := 69 }) D (kty cI cZ cJ) [.ref mo, .int (nI 0), .int (nI b)] (wM cI cZ cJ mo se co ou le wo ma pl tl tm th na si pa ta thr G ky DE cn got S0 C0 O0 L0 W0 S1 C1 O1 L1 W1 MP PL ML DL TH NM SZ PT TK) (fun (_ : Unit) => True) (fun _ : Unit => (wM cI cZ cJ mo se co ou le wo ma pl tl tm th na si pa ta thr G ky DE cn got (setRow S0 b (sealR ky 0 (C0 b) b PL)) C0 O0 L0 W0 S1 C1 O1 L1 W1 MP PL ML DL TH NM SZ PT TK)) 0 0 := by
  refine k_headV (cc := cX5_seal) (maxL := 5) (ret := none) (by decide) rfl (Nat.le_of_ble_eq_true rfl) ?_
  intro p e s m below meth c A ls args Q hx hb hr hml hts hown hlk hnm hA hK hP hD hS hl hQ
  have hl : lv_has ls 5 [(0, .ref mo), (1, .int (nI 0)), (2, .int (nI b))] := hl
  refine lv_bipush (v := nI 25) hx hb dX5_seal_0 (by decide) ?_
  refine lv_iload_n hx hb dX5_seal_2 rfl (lv_at hl 1 rfl) ?_
  refine lv_iload_n hx hb dX5_seal_3 rfl (lv_at hl 2 rfl) ?_
  refine k_si (As := [.int (nI 0), .int (nI b)]) (rest := [.int (nI 25)]) (w2 := fun u : Unit => (wM cI cZ cJ mo se co ou le wo ma pl tl tm th na si pa ta thr G ky DE cn got S0 C0 O0 L0 W0 S1 C1 O1 L1 W1 MP PL ML DL TH NM SZ PT TK)) ⟨hx, hb, hml, hown, hts⟩ (c_m_place0 l D cI cZ cJ  b) (va_cwS 2 hts gX5_seal_X5_place rfl rfl rfl (by decide +kernel) ⟨Nat.le_of_ble_eq_true rfl, Nat.le_of_ble_eq_true rfl⟩) hP hD hK hS hA [] [0, 1, 2, 3, 4, 5, 6, 7, 8, 9, 10, 11, 12, 13, 14] [0, 1, 2, 3, 4, 5, 6, 7, 8, 9, 10, 11, 12, 13, 14] rfl rfl (by decide) (fun u => rfl) rfl hl.1 rfl (Nat.le_of_ble_eq_true rfl) dX5_seal_4 ⟨Nat.le_of_ble_eq_true rfl, Nat.le_of_ble_eq_true rfl⟩ (fun r u H locs hu1 hP hD hS => ?_)
  refine k_t1 (show r = nI b from hu1) ?_
  refine lv_imul hx hb dX5_seal_7 ?_
  refine k_t1 (show (nI 25) * (nI b) = nI (25 * b) from pk_mul _ _) ?_
  refine lv_istore_n (lv' := [(3, .int (nI (25 * b))), (0, .ref mo), (1, .int (nI 0)), (2, .int (nI b))]) hx hb dX5_seal_8 rfl hl (by decide) rfl (fun ls hl => ?_)
  refine lv_iconst (v := nI 0) hx hb dX5_seal_9 (by decide) ?_
  refine lv_istore (lv' := [(4, .int (nI 0)), (3, .int (nI (25 * b))), (0, .ref mo), (1, .int (nI 0)), (2, .int (nI b))]) hx hb dX5_seal_10 hl (by decide) rfl (fun ls hl => ?_)
  have hE2 : (wM cI cZ cJ mo se co ou le wo ma pl tl tm th na si pa ta thr G ky DE cn got S0 C0 O0 L0 W0 S1 C1 O1 L1 W1 MP PL ML DL TH NM SZ PT TK) = (wM cI cZ cJ mo se co ou le wo ma pl tl tm th na si pa ta thr G ky DE cn got (setRow S0 b (miK (S0 b) (fun j => PL j ^^^ padF ky 0 (C0 b) b j) 0)) C0 O0 L0 W0 S1 C1 O1 L1 W1 MP PL ML DL TH NM SZ PT TK) := by rw [miK_0, setRow_id]
  rw [hE2] at hP hD
  have L1l : ∀ (nf k : Nat) (hvL1l : k ≤ 24) (hFL1l : 24 - k < nf) (H : Heap) (locs : List Loc) (ls : Array Slot), va_P D vwCl (wM cI cZ cJ mo se co ou le wo ma pl tl tm th na si pa ta thr G ky DE cn got (setRow S0 b (miK (S0 b) (fun j => PL j ^^^ padF ky 0 (C0 b) b j) k)) C0 O0 L0 W0 S1 C1 O1 L1 W1 MP PL ML DL TH NM SZ PT TK) H → va_D A (wM cI cZ cJ mo se co ou le wo ma pl tl tm th na si pa ta thr G ky DE cn got (setRow S0 b (miK (S0 b) (fun j => PL j ^^^ padF ky 0 (C0 b) b j) k)) C0 O0 L0 W0 S1 C1 O1 L1 W1 MP PL ML DL TH NM SZ PT TK) → va_S A s.heap H locs → lv_has ls 5 [(0, .ref mo), (1, .int (nI 0)), (2, .int (nI b)), (3, .int (nI (25 * b))), (4, .int (nI k))] → W p l e ({ frames := 3, cells := 0, slots := 0, locals := 69 } : Room) s m args below meth c H locs 0 0 Q (F0 m 12 ls []) := by
    intro nf
    induction nf with
    | zero => intro k  hvL1l hFL1l; omega
    | succ nf ihL1l =>
      intro k  hvL1l hFL1l  H locs ls hP hD hS hl
      refine lv_iload hx hb dX5_seal_12 (lv_at hl 4 rfl) ?_
      refine lv_bipush (v := nI 24) hx hb dX5_seal_14 (by decide) ?_
      refine k_icmp_ge (tgt := 50) hx hb (by omega) (by omega) dX5_seal_16 (by decide) (fun c1 => ?_) (fun c1 => ?_)
      · skip
        obtain rfl : k = 24 := by omega
        refine lv_aload_n hx hb dX5_seal_50 rfl (lv_at hl 0 rfl) ?_
        refine va_get (D := D) (ci := 5) (v := .ref se) (C := RX5) (T := TX5) (N := 20) hx hb hts (by decide +kernel) hown hK hP 0 rfl rfl 5 (by decide) (hts (.fieldLink RX5 7 "VeiledFilesModel" "sealed" "[I") (by decide +kernel)) (fun _ h9 => h9) rfl dX5_seal_51 ?_
        refine lv_iload_n hx hb dX5_seal_54 rfl (lv_at hl 3 rfl) ?_
        refine lv_bipush (v := nI 24) hx hb dX5_seal_55 (by decide) ?_
        refine lv_iadd hx hb dX5_seal_57 ?_
        refine k_t1 (show (nI (25 * b)) + (nI 24) = nI (25 * b + 24) from nI_add _ _) ?_
        refine lv_aload_n hx hb dX5_seal_58 rfl (lv_at hl 0 rfl) ?_
        refine lv_iload_n hx hb dX5_seal_59 rfl (lv_at hl 1 rfl) ?_
        refine lv_iload_n hx hb dX5_seal_60 rfl (lv_at hl 2 rfl) ?_
        refine k_vi (As := [.int (nI 0), .int (nI b)]) (rest := [.int (nI (25 * b + 24)), .ref se]) (w2 := fun u : Unit => (wM cI cZ cJ mo se co ou le wo ma pl tl tm th na si pa ta thr G ky DE cn got (setRow S0 b (miK (S0 b) (fun j => PL j ^^^ padF ky 0 (C0 b) b j) 24)) C0 O0 L0 W0 S1 C1 O1 L1 W1 MP PL ML DL TH NM SZ PT TK)) ⟨hx, hb, hml, hown, hts⟩ (c_m_tag0 l D cI cZ cJ mo se co ou le wo ma pl tl tm th na si pa ta thr G ky DE cn got (setRow S0 b (miK (S0 b) (fun j => PL j ^^^ padF ky 0 (C0 b) b j) 24)) C0 O0 L0 W0 S1 C1 O1 L1 W1 MP PL ML DL TH NM SZ PT TK b hb0) (cwV 2 hts gX5_seal_X5_tag rfl rfl rfl (by decide +kernel) ⟨Nat.le_of_ble_eq_true rfl, Nat.le_of_ble_eq_true rfl⟩) hP hD hK hS hA [0, 1, 2, 3, 4, 5, 6, 7, 8, 9, 10, 11, 12, 13, 14] [] [0, 1, 2, 3, 4, 5, 6, 7, 8, 9, 10, 11, 12, 13, 14] rfl rfl (by decide) (fun u => rfl) rfl rfl (q0 := 0) rfl rfl hl.1 rfl (Nat.le_of_ble_eq_true rfl) dX5_seal_61 ⟨Nat.le_of_ble_eq_true rfl, Nat.le_of_ble_eq_true rfl⟩ (fun r u H locs hu3 hP hD hS => ?_)
        refine k_t1 (show r = tagF ky 0 (C0 b) b ((setRow S0 b (miK (S0 b) (fun j => PL j ^^^ padF ky 0 (C0 b) b j) 24)) b) from hu3) ?_
        refine k_iast hx hb hK hP hD hS 1 0 rfl rfl (25 * b + 24) (by omega) (by omega) (g := fl25 (jn 7 (setRow S0 b (sealR ky 0 (C0 b) b (miK (S0 b) PL 24))) S1)) ((uS0 (p := b) (i := 24) (by omega) (by omega) (by omega)).trans (by rw [setRow_s, setRow_2, mi_seal])) dX5_seal_64 (fun H locs hP hD hS => ?_)
        have hP : va_P D vwCl (wM cI cZ cJ mo se co ou le wo ma pl tl tm th na si pa ta thr G ky DE cn got (setRow S0 b (sealR ky 0 (C0 b) b (miK (S0 b) PL 24))) C0 O0 L0 W0 S1 C1 O1 L1 W1 MP PL ML DL TH NM SZ PT TK) _ := hP
        have hD : va_D A (wM cI cZ cJ mo se co ou le wo ma pl tl tm th na si pa ta thr G ky DE cn got (setRow S0 b (sealR ky 0 (C0 b) b (miK (S0 b) PL 24))) C0 O0 L0 W0 S1 C1 O1 L1 W1 MP PL ML DL TH NM SZ PT TK) := hD
        have hP : va_P D vwCl (wM cI cZ cJ mo se co ou le wo ma pl tl tm th na si pa ta thr G ky DE cn got (setRow S0 b (sealR ky 0 (C0 b) b PL)) C0 O0 L0 W0 S1 C1 O1 L1 W1 MP PL ML DL TH NM SZ PT TK) H := k_extP (q0 := 1) hP rfl (fun j hj => congrFun (by rw [← jn_r0 (by omega), ← jn_r0 (by omega)]; exact fl25_rows (fun i hi => sealR_congr (fun j hj => miK_lt hj) hi)) j)
        have hD : va_D A (wM cI cZ cJ mo se co ou le wo ma pl tl tm th na si pa ta thr G ky DE cn got (setRow S0 b (sealR ky 0 (C0 b) b PL)) C0 O0 L0 W0 S1 C1 O1 L1 W1 MP PL ML DL TH NM SZ PT TK) := hD.set (p := 1) rfl
        exact k_retv () hx hb hr hK hS hlk dX5_seal_65 hP hD (trivial) hQ
      · skip
        refine lv_aload_n hx hb dX5_seal_19 rfl (lv_at hl 0 rfl) ?_
        refine va_get (D := D) (ci := 5) (v := .ref se) (C := RX5) (T := TX5) (N := 20) hx hb hts (by decide +kernel) hown hK hP 0 rfl rfl 5 (by decide) (hts (.fieldLink RX5 7 "VeiledFilesModel" "sealed" "[I") (by decide +kernel)) (fun _ h9 => h9) rfl dX5_seal_20 ?_
        refine lv_iload_n hx hb dX5_seal_23 rfl (lv_at hl 3 rfl) ?_
        refine lv_iload hx hb dX5_seal_24 (lv_at hl 4 rfl) ?_
        refine lv_iadd hx hb dX5_seal_26 ?_
        refine k_t1 (show (nI (25 * b)) + (nI k) = nI (25 * b + k) from nI_add _ _) ?_
        refine lv_aload_n hx hb dX5_seal_27 rfl (lv_at hl 0 rfl) ?_
        refine va_get (D := D) (ci := 5) (v := .ref pl) (C := RX5) (T := TX5) (N := 20) hx hb hts (by decide +kernel) hown hK hP 0 rfl rfl 11 (by decide) (hts (.fieldLink RX5 29 "VeiledFilesModel" "plain" "[I") (by decide +kernel)) (fun _ h9 => h9) rfl dX5_seal_28 ?_
        refine lv_iload hx hb dX5_seal_31 (lv_at hl 4 rfl) ?_
        refine k_iald hx hb hK hP 7 0 rfl rfl k (by omega) (by omega) (v := PL k) (rfl) dX5_seal_33 ?_
        refine lv_aload_n hx hb dX5_seal_34 rfl (lv_at hl 0 rfl) ?_
        refine lv_iload_n hx hb dX5_seal_35 rfl (lv_at hl 1 rfl) ?_
        refine lv_iload_n hx hb dX5_seal_36 rfl (lv_at hl 2 rfl) ?_
        refine lv_iload hx hb dX5_seal_37 (lv_at hl 4 rfl) ?_
        refine k_vi (As := [.int (nI 0), .int (nI b), .int (nI k)]) (rest := [.int (PL k), .int (nI (25 * b + k)), .ref se]) (w2 := fun u : Unit => (wM cI cZ cJ mo se co ou le wo ma pl tl tm th na si pa ta thr G ky DE cn got (setRow S0 b (miK (S0 b) (fun j => PL j ^^^ padF ky 0 (C0 b) b j) k)) C0 O0 L0 W0 S1 C1 O1 L1 W1 MP PL ML DL TH NM SZ PT TK)) ⟨hx, hb, hml, hown, hts⟩ (c_m_pad0 l D cI cZ cJ mo se co ou le wo ma pl tl tm th na si pa ta thr G ky DE cn got (setRow S0 b (miK (S0 b) (fun j => PL j ^^^ padF ky 0 (C0 b) b j) k)) C0 O0 L0 W0 S1 C1 O1 L1 W1 MP PL ML DL TH NM SZ PT TK b k hb0) (cwV 3 hts gX5_seal_X5_pad rfl rfl rfl (by decide +kernel) ⟨Nat.le_of_ble_eq_true rfl, Nat.le_of_ble_eq_true rfl⟩) hP hD hK hS hA [0, 1, 2, 3, 4, 5, 6, 7, 8, 9, 10, 11, 12, 13, 14] [] [0, 1, 2, 3, 4, 5, 6, 7, 8, 9, 10, 11, 12, 13, 14] rfl rfl (by decide) (fun u => rfl) rfl rfl (q0 := 0) rfl rfl hl.1 rfl (Nat.le_of_ble_eq_true rfl) dX5_seal_39 ⟨Nat.le_of_ble_eq_true rfl, Nat.le_of_ble_eq_true rfl⟩ (fun r u H locs hu4 hP hD hS => ?_)
        refine k_t1 (show r = padF ky 0 (C0 b) b k from hu4) ?_
        refine lv_ixor hx hb dX5_seal_42 ?_
        refine k_iast hx hb hK hP hD hS 1 0 rfl rfl (25 * b + k) (by omega) (by omega) (g := fl25 (jn 7 (setRow S0 b (miK (S0 b) (fun j => PL j ^^^ padF ky 0 (C0 b) b j) (k + 1))) S1)) ((uS0 (p := b) (i := k) (by omega) (by omega) (by omega)).trans (by rw [setRow_s, setRow_2, miK_s (g := fun j => PL j ^^^ padF ky 0 (C0 b) b j)])) dX5_seal_43 (fun H locs hP hD hS => ?_)
        have hP : va_P D vwCl (wM cI cZ cJ mo se co ou le wo ma pl tl tm th na si pa ta thr G ky DE cn got (setRow S0 b (miK (S0 b) (fun j => PL j ^^^ padF ky 0 (C0 b) b j) (k + 1))) C0 O0 L0 W0 S1 C1 O1 L1 W1 MP PL ML DL TH NM SZ PT TK) _ := hP
        have hD : va_D A (wM cI cZ cJ mo se co ou le wo ma pl tl tm th na si pa ta thr G ky DE cn got (setRow S0 b (miK (S0 b) (fun j => PL j ^^^ padF ky 0 (C0 b) b j) (k + 1))) C0 O0 L0 W0 S1 C1 O1 L1 W1 MP PL ML DL TH NM SZ PT TK) := hD
        refine lv_iinc (v := nI (k + 1)) (lv' := [(4, .int (nI (k + 1))), (0, .ref mo), (1, .int (nI 0)), (2, .int (nI b)), (3, .int (nI (25 * b)))]) hx hb dX5_seal_44 hl (k := 4) rfl (nI_add k 1) (by decide) rfl (fun ls hl => ?_)
        refine lv_goto (tgt := 12) hx hb dX5_seal_47 (by decide) ?_
        exact ihL1l (k + 1)  (by omega) (by omega)  _ _ _ hP hD hS (lv_sub hl [1, 2, 3, 4, 0] rfl)
  exact L1l (24 + 1) 0  (by omega) (by omega)  _ _ _ hP hD hS (lv_sub hl [2, 3, 4, 1, 0] rfl)

set_option maxHeartbeats 800000 in
set_option maxRecDepth 100000 in
theorem c_m_plain0 (l : Launch) (D : va_G) (cI cZ cJ : ClassId) (mo : Nat) (se : Nat) (co : Nat) (ou : Nat) (le : Nat) (wo : Nat) (ma : Nat) (pl : Nat) (tl : Nat) (tm : Nat) (th : Nat) (na : Nat) (si : Nat) (pa : Nat) (ta : Nat) (thr : Int32) (G : Int32) (ky : Int32) (DE : Int32) (cn : Nat) (got : Int32) (S0 : Nat → Nat → Int32) (C0 : Nat → Int32) (O0 : Nat → Int32) (L0 : Nat → Int32) (W0 : Nat → Nat → Int32) (S1 : Nat → Nat → Int32) (C1 : Nat → Int32) (O1 : Nat → Int32) (L1 : Nat → Int32) (W1 : Nat → Nat → Int32) (MP : Nat → Nat) (PL : Nat → Int32) (ML : Nat → Int32) (DL : Nat → Int32) (TH : Nat → Int32) (NM : Nat → Int64) (SZ : Nat → Nat) (PT : Nat → Nat) (TK : Nat → Int32) (b j : Nat) (hb0 : b < 7) (hj : j < 24) : KI l yX5_plainWord wsX5_plainWord ({ frames := 2, cells := 0, slots := 0, locals := 45 }) D (kty cI cZ cJ) [.ref mo, .int (nI 0), .int (nI b), .int (nI j)] (wM cI cZ cJ mo se co ou le wo ma pl tl tm th na si pa ta thr G ky DE cn got S0 C0 O0 L0 W0 S1 C1 O1 L1 W1 MP PL ML DL TH NM SZ PT TK) (fun r (_ : Unit) => r = decR ky 0 C0 S0 b j) (fun _ : Unit => (wM cI cZ cJ mo se co ou le wo ma pl tl tm th na si pa ta thr G ky DE cn got S0 C0 O0 L0 W0 S1 C1 O1 L1 W1 MP PL ML DL TH NM SZ PT TK)) 0 0 := by
  refine k_headI (cc := cX5_plainWord) (maxL := 4) (ret := (some .int)) (by decide) rfl (Nat.le_of_ble_eq_true rfl) ?_
  intro p e s m below meth c A ls args Q hx hb hr hml hts hown hlk hnm hA hK hP hD hS hl hQ
  have hl : lv_has ls 4 [(0, .ref mo), (1, .int (nI 0)), (2, .int (nI b)), (3, .int (nI j))] := hl
  refine lv_aload_n hx hb dX5_plainWord_0 rfl (lv_at hl 0 rfl) ?_
  refine va_get (D := D) (ci := 5) (v := .ref se) (C := RX5) (T := TX5) (N := 20) hx hb hts (by decide +kernel) hown hK hP 0 rfl rfl 5 (by decide) (hts (.fieldLink RX5 7 "VeiledFilesModel" "sealed" "[I") (by decide +kernel)) (fun _ h9 => h9) rfl dX5_plainWord_1 ?_
  refine lv_bipush (v := nI 25) hx hb dX5_plainWord_4 (by decide) ?_
  refine lv_iload_n hx hb dX5_plainWord_6 rfl (lv_at hl 1 rfl) ?_
  refine lv_iload_n hx hb dX5_plainWord_7 rfl (lv_at hl 2 rfl) ?_
  refine k_si (As := [.int (nI 0), .int (nI b)]) (rest := [.int (nI 25), .ref se]) (w2 := fun u : Unit => (wM cI cZ cJ mo se co ou le wo ma pl tl tm th na si pa ta thr G ky DE cn got S0 C0 O0 L0 W0 S1 C1 O1 L1 W1 MP PL ML DL TH NM SZ PT TK)) ⟨hx, hb, hml, hown, hts⟩ (c_m_place0 l D cI cZ cJ  b) (va_cwS 2 hts gX5_plainWord_X5_place rfl rfl rfl (by decide +kernel) ⟨Nat.le_of_ble_eq_true rfl, Nat.le_of_ble_eq_true rfl⟩) hP hD hK hS hA [] [0, 1, 2, 3, 4, 5, 6, 7, 8, 9, 10, 11, 12, 13, 14] [0, 1, 2, 3, 4, 5, 6, 7, 8, 9, 10, 11, 12, 13, 14] rfl rfl (by decide) (fun u => rfl) rfl hl.1 rfl (Nat.le_of_ble_eq_true rfl) dX5_plainWord_8 ⟨Nat.le_of_ble_eq_true rfl, Nat.le_of_ble_eq_true rfl⟩ (fun r u H locs hu1 hP hD hS => ?_)
  refine k_t1 (show r = nI b from hu1) ?_
  refine lv_imul hx hb dX5_plainWord_11 ?_
  refine k_t1 (show (nI 25) * (nI b) = nI (25 * b) from pk_mul _ _) ?_
  refine lv_iload_n hx hb dX5_plainWord_12 rfl (lv_at hl 3 rfl) ?_
  refine lv_iadd hx hb dX5_plainWord_13 ?_
  refine k_t1 (show (nI (25 * b)) + (nI j) = nI (25 * b + j) from nI_add _ _) ?_
  refine k_iald hx hb hK hP 1 0 rfl rfl (25 * b + j) (by omega) (by omega) (v := S0 b j) (rS0 (by omega) (by omega) (by omega)) dX5_plainWord_14 ?_
  refine lv_aload_n hx hb dX5_plainWord_15 rfl (lv_at hl 0 rfl) ?_
  refine lv_iload_n hx hb dX5_plainWord_16 rfl (lv_at hl 1 rfl) ?_
  refine lv_iload_n hx hb dX5_plainWord_17 rfl (lv_at hl 2 rfl) ?_
  refine lv_iload_n hx hb dX5_plainWord_18 rfl (lv_at hl 3 rfl) ?_
  refine k_vi (As := [.int (nI 0), .int (nI b), .int (nI j)]) (rest := [.int (S0 b j)]) (w2 := fun u : Unit => (wM cI cZ cJ mo se co ou le wo ma pl tl tm th na si pa ta thr G ky DE cn got S0 C0 O0 L0 W0 S1 C1 O1 L1 W1 MP PL ML DL TH NM SZ PT TK)) ⟨hx, hb, hml, hown, hts⟩ (c_m_pad0 l D cI cZ cJ mo se co ou le wo ma pl tl tm th na si pa ta thr G ky DE cn got S0 C0 O0 L0 W0 S1 C1 O1 L1 W1 MP PL ML DL TH NM SZ PT TK b j hb0) (cwV 3 hts gX5_plainWord_X5_pad rfl rfl rfl (by decide +kernel) ⟨Nat.le_of_ble_eq_true rfl, Nat.le_of_ble_eq_true rfl⟩) hP hD hK hS hA [0, 1, 2, 3, 4, 5, 6, 7, 8, 9, 10, 11, 12, 13, 14] [] [0, 1, 2, 3, 4, 5, 6, 7, 8, 9, 10, 11, 12, 13, 14] rfl rfl (by decide) (fun u => rfl) rfl rfl (q0 := 0) rfl rfl hl.1 rfl (Nat.le_of_ble_eq_true rfl) dX5_plainWord_19 ⟨Nat.le_of_ble_eq_true rfl, Nat.le_of_ble_eq_true rfl⟩ (fun r u H locs hu2 hP hD hS => ?_)
  refine k_t1 (show r = padF ky 0 (C0 b) b j from hu2) ?_
  refine lv_ixor hx hb dX5_plainWord_22 ?_
  exact k_reti () hx hb hr hK hS hlk dX5_plainWord_23 hP hD (by exact rfl) hQ

set_option maxHeartbeats 800000 in
set_option maxRecDepth 100000 in
theorem c_m_pad1 (l : Launch) (D : va_G) (cI cZ cJ : ClassId) (mo : Nat) (se : Nat) (co : Nat) (ou : Nat) (le : Nat) (wo : Nat) (ma : Nat) (pl : Nat) (tl : Nat) (tm : Nat) (th : Nat) (na : Nat) (si : Nat) (pa : Nat) (ta : Nat) (thr : Int32) (G : Int32) (ky : Int32) (DE : Int32) (cn : Nat) (got : Int32) (S0 : Nat → Nat → Int32) (C0 : Nat → Int32) (O0 : Nat → Int32) (L0 : Nat → Int32) (W0 : Nat → Nat → Int32) (S1 : Nat → Nat → Int32) (C1 : Nat → Int32) (O1 : Nat → Int32) (L1 : Nat → Int32) (W1 : Nat → Nat → Int32) (MP : Nat → Nat) (PL : Nat → Int32) (ML : Nat → Int32) (DL : Nat → Int32) (TH : Nat → Int32) (NM : Nat → Int64) (SZ : Nat → Nat) (PT : Nat → Nat) (TK : Nat → Int32) (b j : Nat) (hb0 : b < 63) : KI l yX5_pad wsX5_pad ({ frames := 1, cells := 0, slots := 0, locals := 21 }) D (kty cI cZ cJ) [.ref mo, .int (nI 1), .int (nI b), .int (nI j)] (wM cI cZ cJ mo se co ou le wo ma pl tl tm th na si pa ta thr G ky DE cn got S0 C0 O0 L0 W0 S1 C1 O1 L1 W1 MP PL ML DL TH NM SZ PT TK) (fun r (_ : Unit) => r = padF ky 1 (C1 b) b j) (fun _ : Unit => (wM cI cZ cJ mo se co ou le wo ma pl tl tm th na si pa ta thr G ky DE cn got S0 C0 O0 L0 W0 S1 C1 O1 L1 W1 MP PL ML DL TH NM SZ PT TK)) 0 0 := by
  refine k_headI (cc := cX5_pad) (maxL := 5) (ret := (some .int)) (by decide) rfl (Nat.le_of_ble_eq_true rfl) ?_
  intro p e s m below meth c A ls args Q hx hb hr hml hts hown hlk hnm hA hK hP hD hS hl hQ
  have hl : lv_has ls 5 [(0, .ref mo), (1, .int (nI 1)), (2, .int (nI b)), (3, .int (nI j))] := hl
  refine lv_aload_n hx hb dX5_pad_0 rfl (lv_at hl 0 rfl) ?_
  refine va_get (D := D) (ci := 5) (v := .int ky) (C := RX5) (T := TX5) (N := 20) hx hb hts (by decide +kernel) hown hK hP 0 rfl rfl 2 (by decide) (hts (.fieldLink RX5 76 "VeiledFilesModel" "key" "I") (by decide +kernel)) (fun _ h9 => h9) rfl dX5_pad_1 ?_
  refine lv_bipush (v := nI 64) hx hb dX5_pad_4 (by decide) ?_
  refine lv_iload_n hx hb dX5_pad_6 rfl (lv_at hl 1 rfl) ?_
  refine lv_imul hx hb dX5_pad_7 ?_
  refine lv_iload_n hx hb dX5_pad_8 rfl (lv_at hl 2 rfl) ?_
  refine lv_iadd hx hb dX5_pad_9 ?_
  refine lv_iconst (v := nI 1) hx hb dX5_pad_10 (by decide) ?_
  refine lv_iadd hx hb dX5_pad_11 ?_
  refine lv_ldc (v := -1640531535) hx hb hown (hts (.constant RX5 79 (-1640531535)) (by decide +kernel)) dX5_pad_12 ?_
  refine lv_imul hx hb dX5_pad_14 ?_
  refine lv_ixor hx hb dX5_pad_15 ?_
  refine lv_aload_n hx hb dX5_pad_16 rfl (lv_at hl 0 rfl) ?_
  refine va_get (D := D) (ci := 5) (v := .ref co) (C := RX5) (T := TX5) (N := 20) hx hb hts (by decide +kernel) hown hK hP 0 rfl rfl 6 (by decide) (hts (.fieldLink RX5 13 "VeiledFilesModel" "counters" "[I") (by decide +kernel)) (fun _ h9 => h9) rfl dX5_pad_17 ?_
  refine lv_iload_n hx hb dX5_pad_20 rfl (lv_at hl 1 rfl) ?_
  refine lv_iload_n hx hb dX5_pad_21 rfl (lv_at hl 2 rfl) ?_
  refine k_si (As := [.int (nI 1), .int (nI b)]) (rest := [.ref co, .int (ky ^^^ (((((nI 64) * (nI 1)) + (nI b)) + (nI 1)) * (-1640531535)))]) (w2 := fun u : Unit => (wM cI cZ cJ mo se co ou le wo ma pl tl tm th na si pa ta thr G ky DE cn got S0 C0 O0 L0 W0 S1 C1 O1 L1 W1 MP PL ML DL TH NM SZ PT TK)) ⟨hx, hb, hml, hown, hts⟩ (c_m_place1 l D cI cZ cJ  b) (va_cwS 2 hts gX5_pad_X5_place rfl rfl rfl (by decide +kernel) ⟨Nat.le_of_ble_eq_true rfl, Nat.le_of_ble_eq_true rfl⟩) hP hD hK hS hA [] [0, 1, 2, 3, 4, 5, 6, 7, 8, 9, 10, 11, 12, 13, 14] [0, 1, 2, 3, 4, 5, 6, 7, 8, 9, 10, 11, 12, 13, 14] rfl rfl (by decide) (fun u => rfl) rfl hl.1 rfl (Nat.le_of_ble_eq_true rfl) dX5_pad_22 ⟨Nat.le_of_ble_eq_true rfl, Nat.le_of_ble_eq_true rfl⟩ (fun r u H locs hu1 hP hD hS => ?_)
  refine k_t1 (show r = nI (7 + b) from hu1) ?_
  refine k_iald hx hb hK hP 2 0 rfl rfl (7 + b) (by omega) (by omega) (v := C1 b) (jn_1) dX5_pad_25 ?_
  refine lv_ldc (v := -2048144777) hx hb hown (hts (.constant RX5 84 (-2048144777)) (by decide +kernel)) dX5_pad_26 ?_
  refine lv_imul hx hb dX5_pad_28 ?_
  refine lv_ixor hx hb dX5_pad_29 ?_
  refine lv_iload_n hx hb dX5_pad_30 rfl (lv_at hl 3 rfl) ?_
  refine lv_iconst (v := nI 1) hx hb dX5_pad_31 (by decide) ?_
  refine lv_iadd hx hb dX5_pad_32 ?_
  refine lv_ldc (v := -1028477379) hx hb hown (hts (.constant RX5 85 (-1028477379)) (by decide +kernel)) dX5_pad_33 ?_
  refine lv_imul hx hb dX5_pad_35 ?_
  refine lv_ixor hx hb dX5_pad_36 ?_
  refine lv_topi (fun h0 eh0 => ?_)
  refine lv_istore (lv' := [(4, .int h0), (0, .ref mo), (1, .int (nI 1)), (2, .int (nI b)), (3, .int (nI j))]) hx hb dX5_pad_37 hl (by decide) rfl (fun ls hl => ?_)
  refine lv_iload hx hb dX5_pad_39 (lv_at hl 0 rfl) ?_
  refine lv_iload hx hb dX5_pad_41 (lv_at hl 0 rfl) ?_
  refine lv_bipush (v := nI 15) hx hb dX5_pad_43 (by decide) ?_
  refine lv_iushr (v := ush h0 (nI 15)) hx hb dX5_pad_45 rfl ?_
  refine lv_ixor hx hb dX5_pad_46 ?_
  refine lv_topi (fun h1 eh1 => ?_)
  refine lv_istore (lv' := [(4, .int h1), (0, .ref mo), (1, .int (nI 1)), (2, .int (nI b)), (3, .int (nI j))]) hx hb dX5_pad_47 hl (by decide) rfl (fun ls hl => ?_)
  refine lv_iload hx hb dX5_pad_49 (lv_at hl 0 rfl) ?_
  refine lv_ldc (v := 739982445) hx hb hown (hts (.constant RX5 86 (739982445)) (by decide +kernel)) dX5_pad_51 ?_
  refine lv_imul hx hb dX5_pad_53 ?_
  refine lv_topi (fun h2 eh2 => ?_)
  refine lv_istore (lv' := [(4, .int h2), (0, .ref mo), (1, .int (nI 1)), (2, .int (nI b)), (3, .int (nI j))]) hx hb dX5_pad_54 hl (by decide) rfl (fun ls hl => ?_)
  refine lv_iload hx hb dX5_pad_56 (lv_at hl 0 rfl) ?_
  refine lv_iload hx hb dX5_pad_58 (lv_at hl 0 rfl) ?_
  refine lv_bipush (v := nI 12) hx hb dX5_pad_60 (by decide) ?_
  refine lv_iushr (v := ush h2 (nI 12)) hx hb dX5_pad_62 rfl ?_
  refine lv_ixor hx hb dX5_pad_63 ?_
  refine lv_topi (fun h3 eh3 => ?_)
  refine lv_istore (lv' := [(4, .int h3), (0, .ref mo), (1, .int (nI 1)), (2, .int (nI b)), (3, .int (nI j))]) hx hb dX5_pad_64 hl (by decide) rfl (fun ls hl => ?_)
  refine lv_iload hx hb dX5_pad_66 (lv_at hl 0 rfl) ?_
  refine lv_ldc (v := 695872825) hx hb hown (hts (.constant RX5 87 (695872825)) (by decide +kernel)) dX5_pad_68 ?_
  refine lv_imul hx hb dX5_pad_70 ?_
  refine lv_topi (fun h4 eh4 => ?_)
  refine lv_istore (lv' := [(4, .int h4), (0, .ref mo), (1, .int (nI 1)), (2, .int (nI b)), (3, .int (nI j))]) hx hb dX5_pad_71 hl (by decide) rfl (fun ls hl => ?_)
  refine lv_iload hx hb dX5_pad_73 (lv_at hl 0 rfl) ?_
  refine lv_iload hx hb dX5_pad_75 (lv_at hl 0 rfl) ?_
  refine lv_bipush (v := nI 15) hx hb dX5_pad_77 (by decide) ?_
  refine lv_iushr (v := ush h4 (nI 15)) hx hb dX5_pad_79 rfl ?_
  refine lv_ixor hx hb dX5_pad_80 ?_
  exact k_reti () hx hb hr hK hS hlk dX5_pad_81 hP hD (by subst eh4; subst eh3; subst eh2; subst eh1; subst eh0; rfl) hQ

set_option maxHeartbeats 800000 in
set_option maxRecDepth 100000 in
theorem c_m_tag1 (l : Launch) (D : va_G) (cI cZ cJ : ClassId) (mo : Nat) (se : Nat) (co : Nat) (ou : Nat) (le : Nat) (wo : Nat) (ma : Nat) (pl : Nat) (tl : Nat) (tm : Nat) (th : Nat) (na : Nat) (si : Nat) (pa : Nat) (ta : Nat) (thr : Int32) (G : Int32) (ky : Int32) (DE : Int32) (cn : Nat) (got : Int32) (S0 : Nat → Nat → Int32) (C0 : Nat → Int32) (O0 : Nat → Int32) (L0 : Nat → Int32) (W0 : Nat → Nat → Int32) (S1 : Nat → Nat → Int32) (C1 : Nat → Int32) (O1 : Nat → Int32) (L1 : Nat → Int32) (W1 : Nat → Nat → Int32) (MP : Nat → Nat) (PL : Nat → Int32) (ML : Nat → Int32) (DL : Nat → Int32) (TH : Nat → Int32) (NM : Nat → Int64) (SZ : Nat → Nat) (PT : Nat → Nat) (TK : Nat → Int32) (b : Nat) (hb0 : b < 63) : KI l yX5_tag wsX5_tag ({ frames := 2, cells := 0, slots := 0, locals := 45 }) D (kty cI cZ cJ) [.ref mo, .int (nI 1), .int (nI b)] (wM cI cZ cJ mo se co ou le wo ma pl tl tm th na si pa ta thr G ky DE cn got S0 C0 O0 L0 W0 S1 C1 O1 L1 W1 MP PL ML DL TH NM SZ PT TK) (fun r (_ : Unit) => r = tagF ky 1 (C1 b) b (S1 b)) (fun _ : Unit => (wM cI cZ cJ mo se co ou le wo ma pl tl tm th na si pa ta thr G ky DE cn got S0 C0 O0 L0 W0 S1 C1 O1 L1 W1 MP PL ML DL TH NM SZ PT TK)) 0 0 := by
  refine k_headI (cc := cX5_tag) (maxL := 5) (ret := (some .int)) (by decide) rfl (Nat.le_of_ble_eq_true rfl) ?_
  intro p e s m below meth c A ls args Q hx hb hr hml hts hown hlk hnm hA hK hP hD hS hl hQ
  have hl : lv_has ls 5 [(0, .ref mo), (1, .int (nI 1)), (2, .int (nI b))] := hl
  refine lv_aload_n hx hb dX5_tag_0 rfl (lv_at hl 0 rfl) ?_
  refine lv_iload_n hx hb dX5_tag_1 rfl (lv_at hl 1 rfl) ?_
  refine lv_iload_n hx hb dX5_tag_2 rfl (lv_at hl 2 rfl) ?_
  refine lv_bipush (v := nI 24) hx hb dX5_tag_3 (by decide) ?_
  refine k_vi (As := [.int (nI 1), .int (nI b), .int (nI 24)]) (rest := []) (w2 := fun u : Unit => (wM cI cZ cJ mo se co ou le wo ma pl tl tm th na si pa ta thr G ky DE cn got S0 C0 O0 L0 W0 S1 C1 O1 L1 W1 MP PL ML DL TH NM SZ PT TK)) ⟨hx, hb, hml, hown, hts⟩ (c_m_pad1 l D cI cZ cJ mo se co ou le wo ma pl tl tm th na si pa ta thr G ky DE cn got S0 C0 O0 L0 W0 S1 C1 O1 L1 W1 MP PL ML DL TH NM SZ PT TK b 24 hb0) (cwV 3 hts gX5_tag_X5_pad rfl rfl rfl (by decide +kernel) ⟨Nat.le_of_ble_eq_true rfl, Nat.le_of_ble_eq_true rfl⟩) hP hD hK hS hA [0, 1, 2, 3, 4, 5, 6, 7, 8, 9, 10, 11, 12, 13, 14] [] [0, 1, 2, 3, 4, 5, 6, 7, 8, 9, 10, 11, 12, 13, 14] rfl rfl (by decide) (fun u => rfl) rfl rfl (q0 := 0) rfl rfl hl.1 rfl (Nat.le_of_ble_eq_true rfl) dX5_tag_5 ⟨Nat.le_of_ble_eq_true rfl, Nat.le_of_ble_eq_true rfl⟩ (fun r u H locs hu1 hP hD hS => ?_)
  refine k_t1 (show r = padF ky 1 (C1 b) b 24 from hu1) ?_
  refine lv_istore_n (lv' := [(3, .int (padF ky 1 (C1 b) b 24)), (0, .ref mo), (1, .int (nI 1)), (2, .int (nI b))]) hx hb dX5_tag_8 rfl hl (by decide) rfl (fun ls hl => ?_)
  refine lv_iconst (v := nI 0) hx hb dX5_tag_9 (by decide) ?_
  refine lv_istore (lv' := [(4, .int (nI 0)), (3, .int (padF ky 1 (C1 b) b 24)), (0, .ref mo), (1, .int (nI 1)), (2, .int (nI b))]) hx hb dX5_tag_10 hl (by decide) rfl (fun ls hl => ?_)
  have L1l : ∀ (nf k : Nat) (hvL1l : k ≤ 24) (hFL1l : 24 - k < nf) (H : Heap) (locs : List Loc) (ls : Array Slot), va_P D vwCl (wM cI cZ cJ mo se co ou le wo ma pl tl tm th na si pa ta thr G ky DE cn got S0 C0 O0 L0 W0 S1 C1 O1 L1 W1 MP PL ML DL TH NM SZ PT TK) H → va_D A (wM cI cZ cJ mo se co ou le wo ma pl tl tm th na si pa ta thr G ky DE cn got S0 C0 O0 L0 W0 S1 C1 O1 L1 W1 MP PL ML DL TH NM SZ PT TK) → va_S A s.heap H locs → lv_has ls 5 [(0, .ref mo), (1, .int (nI 1)), (2, .int (nI b)), (3, .int (tagN (padF ky 1 (C1 b) b 24) (S1 b) k)), (4, .int (nI k))] → W p l e ({ frames := 2, cells := 0, slots := 0, locals := 45 } : Room) s m args below meth c H locs 0 0 Q (F0 m 12 ls []) := by
    intro nf
    induction nf with
    | zero => intro k  hvL1l hFL1l; omega
    | succ nf ihL1l =>
      intro k  hvL1l hFL1l  H locs ls hP hD hS hl
      refine lv_iload hx hb dX5_tag_12 (lv_at hl 4 rfl) ?_
      refine lv_bipush (v := nI 24) hx hb dX5_tag_14 (by decide) ?_
      refine k_icmp_ge (tgt := 47) hx hb (by omega) (by omega) dX5_tag_16 (by decide) (fun c1 => ?_) (fun c1 => ?_)
      · skip
        obtain rfl : k = 24 := by omega
        refine lv_iload_n hx hb dX5_tag_47 rfl (lv_at hl 3 rfl) ?_
        exact k_reti () hx hb hr hK hS hlk dX5_tag_48 hP hD (by exact rfl) hQ
      · skip
        refine lv_iload_n hx hb dX5_tag_19 rfl (lv_at hl 3 rfl) ?_
        refine lv_aload_n hx hb dX5_tag_20 rfl (lv_at hl 0 rfl) ?_
        refine va_get (D := D) (ci := 5) (v := .ref se) (C := RX5) (T := TX5) (N := 20) hx hb hts (by decide +kernel) hown hK hP 0 rfl rfl 5 (by decide) (hts (.fieldLink RX5 7 "VeiledFilesModel" "sealed" "[I") (by decide +kernel)) (fun _ h9 => h9) rfl dX5_tag_21 ?_
        refine lv_bipush (v := nI 25) hx hb dX5_tag_24 (by decide) ?_
        refine lv_iload_n hx hb dX5_tag_26 rfl (lv_at hl 1 rfl) ?_
        refine lv_iload_n hx hb dX5_tag_27 rfl (lv_at hl 2 rfl) ?_
        refine k_si (As := [.int (nI 1), .int (nI b)]) (rest := [.int (nI 25), .ref se, .int (tagN (padF ky 1 (C1 b) b 24) (S1 b) k)]) (w2 := fun u : Unit => (wM cI cZ cJ mo se co ou le wo ma pl tl tm th na si pa ta thr G ky DE cn got S0 C0 O0 L0 W0 S1 C1 O1 L1 W1 MP PL ML DL TH NM SZ PT TK)) ⟨hx, hb, hml, hown, hts⟩ (c_m_place1 l D cI cZ cJ  b) (va_cwS 2 hts gX5_tag_X5_place rfl rfl rfl (by decide +kernel) ⟨Nat.le_of_ble_eq_true rfl, Nat.le_of_ble_eq_true rfl⟩) hP hD hK hS hA [] [0, 1, 2, 3, 4, 5, 6, 7, 8, 9, 10, 11, 12, 13, 14] [0, 1, 2, 3, 4, 5, 6, 7, 8, 9, 10, 11, 12, 13, 14] rfl rfl (by decide) (fun u => rfl) rfl hl.1 rfl (Nat.le_of_ble_eq_true rfl) dX5_tag_28 ⟨Nat.le_of_ble_eq_true rfl, Nat.le_of_ble_eq_true rfl⟩ (fun r u H locs hu2 hP hD hS => ?_)
        refine k_t1 (show r = nI (7 + b) from hu2) ?_
        refine lv_imul hx hb dX5_tag_31 ?_
        refine k_t1 (show (nI 25) * (nI (7 + b)) = nI (25 * (7 + b)) from pk_mul _ _) ?_
        refine lv_iload hx hb dX5_tag_32 (lv_at hl 4 rfl) ?_
        refine lv_iadd hx hb dX5_tag_34 ?_
        refine k_t1 (show (nI (25 * (7 + b))) + (nI k) = nI (25 * (7 + b) + k) from nI_add _ _) ?_
        refine k_iald hx hb hK hP 1 0 rfl rfl (25 * (7 + b) + k) (by omega) (by omega) (v := S1 b k) (rS1 (by omega) (by omega)) dX5_tag_35 ?_
        refine lv_ixor hx hb dX5_tag_36 ?_
        refine lv_ldc (v := 16777619) hx hb hown (hts (.constant RX5 91 (16777619)) (by decide +kernel)) dX5_tag_37 ?_
        refine lv_imul hx hb dX5_tag_39 ?_
        refine lv_istore_n (lv' := [(3, .int (((tagN (padF ky 1 (C1 b) b 24) (S1 b) k) ^^^ (S1 b k)) * (16777619))), (0, .ref mo), (1, .int (nI 1)), (2, .int (nI b)), (4, .int (nI k))]) hx hb dX5_tag_40 rfl hl (by decide) rfl (fun ls hl => ?_)
        refine lv_iinc (v := nI (k + 1)) (lv' := [(4, .int (nI (k + 1))), (3, .int (((tagN (padF ky 1 (C1 b) b 24) (S1 b) k) ^^^ (S1 b k)) * (16777619))), (0, .ref mo), (1, .int (nI 1)), (2, .int (nI b))]) hx hb dX5_tag_41 hl (k := 4) rfl (nI_add k 1) (by decide) rfl (fun ls hl => ?_)
        refine lv_goto (tgt := 12) hx hb dX5_tag_44 (by decide) ?_
        exact ihL1l (k + 1)  (by omega) (by omega)  _ _ _ hP hD hS (lv_sub hl [2, 3, 4, 1, 0] rfl)
  exact L1l (24 + 1) 0  (by omega) (by omega)  _ _ _ hP hD hS (lv_sub hl [2, 3, 4, 1, 0] rfl)

set_option maxHeartbeats 800000 in
set_option maxRecDepth 100000 in
theorem c_m_seal1 (l : Launch) (D : va_G) (cI cZ cJ : ClassId) (mo : Nat) (se : Nat) (co : Nat) (ou : Nat) (le : Nat) (wo : Nat) (ma : Nat) (pl : Nat) (tl : Nat) (tm : Nat) (th : Nat) (na : Nat) (si : Nat) (pa : Nat) (ta : Nat) (thr : Int32) (G : Int32) (ky : Int32) (DE : Int32) (cn : Nat) (got : Int32) (S0 : Nat → Nat → Int32) (C0 : Nat → Int32) (O0 : Nat → Int32) (L0 : Nat → Int32) (W0 : Nat → Nat → Int32) (S1 : Nat → Nat → Int32) (C1 : Nat → Int32) (O1 : Nat → Int32) (L1 : Nat → Int32) (W1 : Nat → Nat → Int32) (MP : Nat → Nat) (PL : Nat → Int32) (ML : Nat → Int32) (DL : Nat → Int32) (TH : Nat → Int32) (NM : Nat → Int64) (SZ : Nat → Nat) (PT : Nat → Nat) (TK : Nat → Int32) (b : Nat) (hb0 : b < 63) : KV l yX5_seal wsX5_seal ({ frames := 3, cells := 0, slots := 0, locals := 69 }) D (kty cI cZ cJ) [.ref mo, .int (nI 1), .int (nI b)] (wM cI cZ cJ mo se co ou le wo ma pl tl tm th na si pa ta thr G ky DE cn got S0 C0 O0 L0 W0 S1 C1 O1 L1 W1 MP PL ML DL TH NM SZ PT TK) (fun (_ : Unit) => True) (fun _ : Unit => (wM cI cZ cJ mo se co ou le wo ma pl tl tm th na si pa ta thr G ky DE cn got S0 C0 O0 L0 W0 (setRow S1 b (sealR ky 1 (C1 b) b PL)) C1 O1 L1 W1 MP PL ML DL TH NM SZ PT TK)) 0 0 := by
  refine k_headV (cc := cX5_seal) (maxL := 5) (ret := none) (by decide) rfl (Nat.le_of_ble_eq_true rfl) ?_
  intro p e s m below meth c A ls args Q hx hb hr hml hts hown hlk hnm hA hK hP hD hS hl hQ
  have hl : lv_has ls 5 [(0, .ref mo), (1, .int (nI 1)), (2, .int (nI b))] := hl
  refine lv_bipush (v := nI 25) hx hb dX5_seal_0 (by decide) ?_
  refine lv_iload_n hx hb dX5_seal_2 rfl (lv_at hl 1 rfl) ?_
  refine lv_iload_n hx hb dX5_seal_3 rfl (lv_at hl 2 rfl) ?_
  refine k_si (As := [.int (nI 1), .int (nI b)]) (rest := [.int (nI 25)]) (w2 := fun u : Unit => (wM cI cZ cJ mo se co ou le wo ma pl tl tm th na si pa ta thr G ky DE cn got S0 C0 O0 L0 W0 S1 C1 O1 L1 W1 MP PL ML DL TH NM SZ PT TK)) ⟨hx, hb, hml, hown, hts⟩ (c_m_place1 l D cI cZ cJ  b) (va_cwS 2 hts gX5_seal_X5_place rfl rfl rfl (by decide +kernel) ⟨Nat.le_of_ble_eq_true rfl, Nat.le_of_ble_eq_true rfl⟩) hP hD hK hS hA [] [0, 1, 2, 3, 4, 5, 6, 7, 8, 9, 10, 11, 12, 13, 14] [0, 1, 2, 3, 4, 5, 6, 7, 8, 9, 10, 11, 12, 13, 14] rfl rfl (by decide) (fun u => rfl) rfl hl.1 rfl (Nat.le_of_ble_eq_true rfl) dX5_seal_4 ⟨Nat.le_of_ble_eq_true rfl, Nat.le_of_ble_eq_true rfl⟩ (fun r u H locs hu1 hP hD hS => ?_)
  refine k_t1 (show r = nI (7 + b) from hu1) ?_
  refine lv_imul hx hb dX5_seal_7 ?_
  refine k_t1 (show (nI 25) * (nI (7 + b)) = nI (25 * (7 + b)) from pk_mul _ _) ?_
  refine lv_istore_n (lv' := [(3, .int (nI (25 * (7 + b)))), (0, .ref mo), (1, .int (nI 1)), (2, .int (nI b))]) hx hb dX5_seal_8 rfl hl (by decide) rfl (fun ls hl => ?_)
  refine lv_iconst (v := nI 0) hx hb dX5_seal_9 (by decide) ?_
  refine lv_istore (lv' := [(4, .int (nI 0)), (3, .int (nI (25 * (7 + b)))), (0, .ref mo), (1, .int (nI 1)), (2, .int (nI b))]) hx hb dX5_seal_10 hl (by decide) rfl (fun ls hl => ?_)
  have hE2 : (wM cI cZ cJ mo se co ou le wo ma pl tl tm th na si pa ta thr G ky DE cn got S0 C0 O0 L0 W0 S1 C1 O1 L1 W1 MP PL ML DL TH NM SZ PT TK) = (wM cI cZ cJ mo se co ou le wo ma pl tl tm th na si pa ta thr G ky DE cn got S0 C0 O0 L0 W0 (setRow S1 b (miK (S1 b) (fun j => PL j ^^^ padF ky 1 (C1 b) b j) 0)) C1 O1 L1 W1 MP PL ML DL TH NM SZ PT TK) := by rw [miK_0, setRow_id]
  rw [hE2] at hP hD
  have L1l : ∀ (nf k : Nat) (hvL1l : k ≤ 24) (hFL1l : 24 - k < nf) (H : Heap) (locs : List Loc) (ls : Array Slot), va_P D vwCl (wM cI cZ cJ mo se co ou le wo ma pl tl tm th na si pa ta thr G ky DE cn got S0 C0 O0 L0 W0 (setRow S1 b (miK (S1 b) (fun j => PL j ^^^ padF ky 1 (C1 b) b j) k)) C1 O1 L1 W1 MP PL ML DL TH NM SZ PT TK) H → va_D A (wM cI cZ cJ mo se co ou le wo ma pl tl tm th na si pa ta thr G ky DE cn got S0 C0 O0 L0 W0 (setRow S1 b (miK (S1 b) (fun j => PL j ^^^ padF ky 1 (C1 b) b j) k)) C1 O1 L1 W1 MP PL ML DL TH NM SZ PT TK) → va_S A s.heap H locs → lv_has ls 5 [(0, .ref mo), (1, .int (nI 1)), (2, .int (nI b)), (3, .int (nI (25 * (7 + b)))), (4, .int (nI k))] → W p l e ({ frames := 3, cells := 0, slots := 0, locals := 69 } : Room) s m args below meth c H locs 0 0 Q (F0 m 12 ls []) := by
    intro nf
    induction nf with
    | zero => intro k  hvL1l hFL1l; omega
    | succ nf ihL1l =>
      intro k  hvL1l hFL1l  H locs ls hP hD hS hl
      refine lv_iload hx hb dX5_seal_12 (lv_at hl 4 rfl) ?_
      refine lv_bipush (v := nI 24) hx hb dX5_seal_14 (by decide) ?_
      refine k_icmp_ge (tgt := 50) hx hb (by omega) (by omega) dX5_seal_16 (by decide) (fun c1 => ?_) (fun c1 => ?_)
      · skip
        obtain rfl : k = 24 := by omega
        refine lv_aload_n hx hb dX5_seal_50 rfl (lv_at hl 0 rfl) ?_
        refine va_get (D := D) (ci := 5) (v := .ref se) (C := RX5) (T := TX5) (N := 20) hx hb hts (by decide +kernel) hown hK hP 0 rfl rfl 5 (by decide) (hts (.fieldLink RX5 7 "VeiledFilesModel" "sealed" "[I") (by decide +kernel)) (fun _ h9 => h9) rfl dX5_seal_51 ?_
        refine lv_iload_n hx hb dX5_seal_54 rfl (lv_at hl 3 rfl) ?_
        refine lv_bipush (v := nI 24) hx hb dX5_seal_55 (by decide) ?_
        refine lv_iadd hx hb dX5_seal_57 ?_
        refine k_t1 (show (nI (25 * (7 + b))) + (nI 24) = nI (25 * (7 + b) + 24) from nI_add _ _) ?_
        refine lv_aload_n hx hb dX5_seal_58 rfl (lv_at hl 0 rfl) ?_
        refine lv_iload_n hx hb dX5_seal_59 rfl (lv_at hl 1 rfl) ?_
        refine lv_iload_n hx hb dX5_seal_60 rfl (lv_at hl 2 rfl) ?_
        refine k_vi (As := [.int (nI 1), .int (nI b)]) (rest := [.int (nI (25 * (7 + b) + 24)), .ref se]) (w2 := fun u : Unit => (wM cI cZ cJ mo se co ou le wo ma pl tl tm th na si pa ta thr G ky DE cn got S0 C0 O0 L0 W0 (setRow S1 b (miK (S1 b) (fun j => PL j ^^^ padF ky 1 (C1 b) b j) 24)) C1 O1 L1 W1 MP PL ML DL TH NM SZ PT TK)) ⟨hx, hb, hml, hown, hts⟩ (c_m_tag1 l D cI cZ cJ mo se co ou le wo ma pl tl tm th na si pa ta thr G ky DE cn got S0 C0 O0 L0 W0 (setRow S1 b (miK (S1 b) (fun j => PL j ^^^ padF ky 1 (C1 b) b j) 24)) C1 O1 L1 W1 MP PL ML DL TH NM SZ PT TK b hb0) (cwV 2 hts gX5_seal_X5_tag rfl rfl rfl (by decide +kernel) ⟨Nat.le_of_ble_eq_true rfl, Nat.le_of_ble_eq_true rfl⟩) hP hD hK hS hA [0, 1, 2, 3, 4, 5, 6, 7, 8, 9, 10, 11, 12, 13, 14] [] [0, 1, 2, 3, 4, 5, 6, 7, 8, 9, 10, 11, 12, 13, 14] rfl rfl (by decide) (fun u => rfl) rfl rfl (q0 := 0) rfl rfl hl.1 rfl (Nat.le_of_ble_eq_true rfl) dX5_seal_61 ⟨Nat.le_of_ble_eq_true rfl, Nat.le_of_ble_eq_true rfl⟩ (fun r u H locs hu3 hP hD hS => ?_)
        refine k_t1 (show r = tagF ky 1 (C1 b) b ((setRow S1 b (miK (S1 b) (fun j => PL j ^^^ padF ky 1 (C1 b) b j) 24)) b) from hu3) ?_
        refine k_iast hx hb hK hP hD hS 1 0 rfl rfl (25 * (7 + b) + 24) (by omega) (by omega) (g := fl25 (jn 7 S0 (setRow S1 b (sealR ky 1 (C1 b) b (miK (S1 b) PL 24))))) ((uS1 (p := b) (i := 24) (by omega) (by omega)).trans (by rw [setRow_s, setRow_2, mi_seal])) dX5_seal_64 (fun H locs hP hD hS => ?_)
        have hP : va_P D vwCl (wM cI cZ cJ mo se co ou le wo ma pl tl tm th na si pa ta thr G ky DE cn got S0 C0 O0 L0 W0 (setRow S1 b (sealR ky 1 (C1 b) b (miK (S1 b) PL 24))) C1 O1 L1 W1 MP PL ML DL TH NM SZ PT TK) _ := hP
        have hD : va_D A (wM cI cZ cJ mo se co ou le wo ma pl tl tm th na si pa ta thr G ky DE cn got S0 C0 O0 L0 W0 (setRow S1 b (sealR ky 1 (C1 b) b (miK (S1 b) PL 24))) C1 O1 L1 W1 MP PL ML DL TH NM SZ PT TK) := hD
        have hP : va_P D vwCl (wM cI cZ cJ mo se co ou le wo ma pl tl tm th na si pa ta thr G ky DE cn got S0 C0 O0 L0 W0 (setRow S1 b (sealR ky 1 (C1 b) b PL)) C1 O1 L1 W1 MP PL ML DL TH NM SZ PT TK) H := k_extP (q0 := 1) hP rfl (fun j hj => congrFun (by rw [← jn_r1, ← jn_r1]; exact fl25_rows (fun i hi => sealR_congr (fun j hj => miK_lt hj) hi)) j)
        have hD : va_D A (wM cI cZ cJ mo se co ou le wo ma pl tl tm th na si pa ta thr G ky DE cn got S0 C0 O0 L0 W0 (setRow S1 b (sealR ky 1 (C1 b) b PL)) C1 O1 L1 W1 MP PL ML DL TH NM SZ PT TK) := hD.set (p := 1) rfl
        exact k_retv () hx hb hr hK hS hlk dX5_seal_65 hP hD (trivial) hQ
      · skip
        refine lv_aload_n hx hb dX5_seal_19 rfl (lv_at hl 0 rfl) ?_
        refine va_get (D := D) (ci := 5) (v := .ref se) (C := RX5) (T := TX5) (N := 20) hx hb hts (by decide +kernel) hown hK hP 0 rfl rfl 5 (by decide) (hts (.fieldLink RX5 7 "VeiledFilesModel" "sealed" "[I") (by decide +kernel)) (fun _ h9 => h9) rfl dX5_seal_20 ?_
        refine lv_iload_n hx hb dX5_seal_23 rfl (lv_at hl 3 rfl) ?_
        refine lv_iload hx hb dX5_seal_24 (lv_at hl 4 rfl) ?_
        refine lv_iadd hx hb dX5_seal_26 ?_
        refine k_t1 (show (nI (25 * (7 + b))) + (nI k) = nI (25 * (7 + b) + k) from nI_add _ _) ?_
        refine lv_aload_n hx hb dX5_seal_27 rfl (lv_at hl 0 rfl) ?_
        refine va_get (D := D) (ci := 5) (v := .ref pl) (C := RX5) (T := TX5) (N := 20) hx hb hts (by decide +kernel) hown hK hP 0 rfl rfl 11 (by decide) (hts (.fieldLink RX5 29 "VeiledFilesModel" "plain" "[I") (by decide +kernel)) (fun _ h9 => h9) rfl dX5_seal_28 ?_
        refine lv_iload hx hb dX5_seal_31 (lv_at hl 4 rfl) ?_
        refine k_iald hx hb hK hP 7 0 rfl rfl k (by omega) (by omega) (v := PL k) (rfl) dX5_seal_33 ?_
        refine lv_aload_n hx hb dX5_seal_34 rfl (lv_at hl 0 rfl) ?_
        refine lv_iload_n hx hb dX5_seal_35 rfl (lv_at hl 1 rfl) ?_
        refine lv_iload_n hx hb dX5_seal_36 rfl (lv_at hl 2 rfl) ?_
        refine lv_iload hx hb dX5_seal_37 (lv_at hl 4 rfl) ?_
        refine k_vi (As := [.int (nI 1), .int (nI b), .int (nI k)]) (rest := [.int (PL k), .int (nI (25 * (7 + b) + k)), .ref se]) (w2 := fun u : Unit => (wM cI cZ cJ mo se co ou le wo ma pl tl tm th na si pa ta thr G ky DE cn got S0 C0 O0 L0 W0 (setRow S1 b (miK (S1 b) (fun j => PL j ^^^ padF ky 1 (C1 b) b j) k)) C1 O1 L1 W1 MP PL ML DL TH NM SZ PT TK)) ⟨hx, hb, hml, hown, hts⟩ (c_m_pad1 l D cI cZ cJ mo se co ou le wo ma pl tl tm th na si pa ta thr G ky DE cn got S0 C0 O0 L0 W0 (setRow S1 b (miK (S1 b) (fun j => PL j ^^^ padF ky 1 (C1 b) b j) k)) C1 O1 L1 W1 MP PL ML DL TH NM SZ PT TK b k hb0) (cwV 3 hts gX5_seal_X5_pad rfl rfl rfl (by decide +kernel) ⟨Nat.le_of_ble_eq_true rfl, Nat.le_of_ble_eq_true rfl⟩) hP hD hK hS hA [0, 1, 2, 3, 4, 5, 6, 7, 8, 9, 10, 11, 12, 13, 14] [] [0, 1, 2, 3, 4, 5, 6, 7, 8, 9, 10, 11, 12, 13, 14] rfl rfl (by decide) (fun u => rfl) rfl rfl (q0 := 0) rfl rfl hl.1 rfl (Nat.le_of_ble_eq_true rfl) dX5_seal_39 ⟨Nat.le_of_ble_eq_true rfl, Nat.le_of_ble_eq_true rfl⟩ (fun r u H locs hu4 hP hD hS => ?_)
        refine k_t1 (show r = padF ky 1 (C1 b) b k from hu4) ?_
        refine lv_ixor hx hb dX5_seal_42 ?_
        refine k_iast hx hb hK hP hD hS 1 0 rfl rfl (25 * (7 + b) + k) (by omega) (by omega) (g := fl25 (jn 7 S0 (setRow S1 b (miK (S1 b) (fun j => PL j ^^^ padF ky 1 (C1 b) b j) (k + 1))))) ((uS1 (p := b) (i := k) (by omega) (by omega)).trans (by rw [setRow_s, setRow_2, miK_s (g := fun j => PL j ^^^ padF ky 1 (C1 b) b j)])) dX5_seal_43 (fun H locs hP hD hS => ?_)
        have hP : va_P D vwCl (wM cI cZ cJ mo se co ou le wo ma pl tl tm th na si pa ta thr G ky DE cn got S0 C0 O0 L0 W0 (setRow S1 b (miK (S1 b) (fun j => PL j ^^^ padF ky 1 (C1 b) b j) (k + 1))) C1 O1 L1 W1 MP PL ML DL TH NM SZ PT TK) _ := hP
        have hD : va_D A (wM cI cZ cJ mo se co ou le wo ma pl tl tm th na si pa ta thr G ky DE cn got S0 C0 O0 L0 W0 (setRow S1 b (miK (S1 b) (fun j => PL j ^^^ padF ky 1 (C1 b) b j) (k + 1))) C1 O1 L1 W1 MP PL ML DL TH NM SZ PT TK) := hD
        refine lv_iinc (v := nI (k + 1)) (lv' := [(4, .int (nI (k + 1))), (0, .ref mo), (1, .int (nI 1)), (2, .int (nI b)), (3, .int (nI (25 * (7 + b))))]) hx hb dX5_seal_44 hl (k := 4) rfl (nI_add k 1) (by decide) rfl (fun ls hl => ?_)
        refine lv_goto (tgt := 12) hx hb dX5_seal_47 (by decide) ?_
        exact ihL1l (k + 1)  (by omega) (by omega)  _ _ _ hP hD hS (lv_sub hl [1, 2, 3, 4, 0] rfl)
  exact L1l (24 + 1) 0  (by omega) (by omega)  _ _ _ hP hD hS (lv_sub hl [2, 3, 4, 1, 0] rfl)

set_option maxHeartbeats 800000 in
set_option maxRecDepth 100000 in
theorem c_m_plain1 (l : Launch) (D : va_G) (cI cZ cJ : ClassId) (mo : Nat) (se : Nat) (co : Nat) (ou : Nat) (le : Nat) (wo : Nat) (ma : Nat) (pl : Nat) (tl : Nat) (tm : Nat) (th : Nat) (na : Nat) (si : Nat) (pa : Nat) (ta : Nat) (thr : Int32) (G : Int32) (ky : Int32) (DE : Int32) (cn : Nat) (got : Int32) (S0 : Nat → Nat → Int32) (C0 : Nat → Int32) (O0 : Nat → Int32) (L0 : Nat → Int32) (W0 : Nat → Nat → Int32) (S1 : Nat → Nat → Int32) (C1 : Nat → Int32) (O1 : Nat → Int32) (L1 : Nat → Int32) (W1 : Nat → Nat → Int32) (MP : Nat → Nat) (PL : Nat → Int32) (ML : Nat → Int32) (DL : Nat → Int32) (TH : Nat → Int32) (NM : Nat → Int64) (SZ : Nat → Nat) (PT : Nat → Nat) (TK : Nat → Int32) (b j : Nat) (hb0 : b < 63) (hj : j < 24) : KI l yX5_plainWord wsX5_plainWord ({ frames := 2, cells := 0, slots := 0, locals := 45 }) D (kty cI cZ cJ) [.ref mo, .int (nI 1), .int (nI b), .int (nI j)] (wM cI cZ cJ mo se co ou le wo ma pl tl tm th na si pa ta thr G ky DE cn got S0 C0 O0 L0 W0 S1 C1 O1 L1 W1 MP PL ML DL TH NM SZ PT TK) (fun r (_ : Unit) => r = decR ky 1 C1 S1 b j) (fun _ : Unit => (wM cI cZ cJ mo se co ou le wo ma pl tl tm th na si pa ta thr G ky DE cn got S0 C0 O0 L0 W0 S1 C1 O1 L1 W1 MP PL ML DL TH NM SZ PT TK)) 0 0 := by
  refine k_headI (cc := cX5_plainWord) (maxL := 4) (ret := (some .int)) (by decide) rfl (Nat.le_of_ble_eq_true rfl) ?_
  intro p e s m below meth c A ls args Q hx hb hr hml hts hown hlk hnm hA hK hP hD hS hl hQ
  have hl : lv_has ls 4 [(0, .ref mo), (1, .int (nI 1)), (2, .int (nI b)), (3, .int (nI j))] := hl
  refine lv_aload_n hx hb dX5_plainWord_0 rfl (lv_at hl 0 rfl) ?_
  refine va_get (D := D) (ci := 5) (v := .ref se) (C := RX5) (T := TX5) (N := 20) hx hb hts (by decide +kernel) hown hK hP 0 rfl rfl 5 (by decide) (hts (.fieldLink RX5 7 "VeiledFilesModel" "sealed" "[I") (by decide +kernel)) (fun _ h9 => h9) rfl dX5_plainWord_1 ?_
  refine lv_bipush (v := nI 25) hx hb dX5_plainWord_4 (by decide) ?_
  refine lv_iload_n hx hb dX5_plainWord_6 rfl (lv_at hl 1 rfl) ?_
  refine lv_iload_n hx hb dX5_plainWord_7 rfl (lv_at hl 2 rfl) ?_
  refine k_si (As := [.int (nI 1), .int (nI b)]) (rest := [.int (nI 25), .ref se]) (w2 := fun u : Unit => (wM cI cZ cJ mo se co ou le wo ma pl tl tm th na si pa ta thr G ky DE cn got S0 C0 O0 L0 W0 S1 C1 O1 L1 W1 MP PL ML DL TH NM SZ PT TK)) ⟨hx, hb, hml, hown, hts⟩ (c_m_place1 l D cI cZ cJ  b) (va_cwS 2 hts gX5_plainWord_X5_place rfl rfl rfl (by decide +kernel) ⟨Nat.le_of_ble_eq_true rfl, Nat.le_of_ble_eq_true rfl⟩) hP hD hK hS hA [] [0, 1, 2, 3, 4, 5, 6, 7, 8, 9, 10, 11, 12, 13, 14] [0, 1, 2, 3, 4, 5, 6, 7, 8, 9, 10, 11, 12, 13, 14] rfl rfl (by decide) (fun u => rfl) rfl hl.1 rfl (Nat.le_of_ble_eq_true rfl) dX5_plainWord_8 ⟨Nat.le_of_ble_eq_true rfl, Nat.le_of_ble_eq_true rfl⟩ (fun r u H locs hu1 hP hD hS => ?_)
  refine k_t1 (show r = nI (7 + b) from hu1) ?_
  refine lv_imul hx hb dX5_plainWord_11 ?_
  refine k_t1 (show (nI 25) * (nI (7 + b)) = nI (25 * (7 + b)) from pk_mul _ _) ?_
  refine lv_iload_n hx hb dX5_plainWord_12 rfl (lv_at hl 3 rfl) ?_
  refine lv_iadd hx hb dX5_plainWord_13 ?_
  refine k_t1 (show (nI (25 * (7 + b))) + (nI j) = nI (25 * (7 + b) + j) from nI_add _ _) ?_
  refine k_iald hx hb hK hP 1 0 rfl rfl (25 * (7 + b) + j) (by omega) (by omega) (v := S1 b j) (rS1 (by omega) (by omega)) dX5_plainWord_14 ?_
  refine lv_aload_n hx hb dX5_plainWord_15 rfl (lv_at hl 0 rfl) ?_
  refine lv_iload_n hx hb dX5_plainWord_16 rfl (lv_at hl 1 rfl) ?_
  refine lv_iload_n hx hb dX5_plainWord_17 rfl (lv_at hl 2 rfl) ?_
  refine lv_iload_n hx hb dX5_plainWord_18 rfl (lv_at hl 3 rfl) ?_
  refine k_vi (As := [.int (nI 1), .int (nI b), .int (nI j)]) (rest := [.int (S1 b j)]) (w2 := fun u : Unit => (wM cI cZ cJ mo se co ou le wo ma pl tl tm th na si pa ta thr G ky DE cn got S0 C0 O0 L0 W0 S1 C1 O1 L1 W1 MP PL ML DL TH NM SZ PT TK)) ⟨hx, hb, hml, hown, hts⟩ (c_m_pad1 l D cI cZ cJ mo se co ou le wo ma pl tl tm th na si pa ta thr G ky DE cn got S0 C0 O0 L0 W0 S1 C1 O1 L1 W1 MP PL ML DL TH NM SZ PT TK b j hb0) (cwV 3 hts gX5_plainWord_X5_pad rfl rfl rfl (by decide +kernel) ⟨Nat.le_of_ble_eq_true rfl, Nat.le_of_ble_eq_true rfl⟩) hP hD hK hS hA [0, 1, 2, 3, 4, 5, 6, 7, 8, 9, 10, 11, 12, 13, 14] [] [0, 1, 2, 3, 4, 5, 6, 7, 8, 9, 10, 11, 12, 13, 14] rfl rfl (by decide) (fun u => rfl) rfl rfl (q0 := 0) rfl rfl hl.1 rfl (Nat.le_of_ble_eq_true rfl) dX5_plainWord_19 ⟨Nat.le_of_ble_eq_true rfl, Nat.le_of_ble_eq_true rfl⟩ (fun r u H locs hu2 hP hD hS => ?_)
  refine k_t1 (show r = padF ky 1 (C1 b) b j from hu2) ?_
  refine lv_ixor hx hb dX5_plainWord_22 ?_
  exact k_reti () hx hb hr hK hS hlk dX5_plainWord_23 hP hD (by exact rfl) hQ

set_option maxHeartbeats 800000 in
set_option maxRecDepth 100000 in
theorem c_m_clear (l : Launch) (D : va_G) (cI cZ cJ : ClassId) (mo : Nat) (se : Nat) (co : Nat) (ou : Nat) (le : Nat) (wo : Nat) (ma : Nat) (pl : Nat) (tl : Nat) (tm : Nat) (th : Nat) (na : Nat) (si : Nat) (pa : Nat) (ta : Nat) (thr : Int32) (G : Int32) (ky : Int32) (DE : Int32) (cn : Nat) (got : Int32) (S0 : Nat → Nat → Int32) (C0 : Nat → Int32) (O0 : Nat → Int32) (L0 : Nat → Int32) (W0 : Nat → Nat → Int32) (S1 : Nat → Nat → Int32) (C1 : Nat → Int32) (O1 : Nat → Int32) (L1 : Nat → Int32) (W1 : Nat → Nat → Int32) (MP : Nat → Nat) (PL : Nat → Int32) (ML : Nat → Int32) (DL : Nat → Int32) (TH : Nat → Int32) (NM : Nat → Int64) (SZ : Nat → Nat) (PT : Nat → Nat) (TK : Nat → Int32)   : KV l yX5_clear wsX5_clear ({ frames := 0, cells := 0, slots := 0, locals := 0 }) D (kty cI cZ cJ) [.ref mo] (wM cI cZ cJ mo se co ou le wo ma pl tl tm th na si pa ta thr G ky DE cn got S0 C0 O0 L0 W0 S1 C1 O1 L1 W1 MP PL ML DL TH NM SZ PT TK) (fun (_ : Unit) => True) (fun _ : Unit => (wM cI cZ cJ mo se co ou le wo ma pl tl tm th na si pa ta thr G ky DE cn got S0 C0 O0 L0 W0 S1 C1 O1 L1 W1 MP zrow ML DL TH NM SZ PT TK)) 0 0 := by
  refine k_headV (cc := cX5_clear) (maxL := 2) (ret := none) (by decide) rfl (Nat.le_of_ble_eq_true rfl) ?_
  intro p e s m below meth c A ls args Q hx hb hr hml hts hown hlk hnm hA hK hP hD hS hl hQ
  have hl : lv_has ls 2 [(0, .ref mo)] := hl
  refine lv_iconst (v := nI 0) hx hb dX5_clear_0 (by decide) ?_
  refine lv_istore_n (lv' := [(1, .int (nI 0)), (0, .ref mo)]) hx hb dX5_clear_1 rfl hl (by decide) rfl (fun ls hl => ?_)
  have hE1 : (wM cI cZ cJ mo se co ou le wo ma pl tl tm th na si pa ta thr G ky DE cn got S0 C0 O0 L0 W0 S1 C1 O1 L1 W1 MP PL ML DL TH NM SZ PT TK) = (wM cI cZ cJ mo se co ou le wo ma pl tl tm th na si pa ta thr G ky DE cn got S0 C0 O0 L0 W0 S1 C1 O1 L1 W1 MP (zerK PL 0) ML DL TH NM SZ PT TK) := by rw [zerK_0]
  rw [hE1] at hP hD
  have L1l : ∀ (nf k : Nat) (hvL1l : k ≤ 24) (hFL1l : 24 - k < nf) (H : Heap) (locs : List Loc) (ls : Array Slot), va_P D vwCl (wM cI cZ cJ mo se co ou le wo ma pl tl tm th na si pa ta thr G ky DE cn got S0 C0 O0 L0 W0 S1 C1 O1 L1 W1 MP (zerK PL k) ML DL TH NM SZ PT TK) H → va_D A (wM cI cZ cJ mo se co ou le wo ma pl tl tm th na si pa ta thr G ky DE cn got S0 C0 O0 L0 W0 S1 C1 O1 L1 W1 MP (zerK PL k) ML DL TH NM SZ PT TK) → va_S A s.heap H locs → lv_has ls 2 [(0, .ref mo), (1, .int (nI k))] → W p l e ({ frames := 0, cells := 0, slots := 0, locals := 0 } : Room) s m args below meth c H locs 0 0 Q (F0 m 2 ls []) := by
    intro nf
    induction nf with
    | zero => intro k  hvL1l hFL1l; omega
    | succ nf ihL1l =>
      intro k  hvL1l hFL1l  H locs ls hP hD hS hl
      refine lv_iload_n hx hb dX5_clear_2 rfl (lv_at hl 1 rfl) ?_
      refine lv_bipush (v := nI 24) hx hb dX5_clear_3 (by decide) ?_
      refine k_icmp_ge (tgt := 21) hx hb (by omega) (by omega) dX5_clear_5 (by decide) (fun c1 => ?_) (fun c1 => ?_)
      · skip
        obtain rfl : k = 24 := by omega
        have hP : va_P D vwCl (wM cI cZ cJ mo se co ou le wo ma pl tl tm th na si pa ta thr G ky DE cn got S0 C0 O0 L0 W0 S1 C1 O1 L1 W1 MP zrow ML DL TH NM SZ PT TK) H := k_extP (q0 := 7) hP rfl (fun j hj => by simp [zerK, zrow, hj])
        have hD : va_D A (wM cI cZ cJ mo se co ou le wo ma pl tl tm th na si pa ta thr G ky DE cn got S0 C0 O0 L0 W0 S1 C1 O1 L1 W1 MP zrow ML DL TH NM SZ PT TK) := hD.set (p := 7) rfl
        exact k_retv () hx hb hr hK hS hlk dX5_clear_21 hP hD (trivial) hQ
      · skip
        refine lv_aload_n hx hb dX5_clear_8 rfl (lv_at hl 0 rfl) ?_
        refine va_get (D := D) (ci := 5) (v := .ref pl) (C := RX5) (T := TX5) (N := 20) hx hb hts (by decide +kernel) hown hK hP 0 rfl rfl 11 (by decide) (hts (.fieldLink RX5 29 "VeiledFilesModel" "plain" "[I") (by decide +kernel)) (fun _ h9 => h9) rfl dX5_clear_9 ?_
        refine lv_iload_n hx hb dX5_clear_12 rfl (lv_at hl 1 rfl) ?_
        refine lv_iconst (v := nI 0) hx hb dX5_clear_13 (by decide) ?_
        refine k_iast hx hb hK hP hD hS 7 0 rfl rfl k (by omega) (by omega) (g := (zerK PL (k + 1))) (zerK_s) dX5_clear_14 (fun H locs hP hD hS => ?_)
        have hP : va_P D vwCl (wM cI cZ cJ mo se co ou le wo ma pl tl tm th na si pa ta thr G ky DE cn got S0 C0 O0 L0 W0 S1 C1 O1 L1 W1 MP (zerK PL (k + 1)) ML DL TH NM SZ PT TK) _ := hP
        have hD : va_D A (wM cI cZ cJ mo se co ou le wo ma pl tl tm th na si pa ta thr G ky DE cn got S0 C0 O0 L0 W0 S1 C1 O1 L1 W1 MP (zerK PL (k + 1)) ML DL TH NM SZ PT TK) := hD
        refine lv_iinc (v := nI (k + 1)) (lv' := [(1, .int (nI (k + 1))), (0, .ref mo)]) hx hb dX5_clear_15 hl (k := 1) rfl (nI_add k 1) (by decide) rfl (fun ls hl => ?_)
        refine lv_goto (tgt := 2) hx hb dX5_clear_18 (by decide) ?_
        exact ihL1l (k + 1)  (by omega) (by omega)  _ _ _ hP hD hS (lv_sub hl [1, 0] rfl)
  exact L1l (24 + 1) 0  (by omega) (by omega)  _ _ _ hP hD hS (lv_sub hl [1, 0] rfl)

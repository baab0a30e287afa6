set_option maxHeartbeats 800000 in
set_option maxRecDepth 100000 in
theorem c_m_isBucket0_y (l : Launch) (D : va_G) (cI cZ cJ : ClassId)  (b : Nat) (hb0 : b < 7) : KI l yX5_isBucket wsX5_isBucket ({ frames := 1, cells := 0, slots := 0, locals := 20 }) D (kty cI cZ cJ) [.int (nI 0), .int (nI b)] (wN cI cZ cJ ) (fun r (_ : Unit) => r = 1) (fun _ : Unit => (wN cI cZ cJ )) 0 0 := by
  refine k_headI (cc := cX5_isBucket) (maxL := 2) (ret := (some .boolean)) (by decide) rfl (Nat.le_of_ble_eq_true rfl) ?_
  intro p e s m below meth c A ls args Q hx hb hr hml hts hown hlk hnm hA hK hP hD hS hl hQ
  have hl : lv_has ls 2 [(0, .int (nI 0)), (1, .int (nI b))] := hl
  refine lv_iload_n hx hb dX5_isBucket_0 rfl (lv_at hl 0 rfl) ?_
  refine lv_if_eq (tgt := 9) hx hb dX5_isBucket_1 (by decide) (fun ct => ?_) (fun ct => ?_)
  · skip
    refine lv_iload_n hx hb dX5_isBucket_9 rfl (lv_at hl 1 rfl) ?_
    refine lv_if_lt (tgt := 25) hx hb dX5_isBucket_10 (by decide) (fun c1 => ?_) (fun c1 => ?_)
    · skip
      exact absurd c1 (nI_pos (by omega))
    · skip
      refine lv_iload_n hx hb dX5_isBucket_13 rfl (lv_at hl 1 rfl) ?_
      refine lv_iload_n hx hb dX5_isBucket_14 rfl (lv_at hl 0 rfl) ?_
      refine k_si (As := [.int (nI 0)]) (rest := [.int (nI b)]) (w2 := fun u : Unit => (wN cI cZ cJ )) ⟨hx, hb, hml, hown, hts⟩ (c_m_buckets0 l D cI cZ cJ  ) (va_cwS 1 hts gX5_isBucket_X5_buckets rfl rfl rfl (by decide +kernel) ⟨Nat.le_of_ble_eq_true rfl, Nat.le_of_ble_eq_true rfl⟩) hP hD hK hS hA [] [] [] rfl rfl (by decide) (fun u => rfl) rfl hl.1 rfl (Nat.le_of_ble_eq_true rfl) dX5_isBucket_15 ⟨Nat.le_of_ble_eq_true rfl, Nat.le_of_ble_eq_true rfl⟩ (fun r u H locs hu1 hP hD hS => ?_)
      refine k_t1 (show r = nI 7 from hu1) ?_
      refine k_icmp_ge (tgt := 25) hx hb (by omega) (by omega) dX5_isBucket_18 (by decide) (fun c2 => ?_) (fun c2 => ?_)
      · skip
        omega
      · skip
        refine lv_iconst (v := nI 1) hx hb dX5_isBucket_21 (by decide) ?_
        refine lv_goto (tgt := 26) hx hb dX5_isBucket_22 (by decide) ?_
        exact k_retz () hx hb hr hK hS hlk dX5_isBucket_26 ((by first | exact Or.inl rfl | exact Or.inr rfl)) hP hD (by exact rfl) hQ
  · skip
    exact absurd rfl ct

set_option maxHeartbeats 800000 in
set_option maxRecDepth 100000 in
theorem c_m_isBucket0_n (l : Launch) (D : va_G) (cI cZ cJ : ClassId)  (y : Int32) (hy : noB 7 y = true) : KI l yX5_isBucket wsX5_isBucket ({ frames := 1, cells := 0, slots := 0, locals := 20 }) D (kty cI cZ cJ) [.int (nI 0), .int y] (wN cI cZ cJ ) (fun r (_ : Unit) => r = 0) (fun _ : Unit => (wN cI cZ cJ )) 0 0 := by
  refine k_headI (cc := cX5_isBucket) (maxL := 2) (ret := (some .boolean)) (by decide) rfl (Nat.le_of_ble_eq_true rfl) ?_
  intro p e s m below meth c A ls args Q hx hb hr hml hts hown hlk hnm hA hK hP hD hS hl hQ
  have hl : lv_has ls 2 [(0, .int (nI 0)), (1, .int y)] := hl
  refine lv_iload_n hx hb dX5_isBucket_0 rfl (lv_at hl 0 rfl) ?_
  refine lv_if_eq (tgt := 9) hx hb dX5_isBucket_1 (by decide) (fun ct => ?_) (fun ct => ?_)
  · skip
    refine lv_iload_n hx hb dX5_isBucket_9 rfl (lv_at hl 1 rfl) ?_
    refine lv_if_lt (tgt := 25) hx hb dX5_isBucket_10 (by decide) (fun c1 => ?_) (fun c1 => ?_)
    · skip
      refine lv_iconst (v := nI 0) hx hb dX5_isBucket_25 (by decide) ?_
      exact k_retz () hx hb hr hK hS hlk dX5_isBucket_26 ((by first | exact Or.inl rfl | exact Or.inr rfl)) hP hD (by exact rfl) hQ
    · skip
      refine lv_iload_n hx hb dX5_isBucket_13 rfl (lv_at hl 1 rfl) ?_
      refine lv_iload_n hx hb dX5_isBucket_14 rfl (lv_at hl 0 rfl) ?_
      refine k_si (As := [.int (nI 0)]) (rest := [.int y]) (w2 := fun u : Unit => (wN cI cZ cJ )) ⟨hx, hb, hml, hown, hts⟩ (c_m_buckets0 l D cI cZ cJ  ) (va_cwS 1 hts gX5_isBucket_X5_buckets rfl rfl rfl (by decide +kernel) ⟨Nat.le_of_ble_eq_true rfl, Nat.le_of_ble_eq_true rfl⟩) hP hD hK hS hA [] [] [] rfl rfl (by decide) (fun u => rfl) rfl hl.1 rfl (Nat.le_of_ble_eq_true rfl) dX5_isBucket_15 ⟨Nat.le_of_ble_eq_true rfl, Nat.le_of_ble_eq_true rfl⟩ (fun r u H locs hu1 hP hD hS => ?_)
      refine k_t1 (show r = nI 7 from hu1) ?_
      refine lv_icmp_ge (tgt := 25) hx hb dX5_isBucket_18 (by decide) (fun c2 => ?_) (fun c2 => ?_)
      · skip
        refine lv_iconst (v := nI 0) hx hb dX5_isBucket_25 (by decide) ?_
        exact k_retz () hx hb hr hK hS hlk dX5_isBucket_26 ((by first | exact Or.inl rfl | exact Or.inr rfl)) hP hD (by exact rfl) hQ
      · skip
        exact absurd hy (by simp [noB, c1, c2])
  · skip
    exact absurd rfl ct

set_option maxHeartbeats 800000 in
set_option maxRecDepth 100000 in
theorem c_m_sealed0_y (l : Launch) (D : va_G) (cI cZ cJ : ClassId) (mo : Nat) (se : Nat) (co : Nat) (ou : Nat) (le : Nat) (wo : Nat) (ma : Nat) (pl : Nat) (tl : Nat) (tm : Nat) (th : Nat) (na : Nat) (si : Nat) (pa : Nat) (ta : Nat) (thr : Int32) (G : Int32) (ky : Int32) (DE : Int32) (cn : Nat) (got : Int32) (S0 : Nat → Nat → Int32) (C0 : Nat → Int32) (O0 : Nat → Int32) (L0 : Nat → Int32) (W0 : Nat → Nat → Int32) (S1 : Nat → Nat → Int32) (C1 : Nat → Int32) (O1 : Nat → Int32) (L1 : Nat → Int32) (W1 : Nat → Nat → Int32) (MP : Nat → Nat) (PL : Nat → Int32) (ML : Nat → Int32) (DL : Nat → Int32) (TH : Nat → Int32) (NM : Nat → Int64) (SZ : Nat → Nat) (PT : Nat → Nat) (TK : Nat → Int32) (b i : Nat) (hb0 : b < 7) (hi : i < 25) : KI l yX5_sealed wsX5_sealed ({ frames := 2, cells := 0, slots := 0, locals := 41 }) D (kty cI cZ cJ) [.ref mo, .int (nI 0), .int (nI b), .int (nI i)] (wM cI cZ cJ mo se co ou le wo ma pl tl tm th na si pa ta thr G ky DE cn got S0 C0 O0 L0 W0 S1 C1 O1 L1 W1 MP PL ML DL TH NM SZ PT TK) (fun r (_ : Unit) => r = S0 b i) (fun _ : Unit => (wM cI cZ cJ mo se co ou le wo ma pl tl tm th na si pa ta 0 G ky DE cn got S0 C0 O0 L0 W0 S1 C1 O1 L1 W1 MP PL ML DL TH NM SZ PT TK)) 0 0 := by
  refine k_headI (cc := cX5_sealed) (maxL := 4) (ret := (some .int)) (by decide) rfl (Nat.le_of_ble_eq_true rfl) ?_
  intro p e s m below meth c A ls args Q hx hb hr hml hts hown hlk hnm hA hK hP hD hS hl hQ
  have hl : lv_has ls 4 [(0, .ref mo), (1, .int (nI 0)), (2, .int (nI b)), (3, .int (nI i))] := hl
  refine lv_iload_n hx hb dX5_sealed_0 rfl (lv_at hl 1 rfl) ?_
  refine lv_iload_n hx hb dX5_sealed_1 rfl (lv_at hl 2 rfl) ?_
  refine k_si (As := [.int (nI 0), .int (nI b)]) (rest := []) (w2 := fun u : Unit => (wM cI cZ cJ mo se co ou le wo ma pl tl tm th na si pa ta thr G ky DE cn got S0 C0 O0 L0 W0 S1 C1 O1 L1 W1 MP PL ML DL TH NM SZ PT TK)) ⟨hx, hb, hml, hown, hts⟩ (c_m_isBucket0_y l D cI cZ cJ  b hb0) (va_cwS 2 hts gX5_sealed_X5_isBucket rfl rfl rfl (by decide +kernel) ⟨Nat.le_of_ble_eq_true rfl, Nat.le_of_ble_eq_true rfl⟩) hP hD hK hS hA [] [0, 1, 2, 3, 4, 5, 6, 7, 8, 9, 10, 11, 12, 13, 14] [0, 1, 2, 3, 4, 5, 6, 7, 8, 9, 10, 11, 12, 13, 14] rfl rfl (by decide) (fun u => rfl) rfl hl.1 rfl (Nat.le_of_ble_eq_true rfl) dX5_sealed_2 ⟨Nat.le_of_ble_eq_true rfl, Nat.le_of_ble_eq_true rfl⟩ (fun r u H locs hu1 hP hD hS => ?_)
  refine k_t1 (show r = 1 from hu1) ?_
  refine lv_if_eq (tgt := 18) hx hb dX5_sealed_5 (by decide) (fun c1 => ?_) (fun c1 => ?_)
  · skip
    exact absurd c1 (by decide)
  · skip
    refine lv_iload_n hx hb dX5_sealed_8 rfl (lv_at hl 3 rfl) ?_
    refine lv_if_lt (tgt := 18) hx hb dX5_sealed_9 (by decide) (fun c2 => ?_) (fun c2 => ?_)
    · skip
      exact absurd c2 (nI_pos (by omega))
    · skip
      refine lv_iload_n hx hb dX5_sealed_12 rfl (lv_at hl 3 rfl) ?_
      refine lv_bipush (v := nI 25) hx hb dX5_sealed_13 (by decide) ?_
      refine k_icmp_lt (tgt := 24) hx hb (by omega) (by omega) dX5_sealed_15 (by decide) (fun c3 => ?_) (fun c3 => ?_)
      · skip
        refine lv_aload_n hx hb dX5_sealed_24 rfl (lv_at hl 0 rfl) ?_
        refine lv_iconst (v := nI 0) hx hb dX5_sealed_25 (by decide) ?_
        refine va_put (D := D) (ci := 5) (v := .int (nI 0)) (ty := .int) (C := RX5) (T := TX5) (N := 20) hx hb hts (by decide +kernel) tyX5 tyX5_ok nmX5 hown hK hP hD hS 0 rfl rfl 0 (by decide) (hts (.fieldLink RX5 58 "VeiledFilesModel" "thrown" "I") (by decide +kernel)) (fun _ h9 => h9) rfl (by decide +kernel) rfl rfl (Nat.le_of_ble_eq_true rfl) dX5_sealed_26 (fun H locs hP hD hS => ?_)
        have hP : va_P D vwCl (wM cI cZ cJ mo se co ou le wo ma pl tl tm th na si pa ta 0 G ky DE cn got S0 C0 O0 L0 W0 S1 C1 O1 L1 W1 MP PL ML DL TH NM SZ PT TK) _ := hP
        have hD : va_D A (wM cI cZ cJ mo se co ou le wo ma pl tl tm th na si pa ta 0 G ky DE cn got S0 C0 O0 L0 W0 S1 C1 O1 L1 W1 MP PL ML DL TH NM SZ PT TK) := hD
        refine lv_aload_n hx hb dX5_sealed_29 rfl (lv_at hl 0 rfl) ?_
        refine va_get (D := D) (ci := 5) (v := .ref se) (C := RX5) (T := TX5) (N := 20) hx hb hts (by decide +kernel) hown hK hP 0 rfl rfl 5 (by decide) (hts (.fieldLink RX5 7 "VeiledFilesModel" "sealed" "[I") (by decide +kernel)) (fun _ h9 => h9) rfl dX5_sealed_30 ?_
        refine lv_bipush (v := nI 25) hx hb dX5_sealed_33 (by decide) ?_
        refine lv_iload_n hx hb dX5_sealed_35 rfl (lv_at hl 1 rfl) ?_
        refine lv_iload_n hx hb dX5_sealed_36 rfl (lv_at hl 2 rfl) ?_
        refine k_si (As := [.int (nI 0), .int (nI b)]) (rest := [.int (nI 25), .ref se]) (w2 := fun u : Unit => (wM cI cZ cJ mo se co ou le wo ma pl tl tm th na si pa ta 0 G ky DE cn got S0 C0 O0 L0 W0 S1 C1 O1 L1 W1 MP PL ML DL TH NM SZ PT TK)) ⟨hx, hb, hml, hown, hts⟩ (c_m_place0 l D cI cZ cJ  b) (va_cwS 2 hts gX5_sealed_X5_place rfl rfl rfl (by decide +kernel) ⟨Nat.le_of_ble_eq_true rfl, Nat.le_of_ble_eq_true rfl⟩) hP hD hK hS hA [] [0, 1, 2, 3, 4, 5, 6, 7, 8, 9, 10, 11, 12, 13, 14] [0, 1, 2, 3, 4, 5, 6, 7, 8, 9, 10, 11, 12, 13, 14] rfl rfl (by decide) (fun u => rfl) rfl hl.1 rfl (Nat.le_of_ble_eq_true rfl) dX5_sealed_37 ⟨Nat.le_of_ble_eq_true rfl, Nat.le_of_ble_eq_true rfl⟩ (fun r u H locs hu2 hP hD hS => ?_)
        refine k_t1 (show r = nI b from hu2) ?_
        refine lv_imul hx hb dX5_sealed_40 ?_
        refine k_t1 (show (nI 25) * (nI b) = nI (25 * b) from pk_mul _ _) ?_
        refine lv_iload_n hx hb dX5_sealed_41 rfl (lv_at hl 3 rfl) ?_
        refine lv_iadd hx hb dX5_sealed_42 ?_
        refine k_t1 (show (nI (25 * b)) + (nI i) = nI (25 * b + i) from nI_add _ _) ?_
        refine k_iald hx hb hK hP 1 0 rfl rfl (25 * b + i) (by omega) (by omega) (v := S0 b i) (rS0 (p := b) (i := i) (by omega) hi (by omega)) dX5_sealed_43 ?_
        exact k_reti () hx hb hr hK hS hlk dX5_sealed_44 hP hD (by exact rfl) hQ
      · skip
        omega

set_option maxHeartbeats 800000 in
set_option maxRecDepth 100000 in
theorem c_m_sealed0_n1 (l : Launch) (D : va_G) (cI cZ cJ : ClassId) (mo : Nat) (se : Nat) (co : Nat) (ou : Nat) (le : Nat) (wo : Nat) (ma : Nat) (pl : Nat) (tl : Nat) (tm : Nat) (th : Nat) (na : Nat) (si : Nat) (pa : Nat) (ta : Nat) (thr : Int32) (G : Int32) (ky : Int32) (DE : Int32) (cn : Nat) (got : Int32) (S0 : Nat → Nat → Int32) (C0 : Nat → Int32) (O0 : Nat → Int32) (L0 : Nat → Int32) (W0 : Nat → Nat → Int32) (S1 : Nat → Nat → Int32) (C1 : Nat → Int32) (O1 : Nat → Int32) (L1 : Nat → Int32) (W1 : Nat → Nat → Int32) (MP : Nat → Nat) (PL : Nat → Int32) (ML : Nat → Int32) (DL : Nat → Int32) (TH : Nat → Int32) (NM : Nat → Int64) (SZ : Nat → Nat) (PT : Nat → Nat) (TK : Nat → Int32) (y i : Int32) (hy : noB 7 y = true) : KI l yX5_sealed wsX5_sealed ({ frames := 2, cells := 0, slots := 0, locals := 41 }) D (kty cI cZ cJ) [.ref mo, .int (nI 0), .int y, .int i] (wM cI cZ cJ mo se co ou le wo ma pl tl tm th na si pa ta thr G ky DE cn got S0 C0 O0 L0 W0 S1 C1 O1 L1 W1 MP PL ML DL TH NM SZ PT TK) (fun r (_ : Unit) => r = 0) (fun _ : Unit => (wM cI cZ cJ mo se co ou le wo ma pl tl tm th na si pa ta 1 G ky DE cn got S0 C0 O0 L0 W0 S1 C1 O1 L1 W1 MP PL ML DL TH NM SZ PT TK)) 0 0 := by
  refine k_headI (cc := cX5_sealed) (maxL := 4) (ret := (some .int)) (by decide) rfl (Nat.le_of_ble_eq_true rfl) ?_
  intro p e s m below meth c A ls args Q hx hb hr hml hts hown hlk hnm hA hK hP hD hS hl hQ
  have hl : lv_has ls 4 [(0, .ref mo), (1, .int (nI 0)), (2, .int y), (3, .int i)] := hl
  refine lv_iload_n hx hb dX5_sealed_0 rfl (lv_at hl 1 rfl) ?_
  refine lv_iload_n hx hb dX5_sealed_1 rfl (lv_at hl 2 rfl) ?_
  refine k_si (As := [.int (nI 0), .int y]) (rest := []) (w2 := fun u : Unit => (wM cI cZ cJ mo se co ou le wo ma pl tl tm th na si pa ta thr G ky DE cn got S0 C0 O0 L0 W0 S1 C1 O1 L1 W1 MP PL ML DL TH NM SZ PT TK)) ⟨hx, hb, hml, hown, hts⟩ (c_m_isBucket0_n l D cI cZ cJ  y hy) (va_cwS 2 hts gX5_sealed_X5_isBucket rfl rfl rfl (by decide +kernel) ⟨Nat.le_of_ble_eq_true rfl, Nat.le_of_ble_eq_true rfl⟩) hP hD hK hS hA [] [0, 1, 2, 3, 4, 5, 6, 7, 8, 9, 10, 11, 12, 13, 14] [0, 1, 2, 3, 4, 5, 6, 7, 8, 9, 10, 11, 12, 13, 14] rfl rfl (by decide) (fun u => rfl) rfl hl.1 rfl (Nat.le_of_ble_eq_true rfl) dX5_sealed_2 ⟨Nat.le_of_ble_eq_true rfl, Nat.le_of_ble_eq_true rfl⟩ (fun r u H locs hu1 hP hD hS => ?_)
  refine k_t1 (show r = 0 from hu1) ?_
  refine lv_if_eq (tgt := 18) hx hb dX5_sealed_5 (by decide) (fun c1 => ?_) (fun c1 => ?_)
  · skip
    refine lv_aload_n hx hb dX5_sealed_18 rfl (lv_at hl 0 rfl) ?_
    refine lv_iconst (v := nI 1) hx hb dX5_sealed_19 (by decide) ?_
    refine k_vi (As := [.int (nI 1)]) (rest := []) (w2 := fun u : Unit => (wM cI cZ cJ mo se co ou le wo ma pl tl tm th na si pa ta 1 G ky DE cn got S0 C0 O0 L0 W0 S1 C1 O1 L1 W1 MP PL ML DL TH NM SZ PT TK)) ⟨hx, hb, hml, hown, hts⟩ (c_m_raise l D cI cZ cJ mo se co ou le wo ma pl tl tm th na si pa ta thr G ky DE cn got S0 C0 O0 L0 W0 S1 C1 O1 L1 W1 MP PL ML DL TH NM SZ PT TK (nI 1)) (cwV 1 hts gX5_sealed_X5_raise rfl rfl rfl (by decide +kernel) ⟨Nat.le_of_ble_eq_true rfl, Nat.le_of_ble_eq_true rfl⟩) hP hD hK hS hA [0, 1, 2, 3, 4, 5, 6, 7, 8, 9, 10, 11, 12, 13, 14] [] [0, 1, 2, 3, 4, 5, 6, 7, 8, 9, 10, 11, 12, 13, 14] rfl rfl (by decide) (fun u => rfl) rfl rfl (q0 := 0) rfl rfl hl.1 rfl (Nat.le_of_ble_eq_true rfl) dX5_sealed_20 ⟨Nat.le_of_ble_eq_true rfl, Nat.le_of_ble_eq_true rfl⟩ (fun r u H locs hu2 hP hD hS => ?_)
    refine k_t1 (show r = 0 from hu2) ?_
    exact k_reti () hx hb hr hK hS hlk dX5_sealed_23 hP hD (by exact rfl) hQ
  · skip
    exact absurd rfl c1

set_option maxHeartbeats 800000 in
set_option maxRecDepth 100000 in
theorem c_m_sealed0_n2 (l : Launch) (D : va_G) (cI cZ cJ : ClassId) (mo : Nat) (se : Nat) (co : Nat) (ou : Nat) (le : Nat) (wo : Nat) (ma : Nat) (pl : Nat) (tl : Nat) (tm : Nat) (th : Nat) (na : Nat) (si : Nat) (pa : Nat) (ta : Nat) (thr : Int32) (G : Int32) (ky : Int32) (DE : Int32) (cn : Nat) (got : Int32) (S0 : Nat → Nat → Int32) (C0 : Nat → Int32) (O0 : Nat → Int32) (L0 : Nat → Int32) (W0 : Nat → Nat → Int32) (S1 : Nat → Nat → Int32) (C1 : Nat → Int32) (O1 : Nat → Int32) (L1 : Nat → Int32) (W1 : Nat → Nat → Int32) (MP : Nat → Nat) (PL : Nat → Int32) (ML : Nat → Int32) (DL : Nat → Int32) (TH : Nat → Int32) (NM : Nat → Int64) (SZ : Nat → Nat) (PT : Nat → Nat) (TK : Nat → Int32) (b : Nat) (i : Int32) (hb0 : b < 7) (hi : noB 25 i = true) : KI l yX5_sealed wsX5_sealed ({ frames := 2, cells := 0, slots := 0, locals := 41 }) D (kty cI cZ cJ) [.ref mo, .int (nI 0), .int (nI b), .int i] (wM cI cZ cJ mo se co ou le wo ma pl tl tm th na si pa ta thr G ky DE cn got S0 C0 O0 L0 W0 S1 C1 O1 L1 W1 MP PL ML DL TH NM SZ PT TK) (fun r (_ : Unit) => r = 0) (fun _ : Unit => (wM cI cZ cJ mo se co ou le wo ma pl tl tm th na si pa ta 1 G ky DE cn got S0 C0 O0 L0 W0 S1 C1 O1 L1 W1 MP PL ML DL TH NM SZ PT TK)) 0 0 := by
  refine k_headI (cc := cX5_sealed) (maxL := 4) (ret := (some .int)) (by decide) rfl (Nat.le_of_ble_eq_true rfl) ?_
  intro p e s m below meth c A ls args Q hx hb hr hml hts hown hlk hnm hA hK hP hD hS hl hQ
  have hl : lv_has ls 4 [(0, .ref mo), (1, .int (nI 0)), (2, .int (nI b)), (3, .int i)] := hl
  refine lv_iload_n hx hb dX5_sealed_0 rfl (lv_at hl 1 rfl) ?_
  refine lv_iload_n hx hb dX5_sealed_1 rfl (lv_at hl 2 rfl) ?_
  refine k_si (As := [.int (nI 0), .int (nI b)]) (rest := []) (w2 := fun u : Unit => (wM cI cZ cJ mo se co ou le wo ma pl tl tm th na si pa ta thr G ky DE cn got S0 C0 O0 L0 W0 S1 C1 O1 L1 W1 MP PL ML DL TH NM SZ PT TK)) ⟨hx, hb, hml, hown, hts⟩ (c_m_isBucket0_y l D cI cZ cJ  b hb0) (va_cwS 2 hts gX5_sealed_X5_isBucket rfl rfl rfl (by decide +kernel) ⟨Nat.le_of_ble_eq_true rfl, Nat.le_of_ble_eq_true rfl⟩) hP hD hK hS hA [] [0, 1, 2, 3, 4, 5, 6, 7, 8, 9, 10, 11, 12, 13, 14] [0, 1, 2, 3, 4, 5, 6, 7, 8, 9, 10, 11, 12, 13, 14] rfl rfl (by decide) (fun u => rfl) rfl hl.1 rfl (Nat.le_of_ble_eq_true rfl) dX5_sealed_2 ⟨Nat.le_of_ble_eq_true rfl, Nat.le_of_ble_eq_true rfl⟩ (fun r u H locs hu1 hP hD hS => ?_)
  refine k_t1 (show r = 1 from hu1) ?_
  refine lv_if_eq (tgt := 18) hx hb dX5_sealed_5 (by decide) (fun c1 => ?_) (fun c1 => ?_)
  · skip
    exact absurd c1 (by decide)
  · skip
    refine lv_iload_n hx hb dX5_sealed_8 rfl (lv_at hl 3 rfl) ?_
    refine lv_if_lt (tgt := 18) hx hb dX5_sealed_9 (by decide) (fun c2 => ?_) (fun c2 => ?_)
    · skip
      refine lv_aload_n hx hb dX5_sealed_18 rfl (lv_at hl 0 rfl) ?_
      refine lv_iconst (v := nI 1) hx hb dX5_sealed_19 (by decide) ?_
      refine k_vi (As := [.int (nI 1)]) (rest := []) (w2 := fun u : Unit => (wM cI cZ cJ mo se co ou le wo ma pl tl tm th na si pa ta 1 G ky DE cn got S0 C0 O0 L0 W0 S1 C1 O1 L1 W1 MP PL ML DL TH NM SZ PT TK)) ⟨hx, hb, hml, hown, hts⟩ (c_m_raise l D cI cZ cJ mo se co ou le wo ma pl tl tm th na si pa ta thr G ky DE cn got S0 C0 O0 L0 W0 S1 C1 O1 L1 W1 MP PL ML DL TH NM SZ PT TK (nI 1)) (cwV 1 hts gX5_sealed_X5_raise rfl rfl rfl (by decide +kernel) ⟨Nat.le_of_ble_eq_true rfl, Nat.le_of_ble_eq_true rfl⟩) hP hD hK hS hA [0, 1, 2, 3, 4, 5, 6, 7, 8, 9, 10, 11, 12, 13, 14] [] [0, 1, 2, 3, 4, 5, 6, 7, 8, 9, 10, 11, 12, 13, 14] rfl rfl (by decide) (fun u => rfl) rfl rfl (q0 := 0) rfl rfl hl.1 rfl (Nat.le_of_ble_eq_true rfl) dX5_sealed_20 ⟨Nat.le_of_ble_eq_true rfl, Nat.le_of_ble_eq_true rfl⟩ (fun r u H locs hu2 hP hD hS => ?_)
      refine k_t1 (show r = 0 from hu2) ?_
      exact k_reti () hx hb hr hK hS hlk dX5_sealed_23 hP hD (by exact rfl) hQ
    · skip
      refine lv_iload_n hx hb dX5_sealed_12 rfl (lv_at hl 3 rfl) ?_
      refine lv_bipush (v := nI 25) hx hb dX5_sealed_13 (by decide) ?_
      refine lv_icmp_lt (tgt := 24) hx hb dX5_sealed_15 (by decide) (fun c3 => ?_) (fun c3 => ?_)
      · skip
        exact absurd hi (by simp [noB, c2, Int32.not_le.mpr c3])
      · skip
        refine lv_aload_n hx hb dX5_sealed_18 rfl (lv_at hl 0 rfl) ?_
        refine lv_iconst (v := nI 1) hx hb dX5_sealed_19 (by decide) ?_
        refine k_vi (As := [.int (nI 1)]) (rest := []) (w2 := fun u : Unit => (wM cI cZ cJ mo se co ou le wo ma pl tl tm th na si pa ta 1 G ky DE cn got S0 C0 O0 L0 W0 S1 C1 O1 L1 W1 MP PL ML DL TH NM SZ PT TK)) ⟨hx, hb, hml, hown, hts⟩ (c_m_raise l D cI cZ cJ mo se co ou le wo ma pl tl tm th na si pa ta thr G ky DE cn got S0 C0 O0 L0 W0 S1 C1 O1 L1 W1 MP PL ML DL TH NM SZ PT TK (nI 1)) (cwV 1 hts gX5_sealed_X5_raise rfl rfl rfl (by decide +kernel) ⟨Nat.le_of_ble_eq_true rfl, Nat.le_of_ble_eq_true rfl⟩) hP hD hK hS hA [0, 1, 2, 3, 4, 5, 6, 7, 8, 9, 10, 11, 12, 13, 14] [] [0, 1, 2, 3, 4, 5, 6, 7, 8, 9, 10, 11, 12, 13, 14] rfl rfl (by decide) (fun u => rfl) rfl rfl (q0 := 0) rfl rfl hl.1 rfl (Nat.le_of_ble_eq_true rfl) dX5_sealed_20 ⟨Nat.le_of_ble_eq_true rfl, Nat.le_of_ble_eq_true rfl⟩ (fun r u H locs hu3 hP hD hS => ?_)
        refine k_t1 (show r = 0 from hu3) ?_
        exact k_reti () hx hb hr hK hS hlk dX5_sealed_23 hP hD (by exact rfl) hQ

set_option maxHeartbeats 800000 in
set_option maxRecDepth 100000 in
theorem c_m_alter0_y (l : Launch) (D : va_G) (cI cZ cJ : ClassId) (mo : Nat) (se : Nat) (co : Nat) (ou : Nat) (le : Nat) (wo : Nat) (ma : Nat) (pl : Nat) (tl : Nat) (tm : Nat) (th : Nat) (na : Nat) (si : Nat) (pa : Nat) (ta : Nat) (thr : Int32) (G : Int32) (ky : Int32) (DE : Int32) (cn : Nat) (got : Int32) (S0 : Nat → Nat → Int32) (C0 : Nat → Int32) (O0 : Nat → Int32) (L0 : Nat → Int32) (W0 : Nat → Nat → Int32) (S1 : Nat → Nat → Int32) (C1 : Nat → Int32) (O1 : Nat → Int32) (L1 : Nat → Int32) (W1 : Nat → Nat → Int32) (MP : Nat → Nat) (PL : Nat → Int32) (ML : Nat → Int32) (DL : Nat → Int32) (TH : Nat → Int32) (NM : Nat → Int64) (SZ : Nat → Nat) (PT : Nat → Nat) (TK : Nat → Int32) (b i : Nat) (v : Int32) (hb0 : b < 7) (hi : i < 25) (hw : ¬ wholeB ky 0 C0 (setRow S0 b (upd (S0 b) i v)) b) : KI l yX5_alter wsX5_alter ({ frames := 3, cells := 0, slots := 0, locals := 69 }) D (kty cI cZ cJ) [.ref mo, .int (nI 0), .int (nI b), .int (nI i), .int v] (wM cI cZ cJ mo se co ou le wo ma pl tl tm th na si pa ta thr G ky DE cn got S0 C0 O0 L0 W0 S1 C1 O1 L1 W1 MP PL ML DL TH NM SZ PT TK) (fun r (_ : Unit) => r = 1) (fun _ : Unit => (wM cI cZ cJ mo se co ou le wo ma pl tl tm th na si pa ta 0 G ky DE cn got (setRow S0 b (upd (S0 b) i v)) C0 O0 L0 W0 S1 C1 O1 L1 W1 MP PL ML DL TH NM SZ PT TK)) 0 0 := by
  refine k_headI (cc := cX5_alter) (maxL := 8) (ret := (some .boolean)) (by decide) rfl (Nat.le_of_ble_eq_true rfl) ?_
  intro p e s m below meth c A ls args Q hx hb hr hml hts hown hlk hnm hA hK hP hD hS hl hQ
  have hl : lv_has ls 8 [(0, .ref mo), (1, .int (nI 0)), (2, .int (nI b)), (3, .int (nI i)), (4, .int v)] := hl
  refine lv_aload_n hx hb dX5_alter_0 rfl (lv_at hl 0 rfl) ?_
  refine lv_iconst (v := nI 0) hx hb dX5_alter_1 (by decide) ?_
  refine va_put (D := D) (ci := 5) (v := .int (nI 0)) (ty := .int) (C := RX5) (T := TX5) (N := 20) hx hb hts (by decide +kernel) tyX5 tyX5_ok nmX5 hown hK hP hD hS 0 rfl rfl 0 (by decide) (hts (.fieldLink RX5 58 "VeiledFilesModel" "thrown" "I") (by decide +kernel)) (fun _ h9 => h9) rfl (by decide +kernel) rfl rfl (Nat.le_of_ble_eq_true rfl) dX5_alter_2 (fun H locs hP hD hS => ?_)
  have hP : va_P D vwCl (wM cI cZ cJ mo se co ou le wo ma pl tl tm th na si pa ta 0 G ky DE cn got S0 C0 O0 L0 W0 S1 C1 O1 L1 W1 MP PL ML DL TH NM SZ PT TK) _ := hP
  have hD : va_D A (wM cI cZ cJ mo se co ou le wo ma pl tl tm th na si pa ta 0 G ky DE cn got S0 C0 O0 L0 W0 S1 C1 O1 L1 W1 MP PL ML DL TH NM SZ PT TK) := hD
  refine lv_iload_n hx hb dX5_alter_5 rfl (lv_at hl 1 rfl) ?_
  refine lv_iload_n hx hb dX5_alter_6 rfl (lv_at hl 2 rfl) ?_
  refine k_si (As := [.int (nI 0), .int (nI b)]) (rest := []) (w2 := fun u : Unit => (wM cI cZ cJ mo se co ou le wo ma pl tl tm th na si pa ta 0 G ky DE cn got S0 C0 O0 L0 W0 S1 C1 O1 L1 W1 MP PL ML DL TH NM SZ PT TK)) ⟨hx, hb, hml, hown, hts⟩ (c_m_isBucket0_y l D cI cZ cJ  b hb0) (va_cwS 2 hts gX5_alter_X5_isBucket rfl rfl rfl (by decide +kernel) ⟨Nat.le_of_ble_eq_true rfl, Nat.le_of_ble_eq_true rfl⟩) hP hD hK hS hA [] [0, 1, 2, 3, 4, 5, 6, 7, 8, 9, 10, 11, 12, 13, 14] [0, 1, 2, 3, 4, 5, 6, 7, 8, 9, 10, 11, 12, 13, 14] rfl rfl (by decide) (fun u => rfl) rfl hl.1 rfl (Nat.le_of_ble_eq_true rfl) dX5_alter_7 ⟨Nat.le_of_ble_eq_true rfl, Nat.le_of_ble_eq_true rfl⟩ (fun r u H locs hu1 hP hD hS => ?_)
  refine k_t1 (show r = 1 from hu1) ?_
  refine lv_if_eq (tgt := 23) hx hb dX5_alter_10 (by decide) (fun c1 => ?_) (fun c1 => ?_)
  · skip
    exact absurd c1 (by decide)
  · skip
    refine lv_iload_n hx hb dX5_alter_13 rfl (lv_at hl 3 rfl) ?_
    refine lv_if_lt (tgt := 23) hx hb dX5_alter_14 (by decide) (fun c2 => ?_) (fun c2 => ?_)
    · skip
      exact absurd c2 (nI_pos (by omega))
    · skip
      refine lv_iload_n hx hb dX5_alter_17 rfl (lv_at hl 3 rfl) ?_
      refine lv_bipush (v := nI 25) hx hb dX5_alter_18 (by decide) ?_
      refine k_icmp_lt (tgt := 25) hx hb (by omega) (by omega) dX5_alter_20 (by decide) (fun c3 => ?_) (fun c3 => ?_)
      · skip
        refine lv_bipush (v := nI 25) hx hb dX5_alter_25 (by decide) ?_
        refine lv_iload_n hx hb dX5_alter_27 rfl (lv_at hl 1 rfl) ?_
        refine lv_iload_n hx hb dX5_alter_28 rfl (lv_at hl 2 rfl) ?_
        refine k_si (As := [.int (nI 0), .int (nI b)]) (rest := [.int (nI 25)]) (w2 := fun u : Unit => (wM cI cZ cJ mo se co ou le wo ma pl tl tm th na si pa ta 0 G ky DE cn got S0 C0 O0 L0 W0 S1 C1 O1 L1 W1 MP PL ML DL TH NM SZ PT TK)) ⟨hx, hb, hml, hown, hts⟩ (c_m_place0 l D cI cZ cJ  b) (va_cwS 2 hts gX5_alter_X5_place rfl rfl rfl (by decide +kernel) ⟨Nat.le_of_ble_eq_true rfl, Nat.le_of_ble_eq_true rfl⟩) hP hD hK hS hA [] [0, 1, 2, 3, 4, 5, 6, 7, 8, 9, 10, 11, 12, 13, 14] [0, 1, 2, 3, 4, 5, 6, 7, 8, 9, 10, 11, 12, 13, 14] rfl rfl (by decide) (fun u => rfl) rfl hl.1 rfl (Nat.le_of_ble_eq_true rfl) dX5_alter_29 ⟨Nat.le_of_ble_eq_true rfl, Nat.le_of_ble_eq_true rfl⟩ (fun r u H locs hu2 hP hD hS => ?_)
        refine k_t1 (show r = nI b from hu2) ?_
        refine lv_imul hx hb dX5_alter_32 ?_
        refine k_t1 (show (nI 25) * (nI b) = nI (25 * b) from pk_mul _ _) ?_
        refine lv_istore (lv' := [(5, .int (nI (25 * b))), (0, .ref mo), (1, .int (nI 0)), (2, .int (nI b)), (3, .int (nI i)), (4, .int v)]) hx hb dX5_alter_33 hl (by decide) rfl (fun ls hl => ?_)
        refine lv_aload_n hx hb dX5_alter_35 rfl (lv_at hl 1 rfl) ?_
        refine va_get (D := D) (ci := 5) (v := .ref se) (C := RX5) (T := TX5) (N := 20) hx hb hts (by decide +kernel) hown hK hP 0 rfl rfl 5 (by decide) (hts (.fieldLink RX5 7 "VeiledFilesModel" "sealed" "[I") (by decide +kernel)) (fun _ h9 => h9) rfl dX5_alter_36 ?_
        refine lv_iload hx hb dX5_alter_39 (lv_at hl 0 rfl) ?_
        refine lv_iload_n hx hb dX5_alter_41 rfl (lv_at hl 4 rfl) ?_
        refine lv_iadd hx hb dX5_alter_42 ?_
        refine k_t1 (show (nI (25 * b)) + (nI i) = nI (25 * b + i) from nI_add _ _) ?_
        refine k_iald hx hb hK hP 1 0 rfl rfl (25 * b + i) (by omega) (by omega) (v := S0 b i) (rS0 (p := b) (i := i) (by omega) hi (by omega)) dX5_alter_43 ?_
        refine lv_istore (lv' := [(6, .int (S0 b i)), (5, .int (nI (25 * b))), (0, .ref mo), (1, .int (nI 0)), (2, .int (nI b)), (3, .int (nI i)), (4, .int v)]) hx hb dX5_alter_44 hl (by decide) rfl (fun ls hl => ?_)
        refine lv_aload_n hx hb dX5_alter_46 rfl (lv_at hl 2 rfl) ?_
        refine va_get (D := D) (ci := 5) (v := .ref se) (C := RX5) (T := TX5) (N := 20) hx hb hts (by decide +kernel) hown hK hP 0 rfl rfl 5 (by decide) (hts (.fieldLink RX5 7 "VeiledFilesModel" "sealed" "[I") (by decide +kernel)) (fun _ h9 => h9) rfl dX5_alter_47 ?_
        refine lv_iload hx hb dX5_alter_50 (lv_at hl 1 rfl) ?_
        refine lv_iload_n hx hb dX5_alter_52 rfl (lv_at hl 5 rfl) ?_
        refine lv_iadd hx hb dX5_alter_53 ?_
        refine k_t1 (show (nI (25 * b)) + (nI i) = nI (25 * b + i) from nI_add _ _) ?_
        refine lv_iload hx hb dX5_alter_54 (lv_at hl 6 rfl) ?_
        refine k_iast hx hb hK hP hD hS 1 0 rfl rfl (25 * b + i) (by omega) (by omega) (g := fl25 (jn 7 (setRow S0 b (upd (S0 b) i v)) S1)) (uS0 (p := b) (i := i) (by omega) hi (by omega)) dX5_alter_56 (fun H locs hP hD hS => ?_)
        have hP : va_P D vwCl (wM cI cZ cJ mo se co ou le wo ma pl tl tm th na si pa ta 0 G ky DE cn got (setRow S0 b (upd (S0 b) i v)) C0 O0 L0 W0 S1 C1 O1 L1 W1 MP PL ML DL TH NM SZ PT TK) _ := hP
        have hD : va_D A (wM cI cZ cJ mo se co ou le wo ma pl tl tm th na si pa ta 0 G ky DE cn got (setRow S0 b (upd (S0 b) i v)) C0 O0 L0 W0 S1 C1 O1 L1 W1 MP PL ML DL TH NM SZ PT TK) := hD
        refine lv_aload_n hx hb dX5_alter_57 rfl (lv_at hl 2 rfl) ?_
        refine va_get (D := D) (ci := 5) (v := .ref se) (C := RX5) (T := TX5) (N := 20) hx hb hts (by decide +kernel) hown hK hP 0 rfl rfl 5 (by decide) (hts (.fieldLink RX5 7 "VeiledFilesModel" "sealed" "[I") (by decide +kernel)) (fun _ h9 => h9) rfl dX5_alter_58 ?_
        refine lv_iload hx hb dX5_alter_61 (lv_at hl 1 rfl) ?_
        refine lv_bipush (v := nI 24) hx hb dX5_alter_63 (by decide) ?_
        refine lv_iadd hx hb dX5_alter_65 ?_
        refine k_t1 (show (nI (25 * b)) + (nI 24) = nI (25 * b + 24) from nI_add _ _) ?_
        refine k_iald hx hb hK hP 1 0 rfl rfl (25 * b + 24) (by omega) (by omega) (v := (setRow S0 b (upd (S0 b) i v)) b 24) (rS0 (p := b) (i := 24) (by omega) (by omega) (by omega)) dX5_alter_66 ?_
        refine lv_aload_n hx hb dX5_alter_67 rfl (lv_at hl 2 rfl) ?_
        refine lv_iload_n hx hb dX5_alter_68 rfl (lv_at hl 3 rfl) ?_
        refine lv_iload_n hx hb dX5_alter_69 rfl (lv_at hl 4 rfl) ?_
        refine k_vi (As := [.int (nI 0), .int (nI b)]) (rest := [.int ((setRow S0 b (upd (S0 b) i v)) b 24)]) (w2 := fun u : Unit => (wM cI cZ cJ mo se co ou le wo ma pl tl tm th na si pa ta 0 G ky DE cn got (setRow S0 b (upd (S0 b) i v)) C0 O0 L0 W0 S1 C1 O1 L1 W1 MP PL ML DL TH NM SZ PT TK)) ⟨hx, hb, hml, hown, hts⟩ (c_m_tag0 l D cI cZ cJ mo se co ou le wo ma pl tl tm th na si pa ta 0 G ky DE cn got (setRow S0 b (upd (S0 b) i v)) C0 O0 L0 W0 S1 C1 O1 L1 W1 MP PL ML DL TH NM SZ PT TK b hb0) (cwV 2 hts gX5_alter_X5_tag rfl rfl rfl (by decide +kernel) ⟨Nat.le_of_ble_eq_true rfl, Nat.le_of_ble_eq_true rfl⟩) hP hD hK hS hA [0, 1, 2, 3, 4, 5, 6, 7, 8, 9, 10, 11, 12, 13, 14] [] [0, 1, 2, 3, 4, 5, 6, 7, 8, 9, 10, 11, 12, 13, 14] rfl rfl (by decide) (fun u => rfl) rfl rfl (q0 := 0) rfl rfl hl.1 rfl (Nat.le_of_ble_eq_true rfl) dX5_alter_70 ⟨Nat.le_of_ble_eq_true rfl, Nat.le_of_ble_eq_true rfl⟩ (fun r u H locs hu3 hP hD hS => ?_)
        refine k_t1 (show r = tagF ky 0 (C0 b) b ((setRow S0 b (upd (S0 b) i v)) b) from hu3) ?_
        refine lv_icmp_ne (tgt := 80) hx hb dX5_alter_73 (by decide) (fun c4 => ?_) (fun c4 => ?_)
        · skip
          refine lv_iconst (v := nI 0) hx hb dX5_alter_80 (by decide) ?_
          refine lv_istore (lv' := [(7, .int (nI 0)), (6, .int (S0 b i)), (5, .int (nI (25 * b))), (0, .ref mo), (1, .int (nI 0)), (2, .int (nI b)), (3, .int (nI i)), (4, .int v)]) hx hb dX5_alter_81 hl (by decide) rfl (fun ls hl => ?_)
          refine lv_iload hx hb dX5_alter_83 (lv_at hl 0 rfl) ?_
          refine lv_if_eq (tgt := 99) hx hb dX5_alter_85 (by decide) (fun c5 => ?_) (fun c5 => ?_)
          · skip
            refine lv_iload hx hb dX5_alter_99 (lv_at hl 0 rfl) ?_
            refine lv_if_ne (tgt := 108) hx hb dX5_alter_101 (by decide) (fun c6 => ?_) (fun c6 => ?_)
            · skip
              exact absurd rfl c6
            · skip
              refine lv_iconst (v := nI 1) hx hb dX5_alter_104 (by decide) ?_
              refine lv_goto (tgt := 109) hx hb dX5_alter_105 (by decide) ?_
              exact k_retz () hx hb hr hK hS hlk dX5_alter_109 ((by first | exact Or.inl rfl | exact Or.inr rfl)) hP hD (by exact rfl) hQ
          · skip
            exact absurd rfl c5
        · skip
          exact absurd c4 hw
      · skip
        omega

set_option maxHeartbeats 800000 in
set_option maxRecDepth 100000 in
theorem c_m_alter0_w (l : Launch) (D : va_G) (cI cZ cJ : ClassId) (mo : Nat) (se : Nat) (co : Nat) (ou : Nat) (le : Nat) (wo : Nat) (ma : Nat) (pl : Nat) (tl : Nat) (tm : Nat) (th : Nat) (na : Nat) (si : Nat) (pa : Nat) (ta : Nat) (thr : Int32) (G : Int32) (ky : Int32) (DE : Int32) (cn : Nat) (got : Int32) (S0 : Nat → Nat → Int32) (C0 : Nat → Int32) (O0 : Nat → Int32) (L0 : Nat → Int32) (W0 : Nat → Nat → Int32) (S1 : Nat → Nat → Int32) (C1 : Nat → Int32) (O1 : Nat → Int32) (L1 : Nat → Int32) (W1 : Nat → Nat → Int32) (MP : Nat → Nat) (PL : Nat → Int32) (ML : Nat → Int32) (DL : Nat → Int32) (TH : Nat → Int32) (NM : Nat → Int64) (SZ : Nat → Nat) (PT : Nat → Nat) (TK : Nat → Int32) (b i : Nat) (v : Int32) (hb0 : b < 7) (hi : i < 25) (hw : wholeB ky 0 C0 (setRow S0 b (upd (S0 b) i v)) b) : KI l yX5_alter wsX5_alter ({ frames := 3, cells := 0, slots := 0, locals := 69 }) D (kty cI cZ cJ) [.ref mo, .int (nI 0), .int (nI b), .int (nI i), .int v] (wM cI cZ cJ mo se co ou le wo ma pl tl tm th na si pa ta thr G ky DE cn got S0 C0 O0 L0 W0 S1 C1 O1 L1 W1 MP PL ML DL TH NM SZ PT TK) (fun r (_ : Unit) => r = 0) (fun _ : Unit => (wM cI cZ cJ mo se co ou le wo ma pl tl tm th na si pa ta 0 G ky DE cn got S0 C0 O0 L0 W0 S1 C1 O1 L1 W1 MP PL ML DL TH NM SZ PT TK)) 0 0 := by
  refine k_headI (cc := cX5_alter) (maxL := 8) (ret := (some .boolean)) (by decide) rfl (Nat.le_of_ble_eq_true rfl) ?_
  intro p e s m below meth c A ls args Q hx hb hr hml hts hown hlk hnm hA hK hP hD hS hl hQ
  have hl : lv_has ls 8 [(0, .ref mo), (1, .int (nI 0)), (2, .int (nI b)), (3, .int (nI i)), (4, .int v)] := hl
  refine lv_aload_n hx hb dX5_alter_0 rfl (lv_at hl 0 rfl) ?_
  refine lv_iconst (v := nI 0) hx hb dX5_alter_1 (by decide) ?_
  refine va_put (D := D) (ci := 5) (v := .int (nI 0)) (ty := .int) (C := RX5) (T := TX5) (N := 20) hx hb hts (by decide +kernel) tyX5 tyX5_ok nmX5 hown hK hP hD hS 0 rfl rfl 0 (by decide) (hts (.fieldLink RX5 58 "VeiledFilesModel" "thrown" "I") (by decide +kernel)) (fun _ h9 => h9) rfl (by decide +kernel) rfl rfl (Nat.le_of_ble_eq_true rfl) dX5_alter_2 (fun H locs hP hD hS => ?_)
  have hP : va_P D vwCl (wM cI cZ cJ mo se co ou le wo ma pl tl tm th na si pa ta 0 G ky DE cn got S0 C0 O0 L0 W0 S1 C1 O1 L1 W1 MP PL ML DL TH NM SZ PT TK) _ := hP
  have hD : va_D A (wM cI cZ cJ mo se co ou le wo ma pl tl tm th na si pa ta 0 G ky DE cn got S0 C0 O0 L0 W0 S1 C1 O1 L1 W1 MP PL ML DL TH NM SZ PT TK) := hD
  refine lv_iload_n hx hb dX5_alter_5 rfl (lv_at hl 1 rfl) ?_
  refine lv_iload_n hx hb dX5_alter_6 rfl (lv_at hl 2 rfl) ?_
  refine k_si (As := [.int (nI 0), .int (nI b)]) (rest := []) (w2 := fun u : Unit => (wM cI cZ cJ mo se co ou le wo ma pl tl tm th na si pa ta 0 G ky DE cn got S0 C0 O0 L0 W0 S1 C1 O1 L1 W1 MP PL ML DL TH NM SZ PT TK)) ⟨hx, hb, hml, hown, hts⟩ (c_m_isBucket0_y l D cI cZ cJ  b hb0) (va_cwS 2 hts gX5_alter_X5_isBucket rfl rfl rfl (by decide +kernel) ⟨Nat.le_of_ble_eq_true rfl, Nat.le_of_ble_eq_true rfl⟩) hP hD hK hS hA [] [0, 1, 2, 3, 4, 5, 6, 7, 8, 9, 10, 11, 12, 13, 14] [0, 1, 2, 3, 4, 5, 6, 7, 8, 9, 10, 11, 12, 13, 14] rfl rfl (by decide) (fun u => rfl) rfl hl.1 rfl (Nat.le_of_ble_eq_true rfl) dX5_alter_7 ⟨Nat.le_of_ble_eq_true rfl, Nat.le_of_ble_eq_true rfl⟩ (fun r u H locs hu1 hP hD hS => ?_)
  refine k_t1 (show r = 1 from hu1) ?_
  refine lv_if_eq (tgt := 23) hx hb dX5_alter_10 (by decide) (fun c1 => ?_) (fun c1 => ?_)
  · skip
    exact absurd c1 (by decide)
  · skip
    refine lv_iload_n hx hb dX5_alter_13 rfl (lv_at hl 3 rfl) ?_
    refine lv_if_lt (tgt := 23) hx hb dX5_alter_14 (by decide) (fun c2 => ?_) (fun c2 => ?_)
    · skip
      exact absurd c2 (nI_pos (by omega))
    · skip
      refine lv_iload_n hx hb dX5_alter_17 rfl (lv_at hl 3 rfl) ?_
      refine lv_bipush (v := nI 25) hx hb dX5_alter_18 (by decide) ?_
      refine k_icmp_lt (tgt := 25) hx hb (by omega) (by omega) dX5_alter_20 (by decide) (fun c3 => ?_) (fun c3 => ?_)
      · skip
        refine lv_bipush (v := nI 25) hx hb dX5_alter_25 (by decide) ?_
        refine lv_iload_n hx hb dX5_alter_27 rfl (lv_at hl 1 rfl) ?_
        refine lv_iload_n hx hb dX5_alter_28 rfl (lv_at hl 2 rfl) ?_
        refine k_si (As := [.int (nI 0), .int (nI b)]) (rest := [.int (nI 25)]) (w2 := fun u : Unit => (wM cI cZ cJ mo se co ou le wo ma pl tl tm th na si pa ta 0 G ky DE cn got S0 C0 O0 L0 W0 S1 C1 O1 L1 W1 MP PL ML DL TH NM SZ PT TK)) ⟨hx, hb, hml, hown, hts⟩ (c_m_place0 l D cI cZ cJ  b) (va_cwS 2 hts gX5_alter_X5_place rfl rfl rfl (by decide +kernel) ⟨Nat.le_of_ble_eq_true rfl, Nat.le_of_ble_eq_true rfl⟩) hP hD hK hS hA [] [0, 1, 2, 3, 4, 5, 6, 7, 8, 9, 10, 11, 12, 13, 14] [0, 1, 2, 3, 4, 5, 6, 7, 8, 9, 10, 11, 12, 13, 14] rfl rfl (by decide) (fun u => rfl) rfl hl.1 rfl (Nat.le_of_ble_eq_true rfl) dX5_alter_29 ⟨Nat.le_of_ble_eq_true rfl, Nat.le_of_ble_eq_true rfl⟩ (fun r u H locs hu2 hP hD hS => ?_)
        refine k_t1 (show r = nI b from hu2) ?_
        refine lv_imul hx hb dX5_alter_32 ?_
        refine k_t1 (show (nI 25) * (nI b) = nI (25 * b) from pk_mul _ _) ?_
        refine lv_istore (lv' := [(5, .int (nI (25 * b))), (0, .ref mo), (1, .int (nI 0)), (2, .int (nI b)), (3, .int (nI i)), (4, .int v)]) hx hb dX5_alter_33 hl (by decide) rfl (fun ls hl => ?_)
        refine lv_aload_n hx hb dX5_alter_35 rfl (lv_at hl 1 rfl) ?_
        refine va_get (D := D) (ci := 5) (v := .ref se) (C := RX5) (T := TX5) (N := 20) hx hb hts (by decide +kernel) hown hK hP 0 rfl rfl 5 (by decide) (hts (.fieldLink RX5 7 "VeiledFilesModel" "sealed" "[I") (by decide +kernel)) (fun _ h9 => h9) rfl dX5_alter_36 ?_
        refine lv_iload hx hb dX5_alter_39 (lv_at hl 0 rfl) ?_
        refine lv_iload_n hx hb dX5_alter_41 rfl (lv_at hl 4 rfl) ?_
        refine lv_iadd hx hb dX5_alter_42 ?_
        refine k_t1 (show (nI (25 * b)) + (nI i) = nI (25 * b + i) from nI_add _ _) ?_
        refine k_iald hx hb hK hP 1 0 rfl rfl (25 * b + i) (by omega) (by omega) (v := S0 b i) (rS0 (p := b) (i := i) (by omega) hi (by omega)) dX5_alter_43 ?_
        refine lv_istore (lv' := [(6, .int (S0 b i)), (5, .int (nI (25 * b))), (0, .ref mo), (1, .int (nI 0)), (2, .int (nI b)), (3, .int (nI i)), (4, .int v)]) hx hb dX5_alter_44 hl (by decide) rfl (fun ls hl => ?_)
        refine lv_aload_n hx hb dX5_alter_46 rfl (lv_at hl 2 rfl) ?_
        refine va_get (D := D) (ci := 5) (v := .ref se) (C := RX5) (T := TX5) (N := 20) hx hb hts (by decide +kernel) hown hK hP 0 rfl rfl 5 (by decide) (hts (.fieldLink RX5 7 "VeiledFilesModel" "sealed" "[I") (by decide +kernel)) (fun _ h9 => h9) rfl dX5_alter_47 ?_
        refine lv_iload hx hb dX5_alter_50 (lv_at hl 1 rfl) ?_
        refine lv_iload_n hx hb dX5_alter_52 rfl (lv_at hl 5 rfl) ?_
        refine lv_iadd hx hb dX5_alter_53 ?_
        refine k_t1 (show (nI (25 * b)) + (nI i) = nI (25 * b + i) from nI_add _ _) ?_
        refine lv_iload hx hb dX5_alter_54 (lv_at hl 6 rfl) ?_
        refine k_iast hx hb hK hP hD hS 1 0 rfl rfl (25 * b + i) (by omega) (by omega) (g := fl25 (jn 7 (setRow S0 b (upd (S0 b) i v)) S1)) (uS0 (p := b) (i := i) (by omega) hi (by omega)) dX5_alter_56 (fun H locs hP hD hS => ?_)
        have hP : va_P D vwCl (wM cI cZ cJ mo se co ou le wo ma pl tl tm th na si pa ta 0 G ky DE cn got (setRow S0 b (upd (S0 b) i v)) C0 O0 L0 W0 S1 C1 O1 L1 W1 MP PL ML DL TH NM SZ PT TK) _ := hP
        have hD : va_D A (wM cI cZ cJ mo se co ou le wo ma pl tl tm th na si pa ta 0 G ky DE cn got (setRow S0 b (upd (S0 b) i v)) C0 O0 L0 W0 S1 C1 O1 L1 W1 MP PL ML DL TH NM SZ PT TK) := hD
        refine lv_aload_n hx hb dX5_alter_57 rfl (lv_at hl 2 rfl) ?_
        refine va_get (D := D) (ci := 5) (v := .ref se) (C := RX5) (T := TX5) (N := 20) hx hb hts (by decide +kernel) hown hK hP 0 rfl rfl 5 (by decide) (hts (.fieldLink RX5 7 "VeiledFilesModel" "sealed" "[I") (by decide +kernel)) (fun _ h9 => h9) rfl dX5_alter_58 ?_
        refine lv_iload hx hb dX5_alter_61 (lv_at hl 1 rfl) ?_
        refine lv_bipush (v := nI 24) hx hb dX5_alter_63 (by decide) ?_
        refine lv_iadd hx hb dX5_alter_65 ?_
        refine k_t1 (show (nI (25 * b)) + (nI 24) = nI (25 * b + 24) from nI_add _ _) ?_
        refine k_iald hx hb hK hP 1 0 rfl rfl (25 * b + 24) (by omega) (by omega) (v := (setRow S0 b (upd (S0 b) i v)) b 24) (rS0 (p := b) (i := 24) (by omega) (by omega) (by omega)) dX5_alter_66 ?_
        refine lv_aload_n hx hb dX5_alter_67 rfl (lv_at hl 2 rfl) ?_
        refine lv_iload_n hx hb dX5_alter_68 rfl (lv_at hl 3 rfl) ?_
        refine lv_iload_n hx hb dX5_alter_69 rfl (lv_at hl 4 rfl) ?_
        refine k_vi (As := [.int (nI 0), .int (nI b)]) (rest := [.int ((setRow S0 b (upd (S0 b) i v)) b 24)]) (w2 := fun u : Unit => (wM cI cZ cJ mo se co ou le wo ma pl tl tm th na si pa ta 0 G ky DE cn got (setRow S0 b (upd (S0 b) i v)) C0 O0 L0 W0 S1 C1 O1 L1 W1 MP PL ML DL TH NM SZ PT TK)) ⟨hx, hb, hml, hown, hts⟩ (c_m_tag0 l D cI cZ cJ mo se co ou le wo ma pl tl tm th na si pa ta 0 G ky DE cn got (setRow S0 b (upd (S0 b) i v)) C0 O0 L0 W0 S1 C1 O1 L1 W1 MP PL ML DL TH NM SZ PT TK b hb0) (cwV 2 hts gX5_alter_X5_tag rfl rfl rfl (by decide +kernel) ⟨Nat.le_of_ble_eq_true rfl, Nat.le_of_ble_eq_true rfl⟩) hP hD hK hS hA [0, 1, 2, 3, 4, 5, 6, 7, 8, 9, 10, 11, 12, 13, 14] [] [0, 1, 2, 3, 4, 5, 6, 7, 8, 9, 10, 11, 12, 13, 14] rfl rfl (by decide) (fun u => rfl) rfl rfl (q0 := 0) rfl rfl hl.1 rfl (Nat.le_of_ble_eq_true rfl) dX5_alter_70 ⟨Nat.le_of_ble_eq_true rfl, Nat.le_of_ble_eq_true rfl⟩ (fun r u H locs hu3 hP hD hS => ?_)
        refine k_t1 (show r = tagF ky 0 (C0 b) b ((setRow S0 b (upd (S0 b) i v)) b) from hu3) ?_
        refine lv_icmp_ne (tgt := 80) hx hb dX5_alter_73 (by decide) (fun c4 => ?_) (fun c4 => ?_)
        · skip
          exact absurd hw c4
        · skip
          refine lv_iconst (v := nI 1) hx hb dX5_alter_76 (by decide) ?_
          refine lv_goto (tgt := 81) hx hb dX5_alter_77 (by decide) ?_
          refine lv_istore (lv' := [(7, .int (nI 1)), (6, .int (S0 b i)), (5, .int (nI (25 * b))), (0, .ref mo), (1, .int (nI 0)), (2, .int (nI b)), (3, .int (nI i)), (4, .int v)]) hx hb dX5_alter_81 hl (by decide) rfl (fun ls hl => ?_)
          refine lv_iload hx hb dX5_alter_83 (lv_at hl 0 rfl) ?_
          refine lv_if_eq (tgt := 99) hx hb dX5_alter_85 (by decide) (fun c5 => ?_) (fun c5 => ?_)
          · skip
            exact absurd c5 (by decide)
          · skip
            refine lv_aload_n hx hb dX5_alter_88 rfl (lv_at hl 3 rfl) ?_
            refine va_get (D := D) (ci := 5) (v := .ref se) (C := RX5) (T := TX5) (N := 20) hx hb hts (by decide +kernel) hown hK hP 0 rfl rfl 5 (by decide) (hts (.fieldLink RX5 7 "VeiledFilesModel" "sealed" "[I") (by decide +kernel)) (fun _ h9 => h9) rfl dX5_alter_89 ?_
            refine lv_iload hx hb dX5_alter_92 (lv_at hl 2 rfl) ?_
            refine lv_iload_n hx hb dX5_alter_94 rfl (lv_at hl 6 rfl) ?_
            refine lv_iadd hx hb dX5_alter_95 ?_
            refine k_t1 (show (nI (25 * b)) + (nI i) = nI (25 * b + i) from nI_add _ _) ?_
            refine lv_iload hx hb dX5_alter_96 (lv_at hl 1 rfl) ?_
            refine k_iast hx hb hK hP hD hS 1 0 rfl rfl (25 * b + i) (by omega) (by omega) (g := fl25 (jn 7 S0 S1)) ((uS0 (p := b) (i := i) (by omega) hi (by omega)).trans (by rw [setRow_s, setRow_2, upd_back, setRow_id])) dX5_alter_98 (fun H locs hP hD hS => ?_)
            have hP : va_P D vwCl (wM cI cZ cJ mo se co ou le wo ma pl tl tm th na si pa ta 0 G ky DE cn got S0 C0 O0 L0 W0 S1 C1 O1 L1 W1 MP PL ML DL TH NM SZ PT TK) _ := hP
            have hD : va_D A (wM cI cZ cJ mo se co ou le wo ma pl tl tm th na si pa ta 0 G ky DE cn got S0 C0 O0 L0 W0 S1 C1 O1 L1 W1 MP PL ML DL TH NM SZ PT TK) := hD
            refine lv_iload hx hb dX5_alter_99 (lv_at hl 0 rfl) ?_
            refine lv_if_ne (tgt := 108) hx hb dX5_alter_101 (by decide) (fun c6 => ?_) (fun c6 => ?_)
            · skip
              refine lv_iconst (v := nI 0) hx hb dX5_alter_108 (by decide) ?_
              exact k_retz () hx hb hr hK hS hlk dX5_alter_109 ((by first | exact Or.inl rfl | exact Or.inr rfl)) hP hD (by exact rfl) hQ
            · skip
              exact absurd c6 (by decide)
      · skip
        omega

set_option maxHeartbeats 800000 in
set_option maxRecDepth 100000 in
theorem c_m_alter0_n1 (l : Launch) (D : va_G) (cI cZ cJ : ClassId) (mo : Nat) (se : Nat) (co : Nat) (ou : Nat) (le : Nat) (wo : Nat) (ma : Nat) (pl : Nat) (tl : Nat) (tm : Nat) (th : Nat) (na : Nat) (si : Nat) (pa : Nat) (ta : Nat) (thr : Int32) (G : Int32) (ky : Int32) (DE : Int32) (cn : Nat) (got : Int32) (S0 : Nat → Nat → Int32) (C0 : Nat → Int32) (O0 : Nat → Int32) (L0 : Nat → Int32) (W0 : Nat → Nat → Int32) (S1 : Nat → Nat → Int32) (C1 : Nat → Int32) (O1 : Nat → Int32) (L1 : Nat → Int32) (W1 : Nat → Nat → Int32) (MP : Nat → Nat) (PL : Nat → Int32) (ML : Nat → Int32) (DL : Nat → Int32) (TH : Nat → Int32) (NM : Nat → Int64) (SZ : Nat → Nat) (PT : Nat → Nat) (TK : Nat → Int32) (y i v : Int32) (hy : noB 7 y = true) : KI l yX5_alter wsX5_alter ({ frames := 2, cells := 0, slots := 0, locals := 41 }) D (kty cI cZ cJ) [.ref mo, .int (nI 0), .int y, .int i, .int v] (wM cI cZ cJ mo se co ou le wo ma pl tl tm th na si pa ta thr G ky DE cn got S0 C0 O0 L0 W0 S1 C1 O1 L1 W1 MP PL ML DL TH NM SZ PT TK) (fun r (_ : Unit) => r = 0) (fun _ : Unit => (wM cI cZ cJ mo se co ou le wo ma pl tl tm th na si pa ta 0 G ky DE cn got S0 C0 O0 L0 W0 S1 C1 O1 L1 W1 MP PL ML DL TH NM SZ PT TK)) 0 0 := by
  refine k_headI (cc := cX5_alter) (maxL := 8) (ret := (some .boolean)) (by decide) rfl (Nat.le_of_ble_eq_true rfl) ?_
  intro p e s m below meth c A ls args Q hx hb hr hml hts hown hlk hnm hA hK hP hD hS hl hQ
  have hl : lv_has ls 8 [(0, .ref mo), (1, .int (nI 0)), (2, .int y), (3, .int i), (4, .int v)] := hl
  refine lv_aload_n hx hb dX5_alter_0 rfl (lv_at hl 0 rfl) ?_
  refine lv_iconst (v := nI 0) hx hb dX5_alter_1 (by decide) ?_
  refine va_put (D := D) (ci := 5) (v := .int (nI 0)) (ty := .int) (C := RX5) (T := TX5) (N := 20) hx hb hts (by decide +kernel) tyX5 tyX5_ok nmX5 hown hK hP hD hS 0 rfl rfl 0 (by decide) (hts (.fieldLink RX5 58 "VeiledFilesModel" "thrown" "I") (by decide +kernel)) (fun _ h9 => h9) rfl (by decide +kernel) rfl rfl (Nat.le_of_ble_eq_true rfl) dX5_alter_2 (fun H locs hP hD hS => ?_)
  have hP : va_P D vwCl (wM cI cZ cJ mo se co ou le wo ma pl tl tm th na si pa ta 0 G ky DE cn got S0 C0 O0 L0 W0 S1 C1 O1 L1 W1 MP PL ML DL TH NM SZ PT TK) _ := hP
  have hD : va_D A (wM cI cZ cJ mo se co ou le wo ma pl tl tm th na si pa ta 0 G ky DE cn got S0 C0 O0 L0 W0 S1 C1 O1 L1 W1 MP PL ML DL TH NM SZ PT TK) := hD
  refine lv_iload_n hx hb dX5_alter_5 rfl (lv_at hl 1 rfl) ?_
  refine lv_iload_n hx hb dX5_alter_6 rfl (lv_at hl 2 rfl) ?_
  refine k_si (As := [.int (nI 0), .int y]) (rest := []) (w2 := fun u : Unit => (wM cI cZ cJ mo se co ou le wo ma pl tl tm th na si pa ta 0 G ky DE cn got S0 C0 O0 L0 W0 S1 C1 O1 L1 W1 MP PL ML DL TH NM SZ PT TK)) ⟨hx, hb, hml, hown, hts⟩ (c_m_isBucket0_n l D cI cZ cJ  y hy) (va_cwS 2 hts gX5_alter_X5_isBucket rfl rfl rfl (by decide +kernel) ⟨Nat.le_of_ble_eq_true rfl, Nat.le_of_ble_eq_true rfl⟩) hP hD hK hS hA [] [0, 1, 2, 3, 4, 5, 6, 7, 8, 9, 10, 11, 12, 13, 14] [0, 1, 2, 3, 4, 5, 6, 7, 8, 9, 10, 11, 12, 13, 14] rfl rfl (by decide) (fun u => rfl) rfl hl.1 rfl (Nat.le_of_ble_eq_true rfl) dX5_alter_7 ⟨Nat.le_of_ble_eq_true rfl, Nat.le_of_ble_eq_true rfl⟩ (fun r u H locs hu1 hP hD hS => ?_)
  refine k_t1 (show r = 0 from hu1) ?_
  refine lv_if_eq (tgt := 23) hx hb dX5_alter_10 (by decide) (fun c1 => ?_) (fun c1 => ?_)
  · skip
    refine lv_iconst (v := nI 0) hx hb dX5_alter_23 (by decide) ?_
    exact k_retz () hx hb hr hK hS hlk dX5_alter_24 ((by first | exact Or.inl rfl | exact Or.inr rfl)) hP hD (by exact rfl) hQ
  · skip
    exact absurd rfl c1

set_option maxHeartbeats 800000 in
set_option maxRecDepth 100000 in
theorem c_m_alter0_n2 (l : Launch) (D : va_G) (cI cZ cJ : ClassId) (mo : Nat) (se : Nat) (co : Nat) (ou : Nat) (le : Nat) (wo : Nat) (ma : Nat) (pl : Nat) (tl : Nat) (tm : Nat) (th : Nat) (na : Nat) (si : Nat) (pa : Nat) (ta : Nat) (thr : Int32) (G : Int32) (ky : Int32) (DE : Int32) (cn : Nat) (got : Int32) (S0 : Nat → Nat → Int32) (C0 : Nat → Int32) (O0 : Nat → Int32) (L0 : Nat → Int32) (W0 : Nat → Nat → Int32) (S1 : Nat → Nat → Int32) (C1 : Nat → Int32) (O1 : Nat → Int32) (L1 : Nat → Int32) (W1 : Nat → Nat → Int32) (MP : Nat → Nat) (PL : Nat → Int32) (ML : Nat → Int32) (DL : Nat → Int32) (TH : Nat → Int32) (NM : Nat → Int64) (SZ : Nat → Nat) (PT : Nat → Nat) (TK : Nat → Int32) (b : Nat) (i v : Int32) (hb0 : b < 7) (hi : noB 25 i = true) : KI l yX5_alter wsX5_alter ({ frames := 2, cells := 0, slots := 0, locals := 41 }) D (kty cI cZ cJ) [.ref mo, .int (nI 0), .int (nI b), .int i, .int v] (wM cI cZ cJ mo se co ou le wo ma pl tl tm th na si pa ta thr G ky DE cn got S0 C0 O0 L0 W0 S1 C1 O1 L1 W1 MP PL ML DL TH NM SZ PT TK) (fun r (_ : Unit) => r = 0) (fun _ : Unit => (wM cI cZ cJ mo se co ou le wo ma pl tl tm th na si pa ta 0 G ky DE cn got S0 C0 O0 L0 W0 S1 C1 O1 L1 W1 MP PL ML DL TH NM SZ PT TK)) 0 0 := by
  refine k_headI (cc := cX5_alter) (maxL := 8) (ret := (some .boolean)) (by decide) rfl (Nat.le_of_ble_eq_true rfl) ?_
  intro p e s m below meth c A ls args Q hx hb hr hml hts hown hlk hnm hA hK hP hD hS hl hQ
  have hl : lv_has ls 8 [(0, .ref mo), (1, .int (nI 0)), (2, .int (nI b)), (3, .int i), (4, .int v)] := hl
  refine lv_aload_n hx hb dX5_alter_0 rfl (lv_at hl 0 rfl) ?_
  refine lv_iconst (v := nI 0) hx hb dX5_alter_1 (by decide) ?_
  refine va_put (D := D) (ci := 5) (v := .int (nI 0)) (ty := .int) (C := RX5) (T := TX5) (N := 20) hx hb hts (by decide +kernel) tyX5 tyX5_ok nmX5 hown hK hP hD hS 0 rfl rfl 0 (by decide) (hts (.fieldLink RX5 58 "VeiledFilesModel" "thrown" "I") (by decide +kernel)) (fun _ h9 => h9) rfl (by decide +kernel) rfl rfl (Nat.le_of_ble_eq_true rfl) dX5_alter_2 (fun H locs hP hD hS => ?_)
  have hP : va_P D vwCl (wM cI cZ cJ mo se co ou le wo ma pl tl tm th na si pa ta 0 G ky DE cn got S0 C0 O0 L0 W0 S1 C1 O1 L1 W1 MP PL ML DL TH NM SZ PT TK) _ := hP
  have hD : va_D A (wM cI cZ cJ mo se co ou le wo ma pl tl tm th na si pa ta 0 G ky DE cn got S0 C0 O0 L0 W0 S1 C1 O1 L1 W1 MP PL ML DL TH NM SZ PT TK) := hD
  refine lv_iload_n hx hb dX5_alter_5 rfl (lv_at hl 1 rfl) ?_
  refine lv_iload_n hx hb dX5_alter_6 rfl (lv_at hl 2 rfl) ?_
  refine k_si (As := [.int (nI 0), .int (nI b)]) (rest := []) (w2 := fun u : Unit => (wM cI cZ cJ mo se co ou le wo ma pl tl tm th na si pa ta 0 G ky DE cn got S0 C0 O0 L0 W0 S1 C1 O1 L1 W1 MP PL ML DL TH NM SZ PT TK)) ⟨hx, hb, hml, hown, hts⟩ (c_m_isBucket0_y l D cI cZ cJ  b hb0) (va_cwS 2 hts gX5_alter_X5_isBucket rfl rfl rfl (by decide +kernel) ⟨Nat.le_of_ble_eq_true rfl, Nat.le_of_ble_eq_true rfl⟩) hP hD hK hS hA [] [0, 1, 2, 3, 4, 5, 6, 7, 8, 9, 10, 11, 12, 13, 14] [0, 1, 2, 3, 4, 5, 6, 7, 8, 9, 10, 11, 12, 13, 14] rfl rfl (by decide) (fun u => rfl) rfl hl.1 rfl (Nat.le_of_ble_eq_true rfl) dX5_alter_7 ⟨Nat.le_of_ble_eq_true rfl, Nat.le_of_ble_eq_true rfl⟩ (fun r u H locs hu1 hP hD hS => ?_)
  refine k_t1 (show r = 1 from hu1) ?_
  refine lv_if_eq (tgt := 23) hx hb dX5_alter_10 (by decide) (fun c1 => ?_) (fun c1 => ?_)
  · skip
    exact absurd c1 (by decide)
  · skip
    refine lv_iload_n hx hb dX5_alter_13 rfl (lv_at hl 3 rfl) ?_
    refine lv_if_lt (tgt := 23) hx hb dX5_alter_14 (by decide) (fun c2 => ?_) (fun c2 => ?_)
    · skip
      refine lv_iconst (v := nI 0) hx hb dX5_alter_23 (by decide) ?_
      exact k_retz () hx hb hr hK hS hlk dX5_alter_24 ((by first | exact Or.inl rfl | exact Or.inr rfl)) hP hD (by exact rfl) hQ
    · skip
      refine lv_iload_n hx hb dX5_alter_17 rfl (lv_at hl 3 rfl) ?_
      refine lv_bipush (v := nI 25) hx hb dX5_alter_18 (by decide) ?_
      refine lv_icmp_lt (tgt := 25) hx hb dX5_alter_20 (by decide) (fun c3 => ?_) (fun c3 => ?_)
      · skip
        exact absurd hi (by simp [noB, c2, Int32.not_le.mpr c3])
      · skip
        refine lv_iconst (v := nI 0) hx hb dX5_alter_23 (by decide) ?_
        exact k_retz () hx hb hr hK hS hlk dX5_alter_24 ((by first | exact Or.inl rfl | exact Or.inr rfl)) hP hD (by exact rfl) hQ

set_option maxHeartbeats 800000 in
set_option maxRecDepth 100000 in
theorem c_m_counter0_y (l : Launch) (D : va_G) (cI cZ cJ : ClassId) (mo : Nat) (se : Nat) (co : Nat) (ou : Nat) (le : Nat) (wo : Nat) (ma : Nat) (pl : Nat) (tl : Nat) (tm : Nat) (th : Nat) (na : Nat) (si : Nat) (pa : Nat) (ta : Nat) (thr : Int32) (G : Int32) (ky : Int32) (DE : Int32) (cn : Nat) (got : Int32) (S0 : Nat → Nat → Int32) (C0 : Nat → Int32) (O0 : Nat → Int32) (L0 : Nat → Int32) (W0 : Nat → Nat → Int32) (S1 : Nat → Nat → Int32) (C1 : Nat → Int32) (O1 : Nat → Int32) (L1 : Nat → Int32) (W1 : Nat → Nat → Int32) (MP : Nat → Nat) (PL : Nat → Int32) (ML : Nat → Int32) (DL : Nat → Int32) (TH : Nat → Int32) (NM : Nat → Int64) (SZ : Nat → Nat) (PT : Nat → Nat) (TK : Nat → Int32) (b : Nat) (hb0 : b < 7) : KI l yX5_counter wsX5_counter ({ frames := 2, cells := 0, slots := 0, locals := 41 }) D (kty cI cZ cJ) [.ref mo, .int (nI 0), .int (nI b)] (wM cI cZ cJ mo se co ou le wo ma pl tl tm th na si pa ta thr G ky DE cn got S0 C0 O0 L0 W0 S1 C1 O1 L1 W1 MP PL ML DL TH NM SZ PT TK) (fun r (_ : Unit) => r = C0 b) (fun _ : Unit => (wM cI cZ cJ mo se co ou le wo ma pl tl tm th na si pa ta 0 G ky DE cn got S0 C0 O0 L0 W0 S1 C1 O1 L1 W1 MP PL ML DL TH NM SZ PT TK)) 0 0 := by
  refine k_headI (cc := cX5_counter) (maxL := 3) (ret := (some .int)) (by decide) rfl (Nat.le_of_ble_eq_true rfl) ?_
  intro p e s m below meth c A ls args Q hx hb hr hml hts hown hlk hnm hA hK hP hD hS hl hQ
  have hl : lv_has ls 3 [(0, .ref mo), (1, .int (nI 0)), (2, .int (nI b))] := hl
  refine lv_aload_n hx hb dX5_counter_0 rfl (lv_at hl 0 rfl) ?_
  refine lv_iconst (v := nI 0) hx hb dX5_counter_1 (by decide) ?_
  refine va_put (D := D) (ci := 5) (v := .int (nI 0)) (ty := .int) (C := RX5) (T := TX5) (N := 20) hx hb hts (by decide +kernel) tyX5 tyX5_ok nmX5 hown hK hP hD hS 0 rfl rfl 0 (by decide) (hts (.fieldLink RX5 58 "VeiledFilesModel" "thrown" "I") (by decide +kernel)) (fun _ h9 => h9) rfl (by decide +kernel) rfl rfl (Nat.le_of_ble_eq_true rfl) dX5_counter_2 (fun H locs hP hD hS => ?_)
  have hP : va_P D vwCl (wM cI cZ cJ mo se co ou le wo ma pl tl tm th na si pa ta 0 G ky DE cn got S0 C0 O0 L0 W0 S1 C1 O1 L1 W1 MP PL ML DL TH NM SZ PT TK) _ := hP
  have hD : va_D A (wM cI cZ cJ mo se co ou le wo ma pl tl tm th na si pa ta 0 G ky DE cn got S0 C0 O0 L0 W0 S1 C1 O1 L1 W1 MP PL ML DL TH NM SZ PT TK) := hD
  refine lv_iload_n hx hb dX5_counter_5 rfl (lv_at hl 1 rfl) ?_
  refine lv_iload_n hx hb dX5_counter_6 rfl (lv_at hl 2 rfl) ?_
  refine k_si (As := [.int (nI 0), .int (nI b)]) (rest := []) (w2 := fun u : Unit => (wM cI cZ cJ mo se co ou le wo ma pl tl tm th na si pa ta 0 G ky DE cn got S0 C0 O0 L0 W0 S1 C1 O1 L1 W1 MP PL ML DL TH NM SZ PT TK)) ⟨hx, hb, hml, hown, hts⟩ (c_m_isBucket0_y l D cI cZ cJ  b hb0) (va_cwS 2 hts gX5_counter_X5_isBucket rfl rfl rfl (by decide +kernel) ⟨Nat.le_of_ble_eq_true rfl, Nat.le_of_ble_eq_true rfl⟩) hP hD hK hS hA [] [0, 1, 2, 3, 4, 5, 6, 7, 8, 9, 10, 11, 12, 13, 14] [0, 1, 2, 3, 4, 5, 6, 7, 8, 9, 10, 11, 12, 13, 14] rfl rfl (by decide) (fun u => rfl) rfl hl.1 rfl (Nat.le_of_ble_eq_true rfl) dX5_counter_7 ⟨Nat.le_of_ble_eq_true rfl, Nat.le_of_ble_eq_true rfl⟩ (fun r u H locs hu1 hP hD hS => ?_)
  refine k_t1 (show r = 1 from hu1) ?_
  refine lv_if_eq (tgt := 26) hx hb dX5_counter_10 (by decide) (fun c1 => ?_) (fun c1 => ?_)
  · skip
    exact absurd c1 (by decide)
  · skip
    refine lv_aload_n hx hb dX5_counter_13 rfl (lv_at hl 0 rfl) ?_
    refine va_get (D := D) (ci := 5) (v := .ref co) (C := RX5) (T := TX5) (N := 20) hx hb hts (by decide +kernel) hown hK hP 0 rfl rfl 6 (by decide) (hts (.fieldLink RX5 13 "VeiledFilesModel" "counters" "[I") (by decide +kernel)) (fun _ h9 => h9) rfl dX5_counter_14 ?_
    refine lv_iload_n hx hb dX5_counter_17 rfl (lv_at hl 1 rfl) ?_
    refine lv_iload_n hx hb dX5_counter_18 rfl (lv_at hl 2 rfl) ?_
    refine k_si (As := [.int (nI 0), .int (nI b)]) (rest := [.ref co]) (w2 := fun u : Unit => (wM cI cZ cJ mo se co ou le wo ma pl tl tm th na si pa ta 0 G ky DE cn got S0 C0 O0 L0 W0 S1 C1 O1 L1 W1 MP PL ML DL TH NM SZ PT TK)) ⟨hx, hb, hml, hown, hts⟩ (c_m_place0 l D cI cZ cJ  b) (va_cwS 2 hts gX5_counter_X5_place rfl rfl rfl (by decide +kernel) ⟨Nat.le_of_ble_eq_true rfl, Nat.le_of_ble_eq_true rfl⟩) hP hD hK hS hA [] [0, 1, 2, 3, 4, 5, 6, 7, 8, 9, 10, 11, 12, 13, 14] [0, 1, 2, 3, 4, 5, 6, 7, 8, 9, 10, 11, 12, 13, 14] rfl rfl (by decide) (fun u => rfl) rfl hl.1 rfl (Nat.le_of_ble_eq_true rfl) dX5_counter_19 ⟨Nat.le_of_ble_eq_true rfl, Nat.le_of_ble_eq_true rfl⟩ (fun r u H locs hu2 hP hD hS => ?_)
    refine k_t1 (show r = nI b from hu2) ?_
    refine k_iald hx hb hK hP 2 0 rfl rfl b (by omega) (by omega) (v := C0 b) (jn_0 (by omega)) dX5_counter_22 ?_
    refine lv_goto (tgt := 27) hx hb dX5_counter_23 (by decide) ?_
    exact k_reti () hx hb hr hK hS hlk dX5_counter_27 hP hD (by exact rfl) hQ

set_option maxHeartbeats 800000 in
set_option maxRecDepth 100000 in
theorem c_m_counter0_n (l : Launch) (D : va_G) (cI cZ cJ : ClassId) (mo : Nat) (se : Nat) (co : Nat) (ou : Nat) (le : Nat) (wo : Nat) (ma : Nat) (pl : Nat) (tl : Nat) (tm : Nat) (th : Nat) (na : Nat) (si : Nat) (pa : Nat) (ta : Nat) (thr : Int32) (G : Int32) (ky : Int32) (DE : Int32) (cn : Nat) (got : Int32) (S0 : Nat → Nat → Int32) (C0 : Nat → Int32) (O0 : Nat → Int32) (L0 : Nat → Int32) (W0 : Nat → Nat → Int32) (S1 : Nat → Nat → Int32) (C1 : Nat → Int32) (O1 : Nat → Int32) (L1 : Nat → Int32) (W1 : Nat → Nat → Int32) (MP : Nat → Nat) (PL : Nat → Int32) (ML : Nat → Int32) (DL : Nat → Int32) (TH : Nat → Int32) (NM : Nat → Int64) (SZ : Nat → Nat) (PT : Nat → Nat) (TK : Nat → Int32) (y : Int32) (hy : noB 7 y = true) : KI l yX5_counter wsX5_counter ({ frames := 2, cells := 0, slots := 0, locals := 41 }) D (kty cI cZ cJ) [.ref mo, .int (nI 0), .int y] (wM cI cZ cJ mo se co ou le wo ma pl tl tm th na si pa ta thr G ky DE cn got S0 C0 O0 L0 W0 S1 C1 O1 L1 W1 MP PL ML DL TH NM SZ PT TK) (fun r (_ : Unit) => r = -1) (fun _ : Unit => (wM cI cZ cJ mo se co ou le wo ma pl tl tm th na si pa ta 0 G ky DE cn got S0 C0 O0 L0 W0 S1 C1 O1 L1 W1 MP PL ML DL TH NM SZ PT TK)) 0 0 := by
  refine k_headI (cc := cX5_counter) (maxL := 3) (ret := (some .int)) (by decide) rfl (Nat.le_of_ble_eq_true rfl) ?_
  intro p e s m below meth c A ls args Q hx hb hr hml hts hown hlk hnm hA hK hP hD hS hl hQ
  have hl : lv_has ls 3 [(0, .ref mo), (1, .int (nI 0)), (2, .int y)] := hl
  refine lv_aload_n hx hb dX5_counter_0 rfl (lv_at hl 0 rfl) ?_
  refine lv_iconst (v := nI 0) hx hb dX5_counter_1 (by decide) ?_
  refine va_put (D := D) (ci := 5) (v := .int (nI 0)) (ty := .int) (C := RX5) (T := TX5) (N := 20) hx hb hts (by decide +kernel) tyX5 tyX5_ok nmX5 hown hK hP hD hS 0 rfl rfl 0 (by decide) (hts (.fieldLink RX5 58 "VeiledFilesModel" "thrown" "I") (by decide +kernel)) (fun _ h9 => h9) rfl (by decide +kernel) rfl rfl (Nat.le_of_ble_eq_true rfl) dX5_counter_2 (fun H locs hP hD hS => ?_)
  have hP : va_P D vwCl (wM cI cZ cJ mo se co ou le wo ma pl tl tm th na si pa ta 0 G ky DE cn got S0 C0 O0 L0 W0 S1 C1 O1 L1 W1 MP PL ML DL TH NM SZ PT TK) _ := hP
  have hD : va_D A (wM cI cZ cJ mo se co ou le wo ma pl tl tm th na si pa ta 0 G ky DE cn got S0 C0 O0 L0 W0 S1 C1 O1 L1 W1 MP PL ML DL TH NM SZ PT TK) := hD
  refine lv_iload_n hx hb dX5_counter_5 rfl (lv_at hl 1 rfl) ?_
  refine lv_iload_n hx hb dX5_counter_6 rfl (lv_at hl 2 rfl) ?_
  refine k_si (As := [.int (nI 0), .int y]) (rest := []) (w2 := fun u : Unit => (wM cI cZ cJ mo se co ou le wo ma pl tl tm th na si pa ta 0 G ky DE cn got S0 C0 O0 L0 W0 S1 C1 O1 L1 W1 MP PL ML DL TH NM SZ PT TK)) ⟨hx, hb, hml, hown, hts⟩ (c_m_isBucket0_n l D cI cZ cJ  y hy) (va_cwS 2 hts gX5_counter_X5_isBucket rfl rfl rfl (by decide +kernel) ⟨Nat.le_of_ble_eq_true rfl, Nat.le_of_ble_eq_true rfl⟩) hP hD hK hS hA [] [0, 1, 2, 3, 4, 5, 6, 7, 8, 9, 10, 11, 12, 13, 14] [0, 1, 2, 3, 4, 5, 6, 7, 8, 9, 10, 11, 12, 13, 14] rfl rfl (by decide) (fun u => rfl) rfl hl.1 rfl (Nat.le_of_ble_eq_true rfl) dX5_counter_7 ⟨Nat.le_of_ble_eq_true rfl, Nat.le_of_ble_eq_true rfl⟩ (fun r u H locs hu1 hP hD hS => ?_)
  refine k_t1 (show r = 0 from hu1) ?_
  refine lv_if_eq (tgt := 26) hx hb dX5_counter_10 (by decide) (fun c1 => ?_) (fun c1 => ?_)
  · skip
    refine lv_iconst (v := -1) hx hb dX5_counter_26 (by decide) ?_
    exact k_reti () hx hb hr hK hS hlk dX5_counter_27 hP hD (by exact rfl) hQ
  · skip
    exact absurd rfl c1

set_option maxHeartbeats 800000 in
set_option maxRecDepth 100000 in
theorem c_m_stash0 (l : Launch) (D : va_G) (cI cZ cJ : ClassId) (mo : Nat) (se : Nat) (co : Nat) (ou : Nat) (le : Nat) (wo : Nat) (ma : Nat) (pl : Nat) (tl : Nat) (tm : Nat) (th : Nat) (na : Nat) (si : Nat) (pa : Nat) (ta : Nat) (thr : Int32) (G : Int32) (ky : Int32) (DE : Int32) (cn : Nat) (got : Int32) (S0 : Nat → Nat → Int32) (C0 : Nat → Int32) (O0 : Nat → Int32) (L0 : Nat → Int32) (W0 : Nat → Nat → Int32) (S1 : Nat → Nat → Int32) (C1 : Nat → Int32) (O1 : Nat → Int32) (L1 : Nat → Int32) (W1 : Nat → Nat → Int32) (MP : Nat → Nat) (PL : Nat → Int32) (ML : Nat → Int32) (DL : Nat → Int32) (TH : Nat → Int32) (NM : Nat → Int64) (SZ : Nat → Nat) (PT : Nat → Nat) (TK : Nat → Int32)   : KI l yX5_stash wsX5_stash ({ frames := 1, cells := 0, slots := 0, locals := 20 }) D (kty cI cZ cJ) [.ref mo, .int (nI 0)] (wM cI cZ cJ mo se co ou le wo ma pl tl tm th na si pa ta thr G ky DE cn got S0 C0 O0 L0 W0 S1 C1 O1 L1 W1 MP PL ML DL TH NM SZ PT TK) (fun r (_ : Unit) => r = nI (cntN O0 8)) (fun _ : Unit => (wM cI cZ cJ mo se co ou le wo ma pl tl tm th na si pa ta 0 G ky DE cn got S0 C0 O0 L0 W0 S1 C1 O1 L1 W1 MP PL ML DL TH NM SZ PT TK)) 0 0 := by
  refine k_headI (cc := cX5_stash) (maxL := 4) (ret := (some .int)) (by decide) rfl (Nat.le_of_ble_eq_true rfl) ?_
  intro p e s m below meth c A ls args Q hx hb hr hml hts hown hlk hnm hA hK hP hD hS hl hQ
  have hl : lv_has ls 4 [(0, .ref mo), (1, .int (nI 0))] := hl
  refine lv_aload_n hx hb dX5_stash_0 rfl (lv_at hl 0 rfl) ?_
  refine lv_iconst (v := nI 0) hx hb dX5_stash_1 (by decide) ?_
  refine va_put (D := D) (ci := 5) (v := .int (nI 0)) (ty := .int) (C := RX5) (T := TX5) (N := 20) hx hb hts (by decide +kernel) tyX5 tyX5_ok nmX5 hown hK hP hD hS 0 rfl rfl 0 (by decide) (hts (.fieldLink RX5 58 "VeiledFilesModel" "thrown" "I") (by decide +kernel)) (fun _ h9 => h9) rfl (by decide +kernel) rfl rfl (Nat.le_of_ble_eq_true rfl) dX5_stash_2 (fun H locs hP hD hS => ?_)
  have hP : va_P D vwCl (wM cI cZ cJ mo se co ou le wo ma pl tl tm th na si pa ta 0 G ky DE cn got S0 C0 O0 L0 W0 S1 C1 O1 L1 W1 MP PL ML DL TH NM SZ PT TK) _ := hP
  have hD : va_D A (wM cI cZ cJ mo se co ou le wo ma pl tl tm th na si pa ta 0 G ky DE cn got S0 C0 O0 L0 W0 S1 C1 O1 L1 W1 MP PL ML DL TH NM SZ PT TK) := hD
  refine lv_iload_n hx hb dX5_stash_5 rfl (lv_at hl 1 rfl) ?_
  refine lv_if_eq (tgt := 16) hx hb dX5_stash_6 (by decide) (fun c1 => ?_) (fun c1 => ?_)
  · skip
    refine lv_iconst (v := nI 0) hx hb dX5_stash_16 (by decide) ?_
    refine lv_istore_n (lv' := [(2, .int (nI 0)), (0, .ref mo), (1, .int (nI 0))]) hx hb dX5_stash_17 rfl hl (by decide) rfl (fun ls hl => ?_)
    refine lv_iconst (v := nI 0) hx hb dX5_stash_18 (by decide) ?_
    refine lv_istore_n (lv' := [(3, .int (nI 0)), (2, .int (nI 0)), (0, .ref mo), (1, .int (nI 0))]) hx hb dX5_stash_19 rfl hl (by decide) rfl (fun ls hl => ?_)
    have L1l : ∀ (nf k : Nat) (hvL1l : k ≤ 8) (hFL1l : 8 - k < nf) (H : Heap) (locs : List Loc) (ls : Array Slot), va_P D vwCl (wM cI cZ cJ mo se co ou le wo ma pl tl tm th na si pa ta 0 G ky DE cn got S0 C0 O0 L0 W0 S1 C1 O1 L1 W1 MP PL ML DL TH NM SZ PT TK) H → va_D A (wM cI cZ cJ mo se co ou le wo ma pl tl tm th na si pa ta 0 G ky DE cn got S0 C0 O0 L0 W0 S1 C1 O1 L1 W1 MP PL ML DL TH NM SZ PT TK) → va_S A s.heap H locs → lv_has ls 4 [(0, .ref mo), (1, .int (nI 0)), (2, .int (nI (cntN O0 k))), (3, .int (nI k))] → W p l e ({ frames := 1, cells := 0, slots := 0, locals := 20 } : Room) s m args below meth c H locs 0 0 Q (F0 m 20 ls []) := by
      intro nf
      induction nf with
      | zero => intro k  hvL1l hFL1l; omega
      | succ nf ihL1l =>
        intro k  hvL1l hFL1l  H locs ls hP hD hS hl
        refine lv_iload_n hx hb dX5_stash_20 rfl (lv_at hl 3 rfl) ?_
        refine lv_iload_n hx hb dX5_stash_21 rfl (lv_at hl 1 rfl) ?_
        refine k_si (As := [.int (nI 0)]) (rest := [.int (nI k)]) (w2 := fun u : Unit => (wM cI cZ cJ mo se co ou le wo ma pl tl tm th na si pa ta 0 G ky DE cn got S0 C0 O0 L0 W0 S1 C1 O1 L1 W1 MP PL ML DL TH NM SZ PT TK)) ⟨hx, hb, hml, hown, hts⟩ (c_m_blocks0 l D cI cZ cJ  ) (va_cwS 1 hts gX5_stash_X5_blocks rfl rfl rfl (by decide +kernel) ⟨Nat.le_of_ble_eq_true rfl, Nat.le_of_ble_eq_true rfl⟩) hP hD hK hS hA [] [0, 1, 2, 3, 4, 5, 6, 7, 8, 9, 10, 11, 12, 13, 14] [0, 1, 2, 3, 4, 5, 6, 7, 8, 9, 10, 11, 12, 13, 14] rfl rfl (by decide) (fun u => rfl) rfl hl.1 rfl (Nat.le_of_ble_eq_true rfl) dX5_stash_22 ⟨Nat.le_of_ble_eq_true rfl, Nat.le_of_ble_eq_true rfl⟩ (fun r u H locs hu1 hP hD hS => ?_)
        refine k_t1 (show r = nI 8 from hu1) ?_
        refine k_icmp_ge (tgt := 56) hx hb (by omega) (by omega) dX5_stash_25 (by decide) (fun c2 => ?_) (fun c2 => ?_)
        · skip
          obtain rfl : k = 8 := by omega
          refine lv_iload_n hx hb dX5_stash_56 rfl (lv_at hl 2 rfl) ?_
          exact k_reti () hx hb hr hK hS hlk dX5_stash_57 hP hD (by exact rfl) hQ
        · skip
          have hcl := cntN_le O0 k
          refine lv_iload_n hx hb dX5_stash_28 rfl (lv_at hl 2 rfl) ?_
          refine lv_aload_n hx hb dX5_stash_29 rfl (lv_at hl 0 rfl) ?_
          refine va_get (D := D) (ci := 5) (v := .ref ou) (C := RX5) (T := TX5) (N := 20) hx hb hts (by decide +kernel) hown hK hP 0 rfl rfl 7 (by decide) (hts (.fieldLink RX5 16 "VeiledFilesModel" "out" "[Z") (by decide +kernel)) (fun _ h9 => h9) rfl dX5_stash_30 ?_
          refine lv_iload_n hx hb dX5_stash_33 rfl (lv_at hl 1 rfl) ?_
          refine k_si (As := [.int (nI 0)]) (rest := [.ref ou, .int (nI (cntN O0 k))]) (w2 := fun u : Unit => (wM cI cZ cJ mo se co ou le wo ma pl tl tm th na si pa ta 0 G ky DE cn got S0 C0 O0 L0 W0 S1 C1 O1 L1 W1 MP PL ML DL TH NM SZ PT TK)) ⟨hx, hb, hml, hown, hts⟩ (c_m_first0 l D cI cZ cJ  ) (va_cwS 1 hts gX5_stash_X5_first rfl rfl rfl (by decide +kernel) ⟨Nat.le_of_ble_eq_true rfl, Nat.le_of_ble_eq_true rfl⟩) hP hD hK hS hA [] [0, 1, 2, 3, 4, 5, 6, 7, 8, 9, 10, 11, 12, 13, 14] [0, 1, 2, 3, 4, 5, 6, 7, 8, 9, 10, 11, 12, 13, 14] rfl rfl (by decide) (fun u => rfl) rfl hl.1 rfl (Nat.le_of_ble_eq_true rfl) dX5_stash_34 ⟨Nat.le_of_ble_eq_true rfl, Nat.le_of_ble_eq_true rfl⟩ (fun r u H locs hu2 hP hD hS => ?_)
          refine k_t1 (show r = nI 0 from hu2) ?_
          refine lv_iload_n hx hb dX5_stash_37 rfl (lv_at hl 3 rfl) ?_
          refine lv_iadd hx hb dX5_stash_38 ?_
          refine k_t1 (show (nI 0) + (nI k) = nI (0 + k) from nI_add _ _) ?_
          refine k_t1 (show nI (0 + k) = nI k from congrArg nI (Nat.zero_add _)) ?_
          refine k_zald hx hb hK hP 3 1 rfl rfl k (by omega) (by omega) (v := O0 k) (jn_0 (by omega)) dX5_stash_39 ?_
          refine lv_if_eq (tgt := 47) hx hb dX5_stash_40 (by decide) (fun c3 => ?_) (fun c3 => ?_)
          · skip
            refine lv_iconst (v := nI 0) hx hb dX5_stash_47 (by decide) ?_
            refine lv_iadd hx hb dX5_stash_48 ?_
            refine k_t1 (show (nI (cntN O0 k)) + (nI 0) = nI (cntN O0 k + 0) from nI_add _ _) ?_
            refine lv_istore_n (lv' := [(2, .int (nI (cntN O0 k + 0))), (0, .ref mo), (1, .int (nI 0)), (3, .int (nI k))]) hx hb dX5_stash_49 rfl hl (by decide) rfl (fun ls hl => ?_)
            refine lv_iinc (v := nI (k + 1)) (lv' := [(3, .int (nI (k + 1))), (2, .int (nI (cntN O0 k + 0))), (0, .ref mo), (1, .int (nI 0))]) hx hb dX5_stash_50 hl (k := 3) rfl (nI_add k 1) (by decide) rfl (fun ls hl => ?_)
            refine lv_goto (tgt := 20) hx hb dX5_stash_53 (by decide) ?_
            rw [show cntN O0 k + 0 = cntN O0 (k + 1) by simp [cntN, c3]] at hl
            exact ihL1l (k + 1)  (by omega) (by omega)  _ _ _ hP hD hS (lv_sub hl [2, 3, 1, 0] rfl)
          · skip
            refine lv_iconst (v := nI 1) hx hb dX5_stash_43 (by decide) ?_
            refine lv_goto (tgt := 48) hx hb dX5_stash_44 (by decide) ?_
            refine lv_iadd hx hb dX5_stash_48 ?_
            refine k_t1 (show (nI (cntN O0 k)) + (nI 1) = nI (cntN O0 k + 1) from nI_add _ _) ?_
            refine lv_istore_n (lv' := [(2, .int (nI (cntN O0 k + 1))), (0, .ref mo), (1, .int (nI 0)), (3, .int (nI k))]) hx hb dX5_stash_49 rfl hl (by decide) rfl (fun ls hl => ?_)
            refine lv_iinc (v := nI (k + 1)) (lv' := [(3, .int (nI (k + 1))), (2, .int (nI (cntN O0 k + 1))), (0, .ref mo), (1, .int (nI 0))]) hx hb dX5_stash_50 hl (k := 3) rfl (nI_add k 1) (by decide) rfl (fun ls hl => ?_)
            refine lv_goto (tgt := 20) hx hb dX5_stash_53 (by decide) ?_
            rw [show cntN O0 k + 1 = cntN O0 (k + 1) by simp [cntN, c3]] at hl
            exact ihL1l (k + 1)  (by omega) (by omega)  _ _ _ hP hD hS (lv_sub hl [2, 3, 1, 0] rfl)
    exact L1l (8 + 1) 0  (by omega) (by omega)  _ _ _ hP hD hS (lv_sub hl [2, 3, 1, 0] rfl)
  · skip
    exact absurd rfl c1

set_option maxHeartbeats 800000 in
set_option maxRecDepth 100000 in
theorem c_m_isBucket1_y (l : Launch) (D : va_G) (cI cZ cJ : ClassId)  (b : Nat) (hb0 : b < 63) : KI l yX5_isBucket wsX5_isBucket ({ frames := 1, cells := 0, slots := 0, locals := 20 }) D (kty cI cZ cJ) [.int (nI 1), .int (nI b)] (wN cI cZ cJ ) (fun r (_ : Unit) => r = 1) (fun _ : Unit => (wN cI cZ cJ )) 0 0 := by
  refine k_headI (cc := cX5_isBucket) (maxL := 2) (ret := (some .boolean)) (by decide) rfl (Nat.le_of_ble_eq_true rfl) ?_
  intro p e s m below meth c A ls args Q hx hb hr hml hts hown hlk hnm hA hK hP hD hS hl hQ
  have hl : lv_has ls 2 [(0, .int (nI 1)), (1, .int (nI b))] := hl
  refine lv_iload_n hx hb dX5_isBucket_0 rfl (lv_at hl 0 rfl) ?_
  refine lv_if_eq (tgt := 9) hx hb dX5_isBucket_1 (by decide) (fun ct => ?_) (fun ct => ?_)
  · skip
    exact absurd ct (by decide)
  · skip
    refine lv_iload_n hx hb dX5_isBucket_4 rfl (lv_at hl 0 rfl) ?_
    refine lv_iconst (v := nI 1) hx hb dX5_isBucket_5 (by decide) ?_
    refine k_icmp_ne (tgt := 25) hx hb (by omega) (by omega) dX5_isBucket_6 (by decide) (fun cu => ?_) (fun cu => ?_)
    · skip
      exact absurd rfl cu
    · skip
      refine lv_iload_n hx hb dX5_isBucket_9 rfl (lv_at hl 1 rfl) ?_
      refine lv_if_lt (tgt := 25) hx hb dX5_isBucket_10 (by decide) (fun c1 => ?_) (fun c1 => ?_)
      · skip
        exact absurd c1 (nI_pos (by omega))
      · skip
        refine lv_iload_n hx hb dX5_isBucket_13 rfl (lv_at hl 1 rfl) ?_
        refine lv_iload_n hx hb dX5_isBucket_14 rfl (lv_at hl 0 rfl) ?_
        refine k_si (As := [.int (nI 1)]) (rest := [.int (nI b)]) (w2 := fun u : Unit => (wN cI cZ cJ )) ⟨hx, hb, hml, hown, hts⟩ (c_m_buckets1 l D cI cZ cJ  ) (va_cwS 1 hts gX5_isBucket_X5_buckets rfl rfl rfl (by decide +kernel) ⟨Nat.le_of_ble_eq_true rfl, Nat.le_of_ble_eq_true rfl⟩) hP hD hK hS hA [] [] [] rfl rfl (by decide) (fun u => rfl) rfl hl.1 rfl (Nat.le_of_ble_eq_true rfl) dX5_isBucket_15 ⟨Nat.le_of_ble_eq_true rfl, Nat.le_of_ble_eq_true rfl⟩ (fun r u H locs hu1 hP hD hS => ?_)
        refine k_t1 (show r = nI 63 from hu1) ?_
        refine k_icmp_ge (tgt := 25) hx hb (by omega) (by omega) dX5_isBucket_18 (by decide) (fun c2 => ?_) (fun c2 => ?_)
        · skip
          omega
        · skip
          refine lv_iconst (v := nI 1) hx hb dX5_isBucket_21 (by decide) ?_
          refine lv_goto (tgt := 26) hx hb dX5_isBucket_22 (by decide) ?_
          exact k_retz () hx hb hr hK hS hlk dX5_isBucket_26 ((by first | exact Or.inl rfl | exact Or.inr rfl)) hP hD (by exact rfl) hQ

set_option maxHeartbeats 800000 in
set_option maxRecDepth 100000 in
theorem c_m_isBucket1_n (l : Launch) (D : va_G) (cI cZ cJ : ClassId)  (y : Int32) (hy : noB 63 y = true) : KI l yX5_isBucket wsX5_isBucket ({ frames := 1, cells := 0, slots := 0, locals := 20 }) D (kty cI cZ cJ) [.int (nI 1), .int y] (wN cI cZ cJ ) (fun r (_ : Unit) => r = 0) (fun _ : Unit => (wN cI cZ cJ )) 0 0 := by
  refine k_headI (cc := cX5_isBucket) (maxL := 2) (ret := (some .boolean)) (by decide) rfl (Nat.le_of_ble_eq_true rfl) ?_
  intro p e s m below meth c A ls args Q hx hb hr hml hts hown hlk hnm hA hK hP hD hS hl hQ
  have hl : lv_has ls 2 [(0, .int (nI 1)), (1, .int y)] := hl
  refine lv_iload_n hx hb dX5_isBucket_0 rfl (lv_at hl 0 rfl) ?_
  refine lv_if_eq (tgt := 9) hx hb dX5_isBucket_1 (by decide) (fun ct => ?_) (fun ct => ?_)
  · skip
    exact absurd ct (by decide)
  · skip
    refine lv_iload_n hx hb dX5_isBucket_4 rfl (lv_at hl 0 rfl) ?_
    refine lv_iconst (v := nI 1) hx hb dX5_isBucket_5 (by decide) ?_
    refine k_icmp_ne (tgt := 25) hx hb (by omega) (by omega) dX5_isBucket_6 (by decide) (fun cu => ?_) (fun cu => ?_)
    · skip
      exact absurd rfl cu
    · skip
      refine lv_iload_n hx hb dX5_isBucket_9 rfl (lv_at hl 1 rfl) ?_
      refine lv_if_lt (tgt := 25) hx hb dX5_isBucket_10 (by decide) (fun c1 => ?_) (fun c1 => ?_)
      · skip
        refine lv_iconst (v := nI 0) hx hb dX5_isBucket_25 (by decide) ?_
        exact k_retz () hx hb hr hK hS hlk dX5_isBucket_26 ((by first | exact Or.inl rfl | exact Or.inr rfl)) hP hD (by exact rfl) hQ
      · skip
        refine lv_iload_n hx hb dX5_isBucket_13 rfl (lv_at hl 1 rfl) ?_
        refine lv_iload_n hx hb dX5_isBucket_14 rfl (lv_at hl 0 rfl) ?_
        refine k_si (As := [.int (nI 1)]) (rest := [.int y]) (w2 := fun u : Unit => (wN cI cZ cJ )) ⟨hx, hb, hml, hown, hts⟩ (c_m_buckets1 l D cI cZ cJ  ) (va_cwS 1 hts gX5_isBucket_X5_buckets rfl rfl rfl (by decide +kernel) ⟨Nat.le_of_ble_eq_true rfl, Nat.le_of_ble_eq_true rfl⟩) hP hD hK hS hA [] [] [] rfl rfl (by decide) (fun u => rfl) rfl hl.1 rfl (Nat.le_of_ble_eq_true rfl) dX5_isBucket_15 ⟨Nat.le_of_ble_eq_true rfl, Nat.le_of_ble_eq_true rfl⟩ (fun r u H locs hu1 hP hD hS => ?_)
        refine k_t1 (show r = nI 63 from hu1) ?_
        refine lv_icmp_ge (tgt := 25) hx hb dX5_isBucket_18 (by decide) (fun c2 => ?_) (fun c2 => ?_)
        · skip
          refine lv_iconst (v := nI 0) hx hb dX5_isBucket_25 (by decide) ?_
          exact k_retz () hx hb hr hK hS hlk dX5_isBucket_26 ((by first | exact Or.inl rfl | exact Or.inr rfl)) hP hD (by exact rfl) hQ
        · skip
          exact absurd hy (by simp [noB, c1, c2])

set_option maxHeartbeats 800000 in
set_option maxRecDepth 100000 in
theorem c_m_sealed1_y (l : Launch) (D : va_G) (cI cZ cJ : ClassId) (mo : Nat) (se : Nat) (co : Nat) (ou : Nat) (le : Nat) (wo : Nat) (ma : Nat) (pl : Nat) (tl : Nat) (tm : Nat) (th : Nat) (na : Nat) (si : Nat) (pa : Nat) (ta : Nat) (thr : Int32) (G : Int32) (ky : Int32) (DE : Int32) (cn : Nat) (got : Int32) (S0 : Nat → Nat → Int32) (C0 : Nat → Int32) (O0 : Nat → Int32) (L0 : Nat → Int32) (W0 : Nat → Nat → Int32) (S1 : Nat → Nat → Int32) (C1 : Nat → Int32) (O1 : Nat → Int32) (L1 : Nat → Int32) (W1 : Nat → Nat → Int32) (MP : Nat → Nat) (PL : Nat → Int32) (ML : Nat → Int32) (DL : Nat → Int32) (TH : Nat → Int32) (NM : Nat → Int64) (SZ : Nat → Nat) (PT : Nat → Nat) (TK : Nat → Int32) (b i : Nat) (hb0 : b < 63) (hi : i < 25) : KI l yX5_sealed wsX5_sealed ({ frames := 2, cells := 0, slots := 0, locals := 41 }) D (kty cI cZ cJ) [.ref mo, .int (nI 1), .int (nI b), .int (nI i)] (wM cI cZ cJ mo se co ou le wo ma pl tl tm th na si pa ta thr G ky DE cn got S0 C0 O0 L0 W0 S1 C1 O1 L1 W1 MP PL ML DL TH NM SZ PT TK) (fun r (_ : Unit) => r = S1 b i) (fun _ : Unit => (wM cI cZ cJ mo se co ou le wo ma pl tl tm th na si pa ta 0 G ky DE cn got S0 C0 O0 L0 W0 S1 C1 O1 L1 W1 MP PL ML DL TH NM SZ PT TK)) 0 0 := by
  refine k_headI (cc := cX5_sealed) (maxL := 4) (ret := (some .int)) (by decide) rfl (Nat.le_of_ble_eq_true rfl) ?_
  intro p e s m below meth c A ls args Q hx hb hr hml hts hown hlk hnm hA hK hP hD hS hl hQ
  have hl : lv_has ls 4 [(0, .ref mo), (1, .int (nI 1)), (2, .int (nI b)), (3, .int (nI i))] := hl
  refine lv_iload_n hx hb dX5_sealed_0 rfl (lv_at hl 1 rfl) ?_
  refine lv_iload_n hx hb dX5_sealed_1 rfl (lv_at hl 2 rfl) ?_
  refine k_si (As := [.int (nI 1), .int (nI b)]) (rest := []) (w2 := fun u : Unit => (wM cI cZ cJ mo se co ou le wo ma pl tl tm th na si pa ta thr G ky DE cn got S0 C0 O0 L0 W0 S1 C1 O1 L1 W1 MP PL ML DL TH NM SZ PT TK)) ⟨hx, hb, hml, hown, hts⟩ (c_m_isBucket1_y l D cI cZ cJ  b hb0) (va_cwS 2 hts gX5_sealed_X5_isBucket rfl rfl rfl (by decide +kernel) ⟨Nat.le_of_ble_eq_true rfl, Nat.le_of_ble_eq_true rfl⟩) hP hD hK hS hA [] [0, 1, 2, 3, 4, 5, 6, 7, 8, 9, 10, 11, 12, 13, 14] [0, 1, 2, 3, 4, 5, 6, 7, 8, 9, 10, 11, 12, 13, 14] rfl rfl (by decide) (fun u => rfl) rfl hl.1 rfl (Nat.le_of_ble_eq_true rfl) dX5_sealed_2 ⟨Nat.le_of_ble_eq_true rfl, Nat.le_of_ble_eq_true rfl⟩ (fun r u H locs hu1 hP hD hS => ?_)
  refine k_t1 (show r = 1 from hu1) ?_
  refine lv_if_eq (tgt := 18) hx hb dX5_sealed_5 (by decide) (fun c1 => ?_) (fun c1 => ?_)
  · skip
    exact absurd c1 (by decide)
  · skip
    refine lv_iload_n hx hb dX5_sealed_8 rfl (lv_at hl 3 rfl) ?_
    refine lv_if_lt (tgt := 18) hx hb dX5_sealed_9 (by decide) (fun c2 => ?_) (fun c2 => ?_)
    · skip
      exact absurd c2 (nI_pos (by omega))
    · skip
      refine lv_iload_n hx hb dX5_sealed_12 rfl (lv_at hl 3 rfl) ?_
      refine lv_bipush (v := nI 25) hx hb dX5_sealed_13 (by decide) ?_
      refine k_icmp_lt (tgt := 24) hx hb (by omega) (by omega) dX5_sealed_15 (by decide) (fun c3 => ?_) (fun c3 => ?_)
      · skip
        refine lv_aload_n hx hb dX5_sealed_24 rfl (lv_at hl 0 rfl) ?_
        refine lv_iconst (v := nI 0) hx hb dX5_sealed_25 (by decide) ?_
        refine va_put (D := D) (ci := 5) (v := .int (nI 0)) (ty := .int) (C := RX5) (T := TX5) (N := 20) hx hb hts (by decide +kernel) tyX5 tyX5_ok nmX5 hown hK hP hD hS 0 rfl rfl 0 (by decide) (hts (.fieldLink RX5 58 "VeiledFilesModel" "thrown" "I") (by decide +kernel)) (fun _ h9 => h9) rfl (by decide +kernel) rfl rfl (Nat.le_of_ble_eq_true rfl) dX5_sealed_26 (fun H locs hP hD hS => ?_)
        have hP : va_P D vwCl (wM cI cZ cJ mo se co ou le wo ma pl tl tm th na si pa ta 0 G ky DE cn got S0 C0 O0 L0 W0 S1 C1 O1 L1 W1 MP PL ML DL TH NM SZ PT TK) _ := hP
        have hD : va_D A (wM cI cZ cJ mo se co ou le wo ma pl tl tm th na si pa ta 0 G ky DE cn got S0 C0 O0 L0 W0 S1 C1 O1 L1 W1 MP PL ML DL TH NM SZ PT TK) := hD
        refine lv_aload_n hx hb dX5_sealed_29 rfl (lv_at hl 0 rfl) ?_
        refine va_get (D := D) (ci := 5) (v := .ref se) (C := RX5) (T := TX5) (N := 20) hx hb hts (by decide +kernel) hown hK hP 0 rfl rfl 5 (by decide) (hts (.fieldLink RX5 7 "VeiledFilesModel" "sealed" "[I") (by decide +kernel)) (fun _ h9 => h9) rfl dX5_sealed_30 ?_
        refine lv_bipush (v := nI 25) hx hb dX5_sealed_33 (by decide) ?_
        refine lv_iload_n hx hb dX5_sealed_35 rfl (lv_at hl 1 rfl) ?_
        refine lv_iload_n hx hb dX5_sealed_36 rfl (lv_at hl 2 rfl) ?_
        refine k_si (As := [.int (nI 1), .int (nI b)]) (rest := [.int (nI 25), .ref se]) (w2 := fun u : Unit => (wM cI cZ cJ mo se co ou le wo ma pl tl tm th na si pa ta 0 G ky DE cn got S0 C0 O0 L0 W0 S1 C1 O1 L1 W1 MP PL ML DL TH NM SZ PT TK)) ⟨hx, hb, hml, hown, hts⟩ (c_m_place1 l D cI cZ cJ  b) (va_cwS 2 hts gX5_sealed_X5_place rfl rfl rfl (by decide +kernel) ⟨Nat.le_of_ble_eq_true rfl, Nat.le_of_ble_eq_true rfl⟩) hP hD hK hS hA [] [0, 1, 2, 3, 4, 5, 6, 7, 8, 9, 10, 11, 12, 13, 14] [0, 1, 2, 3, 4, 5, 6, 7, 8, 9, 10, 11, 12, 13, 14] rfl rfl (by decide) (fun u => rfl) rfl hl.1 rfl (Nat.le_of_ble_eq_true rfl) dX5_sealed_37 ⟨Nat.le_of_ble_eq_true rfl, Nat.le_of_ble_eq_true rfl⟩ (fun r u H locs hu2 hP hD hS => ?_)
        refine k_t1 (show r = nI (7 + b) from hu2) ?_
        refine lv_imul hx hb dX5_sealed_40 ?_
        refine k_t1 (show (nI 25) * (nI (7 + b)) = nI (25 * (7 + b)) from pk_mul _ _) ?_
        refine lv_iload_n hx hb dX5_sealed_41 rfl (lv_at hl 3 rfl) ?_
        refine lv_iadd hx hb dX5_sealed_42 ?_
        refine k_t1 (show (nI (25 * (7 + b))) + (nI i) = nI (25 * (7 + b) + i) from nI_add _ _) ?_
        refine k_iald hx hb hK hP 1 0 rfl rfl (25 * (7 + b) + i) (by omega) (by omega) (v := S1 b i) (rS1 (p := b) (i := i) hi (by omega)) dX5_sealed_43 ?_
        exact k_reti () hx hb hr hK hS hlk dX5_sealed_44 hP hD (by exact rfl) hQ
      · skip
        omega

set_option maxHeartbeats 800000 in
set_option maxRecDepth 100000 in
theorem c_m_sealed1_n1 (l : Launch) (D : va_G) (cI cZ cJ : ClassId) (mo : Nat) (se : Nat) (co : Nat) (ou : Nat) (le : Nat) (wo : Nat) (ma : Nat) (pl : Nat) (tl : Nat) (tm : Nat) (th : Nat) (na : Nat) (si : Nat) (pa : Nat) (ta : Nat) (thr : Int32) (G : Int32) (ky : Int32) (DE : Int32) (cn : Nat) (got : Int32) (S0 : Nat → Nat → Int32) (C0 : Nat → Int32) (O0 : Nat → Int32) (L0 : Nat → Int32) (W0 : Nat → Nat → Int32) (S1 : Nat → Nat → Int32) (C1 : Nat → Int32) (O1 : Nat → Int32) (L1 : Nat → Int32) (W1 : Nat → Nat → Int32) (MP : Nat → Nat) (PL : Nat → Int32) (ML : Nat → Int32) (DL : Nat → Int32) (TH : Nat → Int32) (NM : Nat → Int64) (SZ : Nat → Nat) (PT : Nat → Nat) (TK : Nat → Int32) (y i : Int32) (hy : noB 63 y = true) : KI l yX5_sealed wsX5_sealed ({ frames := 2, cells := 0, slots := 0, locals := 41 }) D (kty cI cZ cJ) [.ref mo, .int (nI 1), .int y, .int i] (wM cI cZ cJ mo se co ou le wo ma pl tl tm th na si pa ta thr G ky DE cn got S0 C0 O0 L0 W0 S1 C1 O1 L1 W1 MP PL ML DL TH NM SZ PT TK) (fun r (_ : Unit) => r = 0) (fun _ : Unit => (wM cI cZ cJ mo se co ou le wo ma pl tl tm th na si pa ta 1 G ky DE cn got S0 C0 O0 L0 W0 S1 C1 O1 L1 W1 MP PL ML DL TH NM SZ PT TK)) 0 0 := by
  refine k_headI (cc := cX5_sealed) (maxL := 4) (ret := (some .int)) (by decide) rfl (Nat.le_of_ble_eq_true rfl) ?_
  intro p e s m below meth c A ls args Q hx hb hr hml hts hown hlk hnm hA hK hP hD hS hl hQ
  have hl : lv_has ls 4 [(0, .ref mo), (1, .int (nI 1)), (2, .int y), (3, .int i)] := hl
  refine lv_iload_n hx hb dX5_sealed_0 rfl (lv_at hl 1 rfl) ?_
  refine lv_iload_n hx hb dX5_sealed_1 rfl (lv_at hl 2 rfl) ?_
  refine k_si (As := [.int (nI 1), .int y]) (rest := []) (w2 := fun u : Unit => (wM cI cZ cJ mo se co ou le wo ma pl tl tm th na si pa ta thr G ky DE cn got S0 C0 O0 L0 W0 S1 C1 O1 L1 W1 MP PL ML DL TH NM SZ PT TK)) ⟨hx, hb, hml, hown, hts⟩ (c_m_isBucket1_n l D cI cZ cJ  y hy) (va_cwS 2 hts gX5_sealed_X5_isBucket rfl rfl rfl (by decide +kernel) ⟨Nat.le_of_ble_eq_true rfl, Nat.le_of_ble_eq_true rfl⟩) hP hD hK hS hA [] [0, 1, 2, 3, 4, 5, 6, 7, 8, 9, 10, 11, 12, 13, 14] [0, 1, 2, 3, 4, 5, 6, 7, 8, 9, 10, 11, 12, 13, 14] rfl rfl (by decide) (fun u => rfl) rfl hl.1 rfl (Nat.le_of_ble_eq_true rfl) dX5_sealed_2 ⟨Nat.le_of_ble_eq_true rfl, Nat.le_of_ble_eq_true rfl⟩ (fun r u H locs hu1 hP hD hS => ?_)
  refine k_t1 (show r = 0 from hu1) ?_
  refine lv_if_eq (tgt := 18) hx hb dX5_sealed_5 (by decide) (fun c1 => ?_) (fun c1 => ?_)
  · skip
    refine lv_aload_n hx hb dX5_sealed_18 rfl (lv_at hl 0 rfl) ?_
    refine lv_iconst (v := nI 1) hx hb dX5_sealed_19 (by decide) ?_
    refine k_vi (As := [.int (nI 1)]) (rest := []) (w2 := fun u : Unit => (wM cI cZ cJ mo se co ou le wo ma pl tl tm th na si pa ta 1 G ky DE cn got S0 C0 O0 L0 W0 S1 C1 O1 L1 W1 MP PL ML DL TH NM SZ PT TK)) ⟨hx, hb, hml, hown, hts⟩ (c_m_raise l D cI cZ cJ mo se co ou le wo ma pl tl tm th na si pa ta thr G ky DE cn got S0 C0 O0 L0 W0 S1 C1 O1 L1 W1 MP PL ML DL TH NM SZ PT TK (nI 1)) (cwV 1 hts gX5_sealed_X5_raise rfl rfl rfl (by decide +kernel) ⟨Nat.le_of_ble_eq_true rfl, Nat.le_of_ble_eq_true rfl⟩) hP hD hK hS hA [0, 1, 2, 3, 4, 5, 6, 7, 8, 9, 10, 11, 12, 13, 14] [] [0, 1, 2, 3, 4, 5, 6, 7, 8, 9, 10, 11, 12, 13, 14] rfl rfl (by decide) (fun u => rfl) rfl rfl (q0 := 0) rfl rfl hl.1 rfl (Nat.le_of_ble_eq_true rfl) dX5_sealed_20 ⟨Nat.le_of_ble_eq_true rfl, Nat.le_of_ble_eq_true rfl⟩ (fun r u H locs hu2 hP hD hS => ?_)
    refine k_t1 (show r = 0 from hu2) ?_
    exact k_reti () hx hb hr hK hS hlk dX5_sealed_23 hP hD (by exact rfl) hQ
  · skip
    exact absurd rfl c1

set_option maxHeartbeats 800000 in
set_option maxRecDepth 100000 in
theorem c_m_sealed1_n2 (l : Launch) (D : va_G) (cI cZ cJ : ClassId) (mo : Nat) (se : Nat) (co : Nat) (ou : Nat) (le : Nat) (wo : Nat) (ma : Nat) (pl : Nat) (tl : Nat) (tm : Nat) (th : Nat) (na : Nat) (si : Nat) (pa : Nat) (ta : Nat) (thr : Int32) (G : Int32) (ky : Int32) (DE : Int32) (cn : Nat) (got : Int32) (S0 : Nat → Nat → Int32) (C0 : Nat → Int32) (O0 : Nat → Int32) (L0 : Nat → Int32) (W0 : Nat → Nat → Int32) (S1 : Nat → Nat → Int32) (C1 : Nat → Int32) (O1 : Nat → Int32) (L1 : Nat → Int32) (W1 : Nat → Nat → Int32) (MP : Nat → Nat) (PL : Nat → Int32) (ML : Nat → Int32) (DL : Nat → Int32) (TH : Nat → Int32) (NM : Nat → Int64) (SZ : Nat → Nat) (PT : Nat → Nat) (TK : Nat → Int32) (b : Nat) (i : Int32) (hb0 : b < 63) (hi : noB 25 i = true) : KI l yX5_sealed wsX5_sealed ({ frames := 2, cells := 0, slots := 0, locals := 41 }) D (kty cI cZ cJ) [.ref mo, .int (nI 1), .int (nI b), .int i] (wM cI cZ cJ mo se co ou le wo ma pl tl tm th na si pa ta thr G ky DE cn got S0 C0 O0 L0 W0 S1 C1 O1 L1 W1 MP PL ML DL TH NM SZ PT TK) (fun r (_ : Unit) => r = 0) (fun _ : Unit => (wM cI cZ cJ mo se co ou le wo ma pl tl tm th na si pa ta 1 G ky DE cn got S0 C0 O0 L0 W0 S1 C1 O1 L1 W1 MP PL ML DL TH NM SZ PT TK)) 0 0 := by
  refine k_headI (cc := cX5_sealed) (maxL := 4) (ret := (some .int)) (by decide) rfl (Nat.le_of_ble_eq_true rfl) ?_
  intro p e s m below meth c A ls args Q hx hb hr hml hts hown hlk hnm hA hK hP hD hS hl hQ
  have hl : lv_has ls 4 [(0, .ref mo), (1, .int (nI 1)), (2, .int (nI b)), (3, .int i)] := hl
  refine lv_iload_n hx hb dX5_sealed_0 rfl (lv_at hl 1 rfl) ?_
  refine lv_iload_n hx hb dX5_sealed_1 rfl (lv_at hl 2 rfl) ?_
  refine k_si (As := [.int (nI 1), .int (nI b)]) (rest := []) (w2 := fun u : Unit => (wM cI cZ cJ mo se co ou le wo ma pl tl tm th na si pa ta thr G ky DE cn got S0 C0 O0 L0 W0 S1 C1 O1 L1 W1 MP PL ML DL TH NM SZ PT TK)) ⟨hx, hb, hml, hown, hts⟩ (c_m_isBucket1_y l D cI cZ cJ  b hb0) (va_cwS 2 hts gX5_sealed_X5_isBucket rfl rfl rfl (by decide +kernel) ⟨Nat.le_of_ble_eq_true rfl, Nat.le_of_ble_eq_true rfl⟩) hP hD hK hS hA [] [0, 1, 2, 3, 4, 5, 6, 7, 8, 9, 10, 11, 12, 13, 14] [0, 1, 2, 3, 4, 5, 6, 7, 8, 9, 10, 11, 12, 13, 14] rfl rfl (by decide) (fun u => rfl) rfl hl.1 rfl (Nat.le_of_ble_eq_true rfl) dX5_sealed_2 ⟨Nat.le_of_ble_eq_true rfl, Nat.le_of_ble_eq_true rfl⟩ (fun r u H locs hu1 hP hD hS => ?_)
  refine k_t1 (show r = 1 from hu1) ?_
  refine lv_if_eq (tgt := 18) hx hb dX5_sealed_5 (by decide) (fun c1 => ?_) (fun c1 => ?_)
  · skip
    exact absurd c1 (by decide)
  · skip
    refine lv_iload_n hx hb dX5_sealed_8 rfl (lv_at hl 3 rfl) ?_
    refine lv_if_lt (tgt := 18) hx hb dX5_sealed_9 (by decide) (fun c2 => ?_) (fun c2 => ?_)
    · skip
      refine lv_aload_n hx hb dX5_sealed_18 rfl (lv_at hl 0 rfl) ?_
      refine lv_iconst (v := nI 1) hx hb dX5_sealed_19 (by decide) ?_
      refine k_vi (As := [.int (nI 1)]) (rest := []) (w2 := fun u : Unit => (wM cI cZ cJ mo se co ou le wo ma pl tl tm th na si pa ta 1 G ky DE cn got S0 C0 O0 L0 W0 S1 C1 O1 L1 W1 MP PL ML DL TH NM SZ PT TK)) ⟨hx, hb, hml, hown, hts⟩ (c_m_raise l D cI cZ cJ mo se co ou le wo ma pl tl tm th na si pa ta thr G ky DE cn got S0 C0 O0 L0 W0 S1 C1 O1 L1 W1 MP PL ML DL TH NM SZ PT TK (nI 1)) (cwV 1 hts gX5_sealed_X5_raise rfl rfl rfl (by decide +kernel) ⟨Nat.le_of_ble_eq_true rfl, Nat.le_of_ble_eq_true rfl⟩) hP hD hK hS hA [0, 1, 2, 3, 4, 5, 6, 7, 8, 9, 10, 11, 12, 13, 14] [] [0, 1, 2, 3, 4, 5, 6, 7, 8, 9, 10, 11, 12, 13, 14] rfl rfl (by decide) (fun u => rfl) rfl rfl (q0 := 0) rfl rfl hl.1 rfl (Nat.le_of_ble_eq_true rfl) dX5_sealed_20 ⟨Nat.le_of_ble_eq_true rfl, Nat.le_of_ble_eq_true rfl⟩ (fun r u H locs hu2 hP hD hS => ?_)
      refine k_t1 (show r = 0 from hu2) ?_
      exact k_reti () hx hb hr hK hS hlk dX5_sealed_23 hP hD (by exact rfl) hQ
    · skip
      refine lv_iload_n hx hb dX5_sealed_12 rfl (lv_at hl 3 rfl) ?_
      refine lv_bipush (v := nI 25) hx hb dX5_sealed_13 (by decide) ?_
      refine lv_icmp_lt (tgt := 24) hx hb dX5_sealed_15 (by decide) (fun c3 => ?_) (fun c3 => ?_)
      · skip
        exact absurd hi (by simp [noB, c2, Int32.not_le.mpr c3])
      · skip
        refine lv_aload_n hx hb dX5_sealed_18 rfl (lv_at hl 0 rfl) ?_
        refine lv_iconst (v := nI 1) hx hb dX5_sealed_19 (by decide) ?_
        refine k_vi (As := [.int (nI 1)]) (rest := []) (w2 := fun u : Unit => (wM cI cZ cJ mo se co ou le wo ma pl tl tm th na si pa ta 1 G ky DE cn got S0 C0 O0 L0 W0 S1 C1 O1 L1 W1 MP PL ML DL TH NM SZ PT TK)) ⟨hx, hb, hml, hown, hts⟩ (c_m_raise l D cI cZ cJ mo se co ou le wo ma pl tl tm th na si pa ta thr G ky DE cn got S0 C0 O0 L0 W0 S1 C1 O1 L1 W1 MP PL ML DL TH NM SZ PT TK (nI 1)) (cwV 1 hts gX5_sealed_X5_raise rfl rfl rfl (by decide +kernel) ⟨Nat.le_of_ble_eq_true rfl, Nat.le_of_ble_eq_true rfl⟩) hP hD hK hS hA [0, 1, 2, 3, 4, 5, 6, 7, 8, 9, 10, 11, 12, 13, 14] [] [0, 1, 2, 3, 4, 5, 6, 7, 8, 9, 10, 11, 12, 13, 14] rfl rfl (by decide) (fun u => rfl) rfl rfl (q0 := 0) rfl rfl hl.1 rfl (Nat.le_of_ble_eq_true rfl) dX5_sealed_20 ⟨Nat.le_of_ble_eq_true rfl, Nat.le_of_ble_eq_true rfl⟩ (fun r u H locs hu3 hP hD hS => ?_)
        refine k_t1 (show r = 0 from hu3) ?_
        exact k_reti () hx hb hr hK hS hlk dX5_sealed_23 hP hD (by exact rfl) hQ

set_option maxHeartbeats 800000 in
set_option maxRecDepth 100000 in
theorem c_m_alter1_y (l : Launch) (D : va_G) (cI cZ cJ : ClassId) (mo : Nat) (se : Nat) (co : Nat) (ou : Nat) (le : Nat) (wo : Nat) (ma : Nat) (pl : Nat) (tl : Nat) (tm : Nat) (th : Nat) (na : Nat) (si : Nat) (pa : Nat) (ta : Nat) (thr : Int32) (G : Int32) (ky : Int32) (DE : Int32) (cn : Nat) (got : Int32) (S0 : Nat → Nat → Int32) (C0 : Nat → Int32) (O0 : Nat → Int32) (L0 : Nat → Int32) (W0 : Nat → Nat → Int32) (S1 : Nat → Nat → Int32) (C1 : Nat → Int32) (O1 : Nat → Int32) (L1 : Nat → Int32) (W1 : Nat → Nat → Int32) (MP : Nat → Nat) (PL : Nat → Int32) (ML : Nat → Int32) (DL : Nat → Int32) (TH : Nat → Int32) (NM : Nat → Int64) (SZ : Nat → Nat) (PT : Nat → Nat) (TK : Nat → Int32) (b i : Nat) (v : Int32) (hb0 : b < 63) (hi : i < 25) (hw : ¬ wholeB ky 1 C1 (setRow S1 b (upd (S1 b) i v)) b) : KI l yX5_alter wsX5_alter ({ frames := 3, cells := 0, slots := 0, locals := 69 }) D (kty cI cZ cJ) [.ref mo, .int (nI 1), .int (nI b), .int (nI i), .int v] (wM cI cZ cJ mo se co ou le wo ma pl tl tm th na si pa ta thr G ky DE cn got S0 C0 O0 L0 W0 S1 C1 O1 L1 W1 MP PL ML DL TH NM SZ PT TK) (fun r (_ : Unit) => r = 1) (fun _ : Unit => (wM cI cZ cJ mo se co ou le wo ma pl tl tm th na si pa ta 0 G ky DE cn got S0 C0 O0 L0 W0 (setRow S1 b (upd (S1 b) i v)) C1 O1 L1 W1 MP PL ML DL TH NM SZ PT TK)) 0 0 := by
  refine k_headI (cc := cX5_alter) (maxL := 8) (ret := (some .boolean)) (by decide) rfl (Nat.le_of_ble_eq_true rfl) ?_
  intro p e s m below meth c A ls args Q hx hb hr hml hts hown hlk hnm hA hK hP hD hS hl hQ
  have hl : lv_has ls 8 [(0, .ref mo), (1, .int (nI 1)), (2, .int (nI b)), (3, .int (nI i)), (4, .int v)] := hl
  refine lv_aload_n hx hb dX5_alter_0 rfl (lv_at hl 0 rfl) ?_
  refine lv_iconst (v := nI 0) hx hb dX5_alter_1 (by decide) ?_
  refine va_put (D := D) (ci := 5) (v := .int (nI 0)) (ty := .int) (C := RX5) (T := TX5) (N := 20) hx hb hts (by decide +kernel) tyX5 tyX5_ok nmX5 hown hK hP hD hS 0 rfl rfl 0 (by decide) (hts (.fieldLink RX5 58 "VeiledFilesModel" "thrown" "I") (by decide +kernel)) (fun _ h9 => h9) rfl (by decide +kernel) rfl rfl (Nat.le_of_ble_eq_true rfl) dX5_alter_2 (fun H locs hP hD hS => ?_)
  have hP : va_P D vwCl (wM cI cZ cJ mo se co ou le wo ma pl tl tm th na si pa ta 0 G ky DE cn got S0 C0 O0 L0 W0 S1 C1 O1 L1 W1 MP PL ML DL TH NM SZ PT TK) _ := hP
  have hD : va_D A (wM cI cZ cJ mo se co ou le wo ma pl tl tm th na si pa ta 0 G ky DE cn got S0 C0 O0 L0 W0 S1 C1 O1 L1 W1 MP PL ML DL TH NM SZ PT TK) := hD
  refine lv_iload_n hx hb dX5_alter_5 rfl (lv_at hl 1 rfl) ?_
  refine lv_iload_n hx hb dX5_alter_6 rfl (lv_at hl 2 rfl) ?_
  refine k_si (As := [.int (nI 1), .int (nI b)]) (rest := []) (w2 := fun u : Unit => (wM cI cZ cJ mo se co ou le wo ma pl tl tm th na si pa ta 0 G ky DE cn got S0 C0 O0 L0 W0 S1 C1 O1 L1 W1 MP PL ML DL TH NM SZ PT TK)) ⟨hx, hb, hml, hown, hts⟩ (c_m_isBucket1_y l D cI cZ cJ  b hb0) (va_cwS 2 hts gX5_alter_X5_isBucket rfl rfl rfl (by decide +kernel) ⟨Nat.le_of_ble_eq_true rfl, Nat.le_of_ble_eq_true rfl⟩) hP hD hK hS hA [] [0, 1, 2, 3, 4, 5, 6, 7, 8, 9, 10, 11, 12, 13, 14] [0, 1, 2, 3, 4, 5, 6, 7, 8, 9, 10, 11, 12, 13, 14] rfl rfl (by decide) (fun u => rfl) rfl hl.1 rfl (Nat.le_of_ble_eq_true rfl) dX5_alter_7 ⟨Nat.le_of_ble_eq_true rfl, Nat.le_of_ble_eq_true rfl⟩ (fun r u H locs hu1 hP hD hS => ?_)
  refine k_t1 (show r = 1 from hu1) ?_
  refine lv_if_eq (tgt := 23) hx hb dX5_alter_10 (by decide) (fun c1 => ?_) (fun c1 => ?_)
  · skip
    exact absurd c1 (by decide)
  · skip
    refine lv_iload_n hx hb dX5_alter_13 rfl (lv_at hl 3 rfl) ?_
    refine lv_if_lt (tgt := 23) hx hb dX5_alter_14 (by decide) (fun c2 => ?_) (fun c2 => ?_)
    · skip
      exact absurd c2 (nI_pos (by omega))
    · skip
      refine lv_iload_n hx hb dX5_alter_17 rfl (lv_at hl 3 rfl) ?_
      refine lv_bipush (v := nI 25) hx hb dX5_alter_18 (by decide) ?_
      refine k_icmp_lt (tgt := 25) hx hb (by omega) (by omega) dX5_alter_20 (by decide) (fun c3 => ?_) (fun c3 => ?_)
      · skip
        refine lv_bipush (v := nI 25) hx hb dX5_alter_25 (by decide) ?_
        refine lv_iload_n hx hb dX5_alter_27 rfl (lv_at hl 1 rfl) ?_
        refine lv_iload_n hx hb dX5_alter_28 rfl (lv_at hl 2 rfl) ?_
        refine k_si (As := [.int (nI 1), .int (nI b)]) (rest := [.int (nI 25)]) (w2 := fun u : Unit => (wM cI cZ cJ mo se co ou le wo ma pl tl tm th na si pa ta 0 G ky DE cn got S0 C0 O0 L0 W0 S1 C1 O1 L1 W1 MP PL ML DL TH NM SZ PT TK)) ⟨hx, hb, hml, hown, hts⟩ (c_m_place1 l D cI cZ cJ  b) (va_cwS 2 hts gX5_alter_X5_place rfl rfl rfl (by decide +kernel) ⟨Nat.le_of_ble_eq_true rfl, Nat.le_of_ble_eq_true rfl⟩) hP hD hK hS hA [] [0, 1, 2, 3, 4, 5, 6, 7, 8, 9, 10, 11, 12, 13, 14] [0, 1, 2, 3, 4, 5, 6, 7, 8, 9, 10, 11, 12, 13, 14] rfl rfl (by decide) (fun u => rfl) rfl hl.1 rfl (Nat.le_of_ble_eq_true rfl) dX5_alter_29 ⟨Nat.le_of_ble_eq_true rfl, Nat.le_of_ble_eq_true rfl⟩ (fun r u H locs hu2 hP hD hS => ?_)
        refine k_t1 (show r = nI (7 + b) from hu2) ?_
        refine lv_imul hx hb dX5_alter_32 ?_
        refine k_t1 (show (nI 25) * (nI (7 + b)) = nI (25 * (7 + b)) from pk_mul _ _) ?_
        refine lv_istore (lv' := [(5, .int (nI (25 * (7 + b)))), (0, .ref mo), (1, .int (nI 1)), (2, .int (nI b)), (3, .int (nI i)), (4, .int v)]) hx hb dX5_alter_33 hl (by decide) rfl (fun ls hl => ?_)
        refine lv_aload_n hx hb dX5_alter_35 rfl (lv_at hl 1 rfl) ?_
        refine va_get (D := D) (ci := 5) (v := .ref se) (C := RX5) (T := TX5) (N := 20) hx hb hts (by decide +kernel) hown hK hP 0 rfl rfl 5 (by decide) (hts (.fieldLink RX5 7 "VeiledFilesModel" "sealed" "[I") (by decide +kernel)) (fun _ h9 => h9) rfl dX5_alter_36 ?_
        refine lv_iload hx hb dX5_alter_39 (lv_at hl 0 rfl) ?_
        refine lv_iload_n hx hb dX5_alter_41 rfl (lv_at hl 4 rfl) ?_
        refine lv_iadd hx hb dX5_alter_42 ?_
        refine k_t1 (show (nI (25 * (7 + b))) + (nI i) = nI (25 * (7 + b) + i) from nI_add _ _) ?_
        refine k_iald hx hb hK hP 1 0 rfl rfl (25 * (7 + b) + i) (by omega) (by omega) (v := S1 b i) (rS1 (p := b) (i := i) hi (by omega)) dX5_alter_43 ?_
        refine lv_istore (lv' := [(6, .int (S1 b i)), (5, .int (nI (25 * (7 + b)))), (0, .ref mo), (1, .int (nI 1)), (2, .int (nI b)), (3, .int (nI i)), (4, .int v)]) hx hb dX5_alter_44 hl (by decide) rfl (fun ls hl => ?_)
        refine lv_aload_n hx hb dX5_alter_46 rfl (lv_at hl 2 rfl) ?_
        refine va_get (D := D) (ci := 5) (v := .ref se) (C := RX5) (T := TX5) (N := 20) hx hb hts (by decide +kernel) hown hK hP 0 rfl rfl 5 (by decide) (hts (.fieldLink RX5 7 "VeiledFilesModel" "sealed" "[I") (by decide +kernel)) (fun _ h9 => h9) rfl dX5_alter_47 ?_
        refine lv_iload hx hb dX5_alter_50 (lv_at hl 1 rfl) ?_
        refine lv_iload_n hx hb dX5_alter_52 rfl (lv_at hl 5 rfl) ?_
        refine lv_iadd hx hb dX5_alter_53 ?_
        refine k_t1 (show (nI (25 * (7 + b))) + (nI i) = nI (25 * (7 + b) + i) from nI_add _ _) ?_
        refine lv_iload hx hb dX5_alter_54 (lv_at hl 6 rfl) ?_
        refine k_iast hx hb hK hP hD hS 1 0 rfl rfl (25 * (7 + b) + i) (by omega) (by omega) (g := fl25 (jn 7 S0 (setRow S1 b (upd (S1 b) i v)))) (uS1 (p := b) (i := i) hi (by omega)) dX5_alter_56 (fun H locs hP hD hS => ?_)
        have hP : va_P D vwCl (wM cI cZ cJ mo se co ou le wo ma pl tl tm th na si pa ta 0 G ky DE cn got S0 C0 O0 L0 W0 (setRow S1 b (upd (S1 b) i v)) C1 O1 L1 W1 MP PL ML DL TH NM SZ PT TK) _ := hP
        have hD : va_D A (wM cI cZ cJ mo se co ou le wo ma pl tl tm th na si pa ta 0 G ky DE cn got S0 C0 O0 L0 W0 (setRow S1 b (upd (S1 b) i v)) C1 O1 L1 W1 MP PL ML DL TH NM SZ PT TK) := hD
        refine lv_aload_n hx hb dX5_alter_57 rfl (lv_at hl 2 rfl) ?_
        refine va_get (D := D) (ci := 5) (v := .ref se) (C := RX5) (T := TX5) (N := 20) hx hb hts (by decide +kernel) hown hK hP 0 rfl rfl 5 (by decide) (hts (.fieldLink RX5 7 "VeiledFilesModel" "sealed" "[I") (by decide +kernel)) (fun _ h9 => h9) rfl dX5_alter_58 ?_
        refine lv_iload hx hb dX5_alter_61 (lv_at hl 1 rfl) ?_
        refine lv_bipush (v := nI 24) hx hb dX5_alter_63 (by decide) ?_
        refine lv_iadd hx hb dX5_alter_65 ?_
        refine k_t1 (show (nI (25 * (7 + b))) + (nI 24) = nI (25 * (7 + b) + 24) from nI_add _ _) ?_
        refine k_iald hx hb hK hP 1 0 rfl rfl (25 * (7 + b) + 24) (by omega) (by omega) (v := (setRow S1 b (upd (S1 b) i v)) b 24) (rS1 (p := b) (i := 24) (by omega) (by omega)) dX5_alter_66 ?_
        refine lv_aload_n hx hb dX5_alter_67 rfl (lv_at hl 2 rfl) ?_
        refine lv_iload_n hx hb dX5_alter_68 rfl (lv_at hl 3 rfl) ?_
        refine lv_iload_n hx hb dX5_alter_69 rfl (lv_at hl 4 rfl) ?_
        refine k_vi (As := [.int (nI 1), .int (nI b)]) (rest := [.int ((setRow S1 b (upd (S1 b) i v)) b 24)]) (w2 := fun u : Unit => (wM cI cZ cJ mo se co ou le wo ma pl tl tm th na si pa ta 0 G ky DE cn got S0 C0 O0 L0 W0 (setRow S1 b (upd (S1 b) i v)) C1 O1 L1 W1 MP PL ML DL TH NM SZ PT TK)) ⟨hx, hb, hml, hown, hts⟩ (c_m_tag1 l D cI cZ cJ mo se co ou le wo ma pl tl tm th na si pa ta 0 G ky DE cn got S0 C0 O0 L0 W0 (setRow S1 b (upd (S1 b) i v)) C1 O1 L1 W1 MP PL ML DL TH NM SZ PT TK b hb0) (cwV 2 hts gX5_alter_X5_tag rfl rfl rfl (by decide +kernel) ⟨Nat.le_of_ble_eq_true rfl, Nat.le_of_ble_eq_true rfl⟩) hP hD hK hS hA [0, 1, 2, 3, 4, 5, 6, 7, 8, 9, 10, 11, 12, 13, 14] [] [0, 1, 2, 3, 4, 5, 6, 7, 8, 9, 10, 11, 12, 13, 14] rfl rfl (by decide) (fun u => rfl) rfl rfl (q0 := 0) rfl rfl hl.1 rfl (Nat.le_of_ble_eq_true rfl) dX5_alter_70 ⟨Nat.le_of_ble_eq_true rfl, Nat.le_of_ble_eq_true rfl⟩ (fun r u H locs hu3 hP hD hS => ?_)
        refine k_t1 (show r = tagF ky 1 (C1 b) b ((setRow S1 b (upd (S1 b) i v)) b) from hu3) ?_
        refine lv_icmp_ne (tgt := 80) hx hb dX5_alter_73 (by decide) (fun c4 => ?_) (fun c4 => ?_)
        · skip
          refine lv_iconst (v := nI 0) hx hb dX5_alter_80 (by decide) ?_
          refine lv_istore (lv' := [(7, .int (nI 0)), (6, .int (S1 b i)), (5, .int (nI (25 * (7 + b)))), (0, .ref mo), (1, .int (nI 1)), (2, .int (nI b)), (3, .int (nI i)), (4, .int v)]) hx hb dX5_alter_81 hl (by decide) rfl (fun ls hl => ?_)
          refine lv_iload hx hb dX5_alter_83 (lv_at hl 0 rfl) ?_
          refine lv_if_eq (tgt := 99) hx hb dX5_alter_85 (by decide) (fun c5 => ?_) (fun c5 => ?_)
          · skip
            refine lv_iload hx hb dX5_alter_99 (lv_at hl 0 rfl) ?_
            refine lv_if_ne (tgt := 108) hx hb dX5_alter_101 (by decide) (fun c6 => ?_) (fun c6 => ?_)
            · skip
              exact absurd rfl c6
            · skip
              refine lv_iconst (v := nI 1) hx hb dX5_alter_104 (by decide) ?_
              refine lv_goto (tgt := 109) hx hb dX5_alter_105 (by decide) ?_
              exact k_retz () hx hb hr hK hS hlk dX5_alter_109 ((by first | exact Or.inl rfl | exact Or.inr rfl)) hP hD (by exact rfl) hQ
          · skip
            exact absurd rfl c5
        · skip
          exact absurd c4 hw
      · skip
        omega

set_option maxHeartbeats 800000 in
set_option maxRecDepth 100000 in
theorem c_m_alter1_w (l : Launch) (D : va_G) (cI cZ cJ : ClassId) (mo : Nat) (se : Nat) (co : Nat) (ou : Nat) (le : Nat) (wo : Nat) (ma : Nat) (pl : Nat) (tl : Nat) (tm : Nat) (th : Nat) (na : Nat) (si : Nat) (pa : Nat) (ta : Nat) (thr : Int32) (G : Int32) (ky : Int32) (DE : Int32) (cn : Nat) (got : Int32) (S0 : Nat → Nat → Int32) (C0 : Nat → Int32) (O0 : Nat → Int32) (L0 : Nat → Int32) (W0 : Nat → Nat → Int32) (S1 : Nat → Nat → Int32) (C1 : Nat → Int32) (O1 : Nat → Int32) (L1 : Nat → Int32) (W1 : Nat → Nat → Int32) (MP : Nat → Nat) (PL : Nat → Int32) (ML : Nat → Int32) (DL : Nat → Int32) (TH : Nat → Int32) (NM : Nat → Int64) (SZ : Nat → Nat) (PT : Nat → Nat) (TK : Nat → Int32) (b i : Nat) (v : Int32) (hb0 : b < 63) (hi : i < 25) (hw : wholeB ky 1 C1 (setRow S1 b (upd (S1 b) i v)) b) : KI l yX5_alter wsX5_alter ({ frames := 3, cells := 0, slots := 0, locals := 69 }) D (kty cI cZ cJ) [.ref mo, .int (nI 1), .int (nI b), .int (nI i), .int v] (wM cI cZ cJ mo se co ou le wo ma pl tl tm th na si pa ta thr G ky DE cn got S0 C0 O0 L0 W0 S1 C1 O1 L1 W1 MP PL ML DL TH NM SZ PT TK) (fun r (_ : Unit) => r = 0) (fun _ : Unit => (wM cI cZ cJ mo se co ou le wo ma pl tl tm th na si pa ta 0 G ky DE cn got S0 C0 O0 L0 W0 S1 C1 O1 L1 W1 MP PL ML DL TH NM SZ PT TK)) 0 0 := by
  refine k_headI (cc := cX5_alter) (maxL := 8) (ret := (some .boolean)) (by decide) rfl (Nat.le_of_ble_eq_true rfl) ?_
  intro p e s m below meth c A ls args Q hx hb hr hml hts hown hlk hnm hA hK hP hD hS hl hQ
  have hl : lv_has ls 8 [(0, .ref mo), (1, .int (nI 1)), (2, .int (nI b)), (3, .int (nI i)), (4, .int v)] := hl
  refine lv_aload_n hx hb dX5_alter_0 rfl (lv_at hl 0 rfl) ?_
  refine lv_iconst (v := nI 0) hx hb dX5_alter_1 (by decide) ?_
  refine va_put (D := D) (ci := 5) (v := .int (nI 0)) (ty := .int) (C := RX5) (T := TX5) (N := 20) hx hb hts (by decide +kernel) tyX5 tyX5_ok nmX5 hown hK hP hD hS 0 rfl rfl 0 (by decide) (hts (.fieldLink RX5 58 "VeiledFilesModel" "thrown" "I") (by decide +kernel)) (fun _ h9 => h9) rfl (by decide +kernel) rfl rfl (Nat.le_of_ble_eq_true rfl) dX5_alter_2 (fun H locs hP hD hS => ?_)
  have hP : va_P D vwCl (wM cI cZ cJ mo se co ou le wo ma pl tl tm th na si pa ta 0 G ky DE cn got S0 C0 O0 L0 W0 S1 C1 O1 L1 W1 MP PL ML DL TH NM SZ PT TK) _ := hP
  have hD : va_D A (wM cI cZ cJ mo se co ou le wo ma pl tl tm th na si pa ta 0 G ky DE cn got S0 C0 O0 L0 W0 S1 C1 O1 L1 W1 MP PL ML DL TH NM SZ PT TK) := hD
  refine lv_iload_n hx hb dX5_alter_5 rfl (lv_at hl 1 rfl) ?_
  refine lv_iload_n hx hb dX5_alter_6 rfl (lv_at hl 2 rfl) ?_
  refine k_si (As := [.int (nI 1), .int (nI b)]) (rest := []) (w2 := fun u : Unit => (wM cI cZ cJ mo se co ou le wo ma pl tl tm th na si pa ta 0 G ky DE cn got S0 C0 O0 L0 W0 S1 C1 O1 L1 W1 MP PL ML DL TH NM SZ PT TK)) ⟨hx, hb, hml, hown, hts⟩ (c_m_isBucket1_y l D cI cZ cJ  b hb0) (va_cwS 2 hts gX5_alter_X5_isBucket rfl rfl rfl (by decide +kernel) ⟨Nat.le_of_ble_eq_true rfl, Nat.le_of_ble_eq_true rfl⟩) hP hD hK hS hA [] [0, 1, 2, 3, 4, 5, 6, 7, 8, 9, 10, 11, 12, 13, 14] [0, 1, 2, 3, 4, 5, 6, 7, 8, 9, 10, 11, 12, 13, 14] rfl rfl (by decide) (fun u => rfl) rfl hl.1 rfl (Nat.le_of_ble_eq_true rfl) dX5_alter_7 ⟨Nat.le_of_ble_eq_true rfl, Nat.le_of_ble_eq_true rfl⟩ (fun r u H locs hu1 hP hD hS => ?_)
  refine k_t1 (show r = 1 from hu1) ?_
  refine lv_if_eq (tgt := 23) hx hb dX5_alter_10 (by decide) (fun c1 => ?_) (fun c1 => ?_)
  · skip
    exact absurd c1 (by decide)
  · skip
    refine lv_iload_n hx hb dX5_alter_13 rfl (lv_at hl 3 rfl) ?_
    refine lv_if_lt (tgt := 23) hx hb dX5_alter_14 (by decide) (fun c2 => ?_) (fun c2 => ?_)
    · skip
      exact absurd c2 (nI_pos (by omega))
    · skip
      refine lv_iload_n hx hb dX5_alter_17 rfl (lv_at hl 3 rfl) ?_
      refine lv_bipush (v := nI 25) hx hb dX5_alter_18 (by decide) ?_
      refine k_icmp_lt (tgt := 25) hx hb (by omega) (by omega) dX5_alter_20 (by decide) (fun c3 => ?_) (fun c3 => ?_)
      · skip
        refine lv_bipush (v := nI 25) hx hb dX5_alter_25 (by decide) ?_
        refine lv_iload_n hx hb dX5_alter_27 rfl (lv_at hl 1 rfl) ?_
        refine lv_iload_n hx hb dX5_alter_28 rfl (lv_at hl 2 rfl) ?_
        refine k_si (As := [.int (nI 1), .int (nI b)]) (rest := [.int (nI 25)]) (w2 := fun u : Unit => (wM cI cZ cJ mo se co ou le wo ma pl tl tm th na si pa ta 0 G ky DE cn got S0 C0 O0 L0 W0 S1 C1 O1 L1 W1 MP PL ML DL TH NM SZ PT TK)) ⟨hx, hb, hml, hown, hts⟩ (c_m_place1 l D cI cZ cJ  b) (va_cwS 2 hts gX5_alter_X5_place rfl rfl rfl (by decide +kernel) ⟨Nat.le_of_ble_eq_true rfl, Nat.le_of_ble_eq_true rfl⟩) hP hD hK hS hA [] [0, 1, 2, 3, 4, 5, 6, 7, 8, 9, 10, 11, 12, 13, 14] [0, 1, 2, 3, 4, 5, 6, 7, 8, 9, 10, 11, 12, 13, 14] rfl rfl (by decide) (fun u => rfl) rfl hl.1 rfl (Nat.le_of_ble_eq_true rfl) dX5_alter_29 ⟨Nat.le_of_ble_eq_true rfl, Nat.le_of_ble_eq_true rfl⟩ (fun r u H locs hu2 hP hD hS => ?_)
        refine k_t1 (show r = nI (7 + b) from hu2) ?_
        refine lv_imul hx hb dX5_alter_32 ?_
        refine k_t1 (show (nI 25) * (nI (7 + b)) = nI (25 * (7 + b)) from pk_mul _ _) ?_
        refine lv_istore (lv' := [(5, .int (nI (25 * (7 + b)))), (0, .ref mo), (1, .int (nI 1)), (2, .int (nI b)), (3, .int (nI i)), (4, .int v)]) hx hb dX5_alter_33 hl (by decide) rfl (fun ls hl => ?_)
        refine lv_aload_n hx hb dX5_alter_35 rfl (lv_at hl 1 rfl) ?_
        refine va_get (D := D) (ci := 5) (v := .ref se) (C := RX5) (T := TX5) (N := 20) hx hb hts (by decide +kernel) hown hK hP 0 rfl rfl 5 (by decide) (hts (.fieldLink RX5 7 "VeiledFilesModel" "sealed" "[I") (by decide +kernel)) (fun _ h9 => h9) rfl dX5_alter_36 ?_
        refine lv_iload hx hb dX5_alter_39 (lv_at hl 0 rfl) ?_
        refine lv_iload_n hx hb dX5_alter_41 rfl (lv_at hl 4 rfl) ?_
        refine lv_iadd hx hb dX5_alter_42 ?_
        refine k_t1 (show (nI (25 * (7 + b))) + (nI i) = nI (25 * (7 + b) + i) from nI_add _ _) ?_
        refine k_iald hx hb hK hP 1 0 rfl rfl (25 * (7 + b) + i) (by omega) (by omega) (v := S1 b i) (rS1 (p := b) (i := i) hi (by omega)) dX5_alter_43 ?_
        refine lv_istore (lv' := [(6, .int (S1 b i)), (5, .int (nI (25 * (7 + b)))), (0, .ref mo), (1, .int (nI 1)), (2, .int (nI b)), (3, .int (nI i)), (4, .int v)]) hx hb dX5_alter_44 hl (by decide) rfl (fun ls hl => ?_)
        refine lv_aload_n hx hb dX5_alter_46 rfl (lv_at hl 2 rfl) ?_
        refine va_get (D := D) (ci := 5) (v := .ref se) (C := RX5) (T := TX5) (N := 20) hx hb hts (by decide +kernel) hown hK hP 0 rfl rfl 5 (by decide) (hts (.fieldLink RX5 7 "VeiledFilesModel" "sealed" "[I") (by decide +kernel)) (fun _ h9 => h9) rfl dX5_alter_47 ?_
        refine lv_iload hx hb dX5_alter_50 (lv_at hl 1 rfl) ?_
        refine lv_iload_n hx hb dX5_alter_52 rfl (lv_at hl 5 rfl) ?_
        refine lv_iadd hx hb dX5_alter_53 ?_
        refine k_t1 (show (nI (25 * (7 + b))) + (nI i) = nI (25 * (7 + b) + i) from nI_add _ _) ?_
        refine lv_iload hx hb dX5_alter_54 (lv_at hl 6 rfl) ?_
        refine k_iast hx hb hK hP hD hS 1 0 rfl rfl (25 * (7 + b) + i) (by omega) (by omega) (g := fl25 (jn 7 S0 (setRow S1 b (upd (S1 b) i v)))) (uS1 (p := b) (i := i) hi (by omega)) dX5_alter_56 (fun H locs hP hD hS => ?_)
        have hP : va_P D vwCl (wM cI cZ cJ mo se co ou le wo ma pl tl tm th na si pa ta 0 G ky DE cn got S0 C0 O0 L0 W0 (setRow S1 b (upd (S1 b) i v)) C1 O1 L1 W1 MP PL ML DL TH NM SZ PT TK) _ := hP
        have hD : va_D A (wM cI cZ cJ mo se co ou le wo ma pl tl tm th na si pa ta 0 G ky DE cn got S0 C0 O0 L0 W0 (setRow S1 b (upd (S1 b) i v)) C1 O1 L1 W1 MP PL ML DL TH NM SZ PT TK) := hD
        refine lv_aload_n hx hb dX5_alter_57 rfl (lv_at hl 2 rfl) ?_
        refine va_get (D := D) (ci := 5) (v := .ref se) (C := RX5) (T := TX5) (N := 20) hx hb hts (by decide +kernel) hown hK hP 0 rfl rfl 5 (by decide) (hts (.fieldLink RX5 7 "VeiledFilesModel" "sealed" "[I") (by decide +kernel)) (fun _ h9 => h9) rfl dX5_alter_58 ?_
        refine lv_iload hx hb dX5_alter_61 (lv_at hl 1 rfl) ?_
        refine lv_bipush (v := nI 24) hx hb dX5_alter_63 (by decide) ?_
        refine lv_iadd hx hb dX5_alter_65 ?_
        refine k_t1 (show (nI (25 * (7 + b))) + (nI 24) = nI (25 * (7 + b) + 24) from nI_add _ _) ?_
        refine k_iald hx hb hK hP 1 0 rfl rfl (25 * (7 + b) + 24) (by omega) (by omega) (v := (setRow S1 b (upd (S1 b) i v)) b 24) (rS1 (p := b) (i := 24) (by omega) (by omega)) dX5_alter_66 ?_
        refine lv_aload_n hx hb dX5_alter_67 rfl (lv_at hl 2 rfl) ?_
        refine lv_iload_n hx hb dX5_alter_68 rfl (lv_at hl 3 rfl) ?_
        refine lv_iload_n hx hb dX5_alter_69 rfl (lv_at hl 4 rfl) ?_
        refine k_vi (As := [.int (nI 1), .int (nI b)]) (rest := [.int ((setRow S1 b (upd (S1 b) i v)) b 24)]) (w2 := fun u : Unit => (wM cI cZ cJ mo se co ou le wo ma pl tl tm th na si pa ta 0 G ky DE cn got S0 C0 O0 L0 W0 (setRow S1 b (upd (S1 b) i v)) C1 O1 L1 W1 MP PL ML DL TH NM SZ PT TK)) ⟨hx, hb, hml, hown, hts⟩ (c_m_tag1 l D cI cZ cJ mo se co ou le wo ma pl tl tm th na si pa ta 0 G ky DE cn got S0 C0 O0 L0 W0 (setRow S1 b (upd (S1 b) i v)) C1 O1 L1 W1 MP PL ML DL TH NM SZ PT TK b hb0) (cwV 2 hts gX5_alter_X5_tag rfl rfl rfl (by decide +kernel) ⟨Nat.le_of_ble_eq_true rfl, Nat.le_of_ble_eq_true rfl⟩) hP hD hK hS hA [0, 1, 2, 3, 4, 5, 6, 7, 8, 9, 10, 11, 12, 13, 14] [] [0, 1, 2, 3, 4, 5, 6, 7, 8, 9, 10, 11, 12, 13, 14] rfl rfl (by decide) (fun u => rfl) rfl rfl (q0 := 0) rfl rfl hl.1 rfl (Nat.le_of_ble_eq_true rfl) dX5_alter_70 ⟨Nat.le_of_ble_eq_true rfl, Nat.le_of_ble_eq_true rfl⟩ (fun r u H locs hu3 hP hD hS => ?_)
        refine k_t1 (show r = tagF ky 1 (C1 b) b ((setRow S1 b (upd (S1 b) i v)) b) from hu3) ?_
        refine lv_icmp_ne (tgt := 80) hx hb dX5_alter_73 (by decide) (fun c4 => ?_) (fun c4 => ?_)
        · skip
          exact absurd hw c4
        · skip
          refine lv_iconst (v := nI 1) hx hb dX5_alter_76 (by decide) ?_
          refine lv_goto (tgt := 81) hx hb dX5_alter_77 (by decide) ?_
          refine lv_istore (lv' := [(7, .int (nI 1)), (6, .int (S1 b i)), (5, .int (nI (25 * (7 + b)))), (0, .ref mo), (1, .int (nI 1)), (2, .int (nI b)), (3, .int (nI i)), (4, .int v)]) hx hb dX5_alter_81 hl (by decide) rfl (fun ls hl => ?_)
          refine lv_iload hx hb dX5_alter_83 (lv_at hl 0 rfl) ?_
          refine lv_if_eq (tgt := 99) hx hb dX5_alter_85 (by decide) (fun c5 => ?_) (fun c5 => ?_)
          · skip
            exact absurd c5 (by decide)
          · skip
            refine lv_aload_n hx hb dX5_alter_88 rfl (lv_at hl 3 rfl) ?_
            refine va_get (D := D) (ci := 5) (v := .ref se) (C := RX5) (T := TX5) (N := 20) hx hb hts (by decide +kernel) hown hK hP 0 rfl rfl 5 (by decide) (hts (.fieldLink RX5 7 "VeiledFilesModel" "sealed" "[I") (by decide +kernel)) (fun _ h9 => h9) rfl dX5_alter_89 ?_
            refine lv_iload hx hb dX5_alter_92 (lv_at hl 2 rfl) ?_
            refine lv_iload_n hx hb dX5_alter_94 rfl (lv_at hl 6 rfl) ?_
            refine lv_iadd hx hb dX5_alter_95 ?_
            refine k_t1 (show (nI (25 * (7 + b))) + (nI i) = nI (25 * (7 + b) + i) from nI_add _ _) ?_
            refine lv_iload hx hb dX5_alter_96 (lv_at hl 1 rfl) ?_
            refine k_iast hx hb hK hP hD hS 1 0 rfl rfl (25 * (7 + b) + i) (by omega) (by omega) (g := fl25 (jn 7 S0 S1)) ((uS1 (p := b) (i := i) hi (by omega)).trans (by rw [setRow_s, setRow_2, upd_back, setRow_id])) dX5_alter_98 (fun H locs hP hD hS => ?_)
            have hP : va_P D vwCl (wM cI cZ cJ mo se co ou le wo ma pl tl tm th na si pa ta 0 G ky DE cn got S0 C0 O0 L0 W0 S1 C1 O1 L1 W1 MP PL ML DL TH NM SZ PT TK) _ := hP
            have hD : va_D A (wM cI cZ cJ mo se co ou le wo ma pl tl tm th na si pa ta 0 G ky DE cn got S0 C0 O0 L0 W0 S1 C1 O1 L1 W1 MP PL ML DL TH NM SZ PT TK) := hD
            refine lv_iload hx hb dX5_alter_99 (lv_at hl 0 rfl) ?_
            refine lv_if_ne (tgt := 108) hx hb dX5_alter_101 (by decide) (fun c6 => ?_) (fun c6 => ?_)
            · skip
              refine lv_iconst (v := nI 0) hx hb dX5_alter_108 (by decide) ?_
              exact k_retz () hx hb hr hK hS hlk dX5_alter_109 ((by first | exact Or.inl rfl | exact Or.inr rfl)) hP hD (by exact rfl) hQ
            · skip
              exact absurd c6 (by decide)
      · skip
        omega

set_option maxHeartbeats 800000 in
set_option maxRecDepth 100000 in
theorem c_m_alter1_n1 (l : Launch) (D : va_G) (cI cZ cJ : ClassId) (mo : Nat) (se : Nat) (co : Nat) (ou : Nat) (le : Nat) (wo : Nat) (ma : Nat) (pl : Nat) (tl : Nat) (tm : Nat) (th : Nat) (na : Nat) (si : Nat) (pa : Nat) (ta : Nat) (thr : Int32) (G : Int32) (ky : Int32) (DE : Int32) (cn : Nat) (got : Int32) (S0 : Nat → Nat → Int32) (C0 : Nat → Int32) (O0 : Nat → Int32) (L0 : Nat → Int32) (W0 : Nat → Nat → Int32) (S1 : Nat → Nat → Int32) (C1 : Nat → Int32) (O1 : Nat → Int32) (L1 : Nat → Int32) (W1 : Nat → Nat → Int32) (MP : Nat → Nat) (PL : Nat → Int32) (ML : Nat → Int32) (DL : Nat → Int32) (TH : Nat → Int32) (NM : Nat → Int64) (SZ : Nat → Nat) (PT : Nat → Nat) (TK : Nat → Int32) (y i v : Int32) (hy : noB 63 y = true) : KI l yX5_alter wsX5_alter ({ frames := 2, cells := 0, slots := 0, locals := 41 }) D (kty cI cZ cJ) [.ref mo, .int (nI 1), .int y, .int i, .int v] (wM cI cZ cJ mo se co ou le wo ma pl tl tm th na si pa ta thr G ky DE cn got S0 C0 O0 L0 W0 S1 C1 O1 L1 W1 MP PL ML DL TH NM SZ PT TK) (fun r (_ : Unit) => r = 0) (fun _ : Unit => (wM cI cZ cJ mo se co ou le wo ma pl tl tm th na si pa ta 0 G ky DE cn got S0 C0 O0 L0 W0 S1 C1 O1 L1 W1 MP PL ML DL TH NM SZ PT TK)) 0 0 := by
  refine k_headI (cc := cX5_alter) (maxL := 8) (ret := (some .boolean)) (by decide) rfl (Nat.le_of_ble_eq_true rfl) ?_
  intro p e s m below meth c A ls args Q hx hb hr hml hts hown hlk hnm hA hK hP hD hS hl hQ
  have hl : lv_has ls 8 [(0, .ref mo), (1, .int (nI 1)), (2, .int y), (3, .int i), (4, .int v)] := hl
  refine lv_aload_n hx hb dX5_alter_0 rfl (lv_at hl 0 rfl) ?_
  refine lv_iconst (v := nI 0) hx hb dX5_alter_1 (by decide) ?_
  refine va_put (D := D) (ci := 5) (v := .int (nI 0)) (ty := .int) (C := RX5) (T := TX5) (N := 20) hx hb hts (by decide +kernel) tyX5 tyX5_ok nmX5 hown hK hP hD hS 0 rfl rfl 0 (by decide) (hts (.fieldLink RX5 58 "VeiledFilesModel" "thrown" "I") (by decide +kernel)) (fun _ h9 => h9) rfl (by decide +kernel) rfl rfl (Nat.le_of_ble_eq_true rfl) dX5_alter_2 (fun H locs hP hD hS => ?_)
  have hP : va_P D vwCl (wM cI cZ cJ mo se co ou le wo ma pl tl tm th na si pa ta 0 G ky DE cn got S0 C0 O0 L0 W0 S1 C1 O1 L1 W1 MP PL ML DL TH NM SZ PT TK) _ := hP
  have hD : va_D A (wM cI cZ cJ mo se co ou le wo ma pl tl tm th na si pa ta 0 G ky DE cn got S0 C0 O0 L0 W0 S1 C1 O1 L1 W1 MP PL ML DL TH NM SZ PT TK) := hD
  refine lv_iload_n hx hb dX5_alter_5 rfl (lv_at hl 1 rfl) ?_
  refine lv_iload_n hx hb dX5_alter_6 rfl (lv_at hl 2 rfl) ?_
  refine k_si (As := [.int (nI 1), .int y]) (rest := []) (w2 := fun u : Unit => (wM cI cZ cJ mo se co ou le wo ma pl tl tm th na si pa ta 0 G ky DE cn got S0 C0 O0 L0 W0 S1 C1 O1 L1 W1 MP PL ML DL TH NM SZ PT TK)) ⟨hx, hb, hml, hown, hts⟩ (c_m_isBucket1_n l D cI cZ cJ  y hy) (va_cwS 2 hts gX5_alter_X5_isBucket rfl rfl rfl (by decide +kernel) ⟨Nat.le_of_ble_eq_true rfl, Nat.le_of_ble_eq_true rfl⟩) hP hD hK hS hA [] [0, 1, 2, 3, 4, 5, 6, 7, 8, 9, 10, 11, 12, 13, 14] [0, 1, 2, 3, 4, 5, 6, 7, 8, 9, 10, 11, 12, 13, 14] rfl rfl (by decide) (fun u => rfl) rfl hl.1 rfl (Nat.le_of_ble_eq_true rfl) dX5_alter_7 ⟨Nat.le_of_ble_eq_true rfl, Nat.le_of_ble_eq_true rfl⟩ (fun r u H locs hu1 hP hD hS => ?_)
  refine k_t1 (show r = 0 from hu1) ?_
  refine lv_if_eq (tgt := 23) hx hb dX5_alter_10 (by decide) (fun c1 => ?_) (fun c1 => ?_)
  · skip
    refine lv_iconst (v := nI 0) hx hb dX5_alter_23 (by decide) ?_
    exact k_retz () hx hb hr hK hS hlk dX5_alter_24 ((by first | exact Or.inl rfl | exact Or.inr rfl)) hP hD (by exact rfl) hQ
  · skip
    exact absurd rfl c1

set_option maxHeartbeats 800000 in
set_option maxRecDepth 100000 in
theorem c_m_alter1_n2 (l : Launch) (D : va_G) (cI cZ cJ : ClassId) (mo : Nat) (se : Nat) (co : Nat) (ou : Nat) (le : Nat) (wo : Nat) (ma : Nat) (pl : Nat) (tl : Nat) (tm : Nat) (th : Nat) (na : Nat) (si : Nat) (pa : Nat) (ta : Nat) (thr : Int32) (G : Int32) (ky : Int32) (DE : Int32) (cn : Nat) (got : Int32) (S0 : Nat → Nat → Int32) (C0 : Nat → Int32) (O0 : Nat → Int32) (L0 : Nat → Int32) (W0 : Nat → Nat → Int32) (S1 : Nat → Nat → Int32) (C1 : Nat → Int32) (O1 : Nat → Int32) (L1 : Nat → Int32) (W1 : Nat → Nat → Int32) (MP : Nat → Nat) (PL : Nat → Int32) (ML : Nat → Int32) (DL : Nat → Int32) (TH : Nat → Int32) (NM : Nat → Int64) (SZ : Nat → Nat) (PT : Nat → Nat) (TK : Nat → Int32) (b : Nat) (i v : Int32) (hb0 : b < 63) (hi : noB 25 i = true) : KI l yX5_alter wsX5_alter ({ frames := 2, cells := 0, slots := 0, locals := 41 }) D (kty cI cZ cJ) [.ref mo, .int (nI 1), .int (nI b), .int i, .int v] (wM cI cZ cJ mo se co ou le wo ma pl tl tm th na si pa ta thr G ky DE cn got S0 C0 O0 L0 W0 S1 C1 O1 L1 W1 MP PL ML DL TH NM SZ PT TK) (fun r (_ : Unit) => r = 0) (fun _ : Unit => (wM cI cZ cJ mo se co ou le wo ma pl tl tm th na si pa ta 0 G ky DE cn got S0 C0 O0 L0 W0 S1 C1 O1 L1 W1 MP PL ML DL TH NM SZ PT TK)) 0 0 := by
  refine k_headI (cc := cX5_alter) (maxL := 8) (ret := (some .boolean)) (by decide) rfl (Nat.le_of_ble_eq_true rfl) ?_
  intro p e s m below meth c A ls args Q hx hb hr hml hts hown hlk hnm hA hK hP hD hS hl hQ
  have hl : lv_has ls 8 [(0, .ref mo), (1, .int (nI 1)), (2, .int (nI b)), (3, .int i), (4, .int v)] := hl
  refine lv_aload_n hx hb dX5_alter_0 rfl (lv_at hl 0 rfl) ?_
  refine lv_iconst (v := nI 0) hx hb dX5_alter_1 (by decide) ?_
  refine va_put (D := D) (ci := 5) (v := .int (nI 0)) (ty := .int) (C := RX5) (T := TX5) (N := 20) hx hb hts (by decide +kernel) tyX5 tyX5_ok nmX5 hown hK hP hD hS 0 rfl rfl 0 (by decide) (hts (.fieldLink RX5 58 "VeiledFilesModel" "thrown" "I") (by decide +kernel)) (fun _ h9 => h9) rfl (by decide +kernel) rfl rfl (Nat.le_of_ble_eq_true rfl) dX5_alter_2 (fun H locs hP hD hS => ?_)
  have hP : va_P D vwCl (wM cI cZ cJ mo se co ou le wo ma pl tl tm th na si pa ta 0 G ky DE cn got S0 C0 O0 L0 W0 S1 C1 O1 L1 W1 MP PL ML DL TH NM SZ PT TK) _ := hP
  have hD : va_D A (wM cI cZ cJ mo se co ou le wo ma pl tl tm th na si pa ta 0 G ky DE cn got S0 C0 O0 L0 W0 S1 C1 O1 L1 W1 MP PL ML DL TH NM SZ PT TK) := hD
  refine lv_iload_n hx hb dX5_alter_5 rfl (lv_at hl 1 rfl) ?_
  refine lv_iload_n hx hb dX5_alter_6 rfl (lv_at hl 2 rfl) ?_
  refine k_si (As := [.int (nI 1), .int (nI b)]) (rest := []) (w2 := fun u : Unit => (wM cI cZ cJ mo se co ou le wo ma pl tl tm th na si pa ta 0 G ky DE cn got S0 C0 O0 L0 W0 S1 C1 O1 L1 W1 MP PL ML DL TH NM SZ PT TK)) ⟨hx, hb, hml, hown, hts⟩ (c_m_isBucket1_y l D cI cZ cJ  b hb0) (va_cwS 2 hts gX5_alter_X5_isBucket rfl rfl rfl (by decide +kernel) ⟨Nat.le_of_ble_eq_true rfl, Nat.le_of_ble_eq_true rfl⟩) hP hD hK hS hA [] [0, 1, 2, 3, 4, 5, 6, 7, 8, 9, 10, 11, 12, 13, 14] [0, 1, 2, 3, 4, 5, 6, 7, 8, 9, 10, 11, 12, 13, 14] rfl rfl (by decide) (fun u => rfl) rfl hl.1 rfl (Nat.le_of_ble_eq_true rfl) dX5_alter_7 ⟨Nat.le_of_ble_eq_true rfl, Nat.le_of_ble_eq_true rfl⟩ (fun r u H locs hu1 hP hD hS => ?_)
  refine k_t1 (show r = 1 from hu1) ?_
  refine lv_if_eq (tgt := 23) hx hb dX5_alter_10 (by decide) (fun c1 => ?_) (fun c1 => ?_)
  · skip
    exact absurd c1 (by decide)
  · skip
    refine lv_iload_n hx hb dX5_alter_13 rfl (lv_at hl 3 rfl) ?_
    refine lv_if_lt (tgt := 23) hx hb dX5_alter_14 (by decide) (fun c2 => ?_) (fun c2 => ?_)
    · skip
      refine lv_iconst (v := nI 0) hx hb dX5_alter_23 (by decide) ?_
      exact k_retz () hx hb hr hK hS hlk dX5_alter_24 ((by first | exact Or.inl rfl | exact Or.inr rfl)) hP hD (by exact rfl) hQ
    · skip
      refine lv_iload_n hx hb dX5_alter_17 rfl (lv_at hl 3 rfl) ?_
      refine lv_bipush (v := nI 25) hx hb dX5_alter_18 (by decide) ?_
      refine lv_icmp_lt (tgt := 25) hx hb dX5_alter_20 (by decide) (fun c3 => ?_) (fun c3 => ?_)
      · skip
        exact absurd hi (by simp [noB, c2, Int32.not_le.mpr c3])
      · skip
        refine lv_iconst (v := nI 0) hx hb dX5_alter_23 (by decide) ?_
        exact k_retz () hx hb hr hK hS hlk dX5_alter_24 ((by first | exact Or.inl rfl | exact Or.inr rfl)) hP hD (by exact rfl) hQ

set_option maxHeartbeats 800000 in
set_option maxRecDepth 100000 in
theorem c_m_counter1_y (l : Launch) (D : va_G) (cI cZ cJ : ClassId) (mo : Nat) (se : Nat) (co : Nat) (ou : Nat) (le : Nat) (wo : Nat) (ma : Nat) (pl : Nat) (tl : Nat) (tm : Nat) (th : Nat) (na : Nat) (si : Nat) (pa : Nat) (ta : Nat) (thr : Int32) (G : Int32) (ky : Int32) (DE : Int32) (cn : Nat) (got : Int32) (S0 : Nat → Nat → Int32) (C0 : Nat → Int32) (O0 : Nat → Int32) (L0 : Nat → Int32) (W0 : Nat → Nat → Int32) (S1 : Nat → Nat → Int32) (C1 : Nat → Int32) (O1 : Nat → Int32) (L1 : Nat → Int32) (W1 : Nat → Nat → Int32) (MP : Nat → Nat) (PL : Nat → Int32) (ML : Nat → Int32) (DL : Nat → Int32) (TH : Nat → Int32) (NM : Nat → Int64) (SZ : Nat → Nat) (PT : Nat → Nat) (TK : Nat → Int32) (b : Nat) (hb0 : b < 63) : KI l yX5_counter wsX5_counter ({ frames := 2, cells := 0, slots := 0, locals := 41 }) D (kty cI cZ cJ) [.ref mo, .int (nI 1), .int (nI b)] (wM cI cZ cJ mo se co ou le wo ma pl tl tm th na si pa ta thr G ky DE cn got S0 C0 O0 L0 W0 S1 C1 O1 L1 W1 MP PL ML DL TH NM SZ PT TK) (fun r (_ : Unit) => r = C1 b) (fun _ : Unit => (wM cI cZ cJ mo se co ou le wo ma pl tl tm th na si pa ta 0 G ky DE cn got S0 C0 O0 L0 W0 S1 C1 O1 L1 W1 MP PL ML DL TH NM SZ PT TK)) 0 0 := by
  refine k_headI (cc := cX5_counter) (maxL := 3) (ret := (some .int)) (by decide) rfl (Nat.le_of_ble_eq_true rfl) ?_
  intro p e s m below meth c A ls args Q hx hb hr hml hts hown hlk hnm hA hK hP hD hS hl hQ
  have hl : lv_has ls 3 [(0, .ref mo), (1, .int (nI 1)), (2, .int (nI b))] := hl
  refine lv_aload_n hx hb dX5_counter_0 rfl (lv_at hl 0 rfl) ?_
  refine lv_iconst (v := nI 0) hx hb dX5_counter_1 (by decide) ?_
  refine va_put (D := D) (ci := 5) (v := .int (nI 0)) (ty := .int) (C := RX5) (T := TX5) (N := 20) hx hb hts (by decide +kernel) tyX5 tyX5_ok nmX5 hown hK hP hD hS 0 rfl rfl 0 (by decide) (hts (.fieldLink RX5 58 "VeiledFilesModel" "thrown" "I") (by decide +kernel)) (fun _ h9 => h9) rfl (by decide +kernel) rfl rfl (Nat.le_of_ble_eq_true rfl) dX5_counter_2 (fun H locs hP hD hS => ?_)
  have hP : va_P D vwCl (wM cI cZ cJ mo se co ou le wo ma pl tl tm th na si pa ta 0 G ky DE cn got S0 C0 O0 L0 W0 S1 C1 O1 L1 W1 MP PL ML DL TH NM SZ PT TK) _ := hP
  have hD : va_D A (wM cI cZ cJ mo se co ou le wo ma pl tl tm th na si pa ta 0 G ky DE cn got S0 C0 O0 L0 W0 S1 C1 O1 L1 W1 MP PL ML DL TH NM SZ PT TK) := hD
  refine lv_iload_n hx hb dX5_counter_5 rfl (lv_at hl 1 rfl) ?_
  refine lv_iload_n hx hb dX5_counter_6 rfl (lv_at hl 2 rfl) ?_
  refine k_si (As := [.int (nI 1), .int (nI b)]) (rest := []) (w2 := fun u : Unit => (wM cI cZ cJ mo se co ou le wo ma pl tl tm th na si pa ta 0 G ky DE cn got S0 C0 O0 L0 W0 S1 C1 O1 L1 W1 MP PL ML DL TH NM SZ PT TK)) ⟨hx, hb, hml, hown, hts⟩ (c_m_isBucket1_y l D cI cZ cJ  b hb0) (va_cwS 2 hts gX5_counter_X5_isBucket rfl rfl rfl (by decide +kernel) ⟨Nat.le_of_ble_eq_true rfl, Nat.le_of_ble_eq_true rfl⟩) hP hD hK hS hA [] [0, 1, 2, 3, 4, 5, 6, 7, 8, 9, 10, 11, 12, 13, 14] [0, 1, 2, 3, 4, 5, 6, 7, 8, 9, 10, 11, 12, 13, 14] rfl rfl (by decide) (fun u => rfl) rfl hl.1 rfl (Nat.le_of_ble_eq_true rfl) dX5_counter_7 ⟨Nat.le_of_ble_eq_true rfl, Nat.le_of_ble_eq_true rfl⟩ (fun r u H locs hu1 hP hD hS => ?_)
  refine k_t1 (show r = 1 from hu1) ?_
  refine lv_if_eq (tgt := 26) hx hb dX5_counter_10 (by decide) (fun c1 => ?_) (fun c1 => ?_)
  · skip
    exact absurd c1 (by decide)
  · skip
    refine lv_aload_n hx hb dX5_counter_13 rfl (lv_at hl 0 rfl) ?_
    refine va_get (D := D) (ci := 5) (v := .ref co) (C := RX5) (T := TX5) (N := 20) hx hb hts (by decide +kernel) hown hK hP 0 rfl rfl 6 (by decide) (hts (.fieldLink RX5 13 "VeiledFilesModel" "counters" "[I") (by decide +kernel)) (fun _ h9 => h9) rfl dX5_counter_14 ?_
    refine lv_iload_n hx hb dX5_counter_17 rfl (lv_at hl 1 rfl) ?_
    refine lv_iload_n hx hb dX5_counter_18 rfl (lv_at hl 2 rfl) ?_
    refine k_si (As := [.int (nI 1), .int (nI b)]) (rest := [.ref co]) (w2 := fun u : Unit => (wM cI cZ cJ mo se co ou le wo ma pl tl tm th na si pa ta 0 G ky DE cn got S0 C0 O0 L0 W0 S1 C1 O1 L1 W1 MP PL ML DL TH NM SZ PT TK)) ⟨hx, hb, hml, hown, hts⟩ (c_m_place1 l D cI cZ cJ  b) (va_cwS 2 hts gX5_counter_X5_place rfl rfl rfl (by decide +kernel) ⟨Nat.le_of_ble_eq_true rfl, Nat.le_of_ble_eq_true rfl⟩) hP hD hK hS hA [] [0, 1, 2, 3, 4, 5, 6, 7, 8, 9, 10, 11, 12, 13, 14] [0, 1, 2, 3, 4, 5, 6, 7, 8, 9, 10, 11, 12, 13, 14] rfl rfl (by decide) (fun u => rfl) rfl hl.1 rfl (Nat.le_of_ble_eq_true rfl) dX5_counter_19 ⟨Nat.le_of_ble_eq_true rfl, Nat.le_of_ble_eq_true rfl⟩ (fun r u H locs hu2 hP hD hS => ?_)
    refine k_t1 (show r = nI (7 + b) from hu2) ?_
    refine k_iald hx hb hK hP 2 0 rfl rfl (7 + b) (by omega) (by omega) (v := C1 b) (jn_1) dX5_counter_22 ?_
    refine lv_goto (tgt := 27) hx hb dX5_counter_23 (by decide) ?_
    exact k_reti () hx hb hr hK hS hlk dX5_counter_27 hP hD (by exact rfl) hQ

set_option maxHeartbeats 800000 in
set_option maxRecDepth 100000 in
theorem c_m_counter1_n (l : Launch) (D : va_G) (cI cZ cJ : ClassId) (mo : Nat) (se : Nat) (co : Nat) (ou : Nat) (le : Nat) (wo : Nat) (ma : Nat) (pl : Nat) (tl : Nat) (tm : Nat) (th : Nat) (na : Nat) (si : Nat) (pa : Nat) (ta : Nat) (thr : Int32) (G : Int32) (ky : Int32) (DE : Int32) (cn : Nat) (got : Int32) (S0 : Nat → Nat → Int32) (C0 : Nat → Int32) (O0 : Nat → Int32) (L0 : Nat → Int32) (W0 : Nat → Nat → Int32) (S1 : Nat → Nat → Int32) (C1 : Nat → Int32) (O1 : Nat → Int32) (L1 : Nat → Int32) (W1 : Nat → Nat → Int32) (MP : Nat → Nat) (PL : Nat → Int32) (ML : Nat → Int32) (DL : Nat → Int32) (TH : Nat → Int32) (NM : Nat → Int64) (SZ : Nat → Nat) (PT : Nat → Nat) (TK : Nat → Int32) (y : Int32) (hy : noB 63 y = true) : KI l yX5_counter wsX5_counter ({ frames := 2, cells := 0, slots := 0, locals := 41 }) D (kty cI cZ cJ) [.ref mo, .int (nI 1), .int y] (wM cI cZ cJ mo se co ou le wo ma pl tl tm th na si pa ta thr G ky DE cn got S0 C0 O0 L0 W0 S1 C1 O1 L1 W1 MP PL ML DL TH NM SZ PT TK) (fun r (_ : Unit) => r = -1) (fun _ : Unit => (wM cI cZ cJ mo se co ou le wo ma pl tl tm th na si pa ta 0 G ky DE cn got S0 C0 O0 L0 W0 S1 C1 O1 L1 W1 MP PL ML DL TH NM SZ PT TK)) 0 0 := by
  refine k_headI (cc := cX5_counter) (maxL := 3) (ret := (some .int)) (by decide) rfl (Nat.le_of_ble_eq_true rfl) ?_
  intro p e s m below meth c A ls args Q hx hb hr hml hts hown hlk hnm hA hK hP hD hS hl hQ
  have hl : lv_has ls 3 [(0, .ref mo), (1, .int (nI 1)), (2, .int y)] := hl
  refine lv_aload_n hx hb dX5_counter_0 rfl (lv_at hl 0 rfl) ?_
  refine lv_iconst (v := nI 0) hx hb dX5_counter_1 (by decide) ?_
  refine va_put (D := D) (ci := 5) (v := .int (nI 0)) (ty := .int) (C := RX5) (T := TX5) (N := 20) hx hb hts (by decide +kernel) tyX5 tyX5_ok nmX5 hown hK hP hD hS 0 rfl rfl 0 (by decide) (hts (.fieldLink RX5 58 "VeiledFilesModel" "thrown" "I") (by decide +kernel)) (fun _ h9 => h9) rfl (by decide +kernel) rfl rfl (Nat.le_of_ble_eq_true rfl) dX5_counter_2 (fun H locs hP hD hS => ?_)
  have hP : va_P D vwCl (wM cI cZ cJ mo se co ou le wo ma pl tl tm th na si pa ta 0 G ky DE cn got S0 C0 O0 L0 W0 S1 C1 O1 L1 W1 MP PL ML DL TH NM SZ PT TK) _ := hP
  have hD : va_D A (wM cI cZ cJ mo se co ou le wo ma pl tl tm th na si pa ta 0 G ky DE cn got S0 C0 O0 L0 W0 S1 C1 O1 L1 W1 MP PL ML DL TH NM SZ PT TK) := hD
  refine lv_iload_n hx hb dX5_counter_5 rfl (lv_at hl 1 rfl) ?_
  refine lv_iload_n hx hb dX5_counter_6 rfl (lv_at hl 2 rfl) ?_
  refine k_si (As := [.int (nI 1), .int y]) (rest := []) (w2 := fun u : Unit => (wM cI cZ cJ mo se co ou le wo ma pl tl tm th na si pa ta 0 G ky DE cn got S0 C0 O0 L0 W0 S1 C1 O1 L1 W1 MP PL ML DL TH NM SZ PT TK)) ⟨hx, hb, hml, hown, hts⟩ (c_m_isBucket1_n l D cI cZ cJ  y hy) (va_cwS 2 hts gX5_counter_X5_isBucket rfl rfl rfl (by decide +kernel) ⟨Nat.le_of_ble_eq_true rfl, Nat.le_of_ble_eq_true rfl⟩) hP hD hK hS hA [] [0, 1, 2, 3, 4, 5, 6, 7, 8, 9, 10, 11, 12, 13, 14] [0, 1, 2, 3, 4, 5, 6, 7, 8, 9, 10, 11, 12, 13, 14] rfl rfl (by decide) (fun u => rfl) rfl hl.1 rfl (Nat.le_of_ble_eq_true rfl) dX5_counter_7 ⟨Nat.le_of_ble_eq_true rfl, Nat.le_of_ble_eq_true rfl⟩ (fun r u H locs hu1 hP hD hS => ?_)
  refine k_t1 (show r = 0 from hu1) ?_
  refine lv_if_eq (tgt := 26) hx hb dX5_counter_10 (by decide) (fun c1 => ?_) (fun c1 => ?_)
  · skip
    refine lv_iconst (v := -1) hx hb dX5_counter_26 (by decide) ?_
    exact k_reti () hx hb hr hK hS hlk dX5_counter_27 hP hD (by exact rfl) hQ
  · skip
    exact absurd rfl c1

set_option maxHeartbeats 800000 in
set_option maxRecDepth 100000 in
theorem c_m_stash1 (l : Launch) (D : va_G) (cI cZ cJ : ClassId) (mo : Nat) (se : Nat) (co : Nat) (ou : Nat) (le : Nat) (wo : Nat) (ma : Nat) (pl : Nat) (tl : Nat) (tm : Nat) (th : Nat) (na : Nat) (si : Nat) (pa : Nat) (ta : Nat) (thr : Int32) (G : Int32) (ky : Int32) (DE : Int32) (cn : Nat) (got : Int32) (S0 : Nat → Nat → Int32) (C0 : Nat → Int32) (O0 : Nat → Int32) (L0 : Nat → Int32) (W0 : Nat → Nat → Int32) (S1 : Nat → Nat → Int32) (C1 : Nat → Int32) (O1 : Nat → Int32) (L1 : Nat → Int32) (W1 : Nat → Nat → Int32) (MP : Nat → Nat) (PL : Nat → Int32) (ML : Nat → Int32) (DL : Nat → Int32) (TH : Nat → Int32) (NM : Nat → Int64) (SZ : Nat → Nat) (PT : Nat → Nat) (TK : Nat → Int32)   : KI l yX5_stash wsX5_stash ({ frames := 1, cells := 0, slots := 0, locals := 20 }) D (kty cI cZ cJ) [.ref mo, .int (nI 1)] (wM cI cZ cJ mo se co ou le wo ma pl tl tm th na si pa ta thr G ky DE cn got S0 C0 O0 L0 W0 S1 C1 O1 L1 W1 MP PL ML DL TH NM SZ PT TK) (fun r (_ : Unit) => r = nI (cntN O1 64)) (fun _ : Unit => (wM cI cZ cJ mo se co ou le wo ma pl tl tm th na si pa ta 0 G ky DE cn got S0 C0 O0 L0 W0 S1 C1 O1 L1 W1 MP PL ML DL TH NM SZ PT TK)) 0 0 := by
  refine k_headI (cc := cX5_stash) (maxL := 4) (ret := (some .int)) (by decide) rfl (Nat.le_of_ble_eq_true rfl) ?_
  intro p e s m below meth c A ls args Q hx hb hr hml hts hown hlk hnm hA hK hP hD hS hl hQ
  have hl : lv_has ls 4 [(0, .ref mo), (1, .int (nI 1))] := hl
  refine lv_aload_n hx hb dX5_stash_0 rfl (lv_at hl 0 rfl) ?_
  refine lv_iconst (v := nI 0) hx hb dX5_stash_1 (by decide) ?_
  refine va_put (D := D) (ci := 5) (v := .int (nI 0)) (ty := .int) (C := RX5) (T := TX5) (N := 20) hx hb hts (by decide +kernel) tyX5 tyX5_ok nmX5 hown hK hP hD hS 0 rfl rfl 0 (by decide) (hts (.fieldLink RX5 58 "VeiledFilesModel" "thrown" "I") (by decide +kernel)) (fun _ h9 => h9) rfl (by decide +kernel) rfl rfl (Nat.le_of_ble_eq_true rfl) dX5_stash_2 (fun H locs hP hD hS => ?_)
  have hP : va_P D vwCl (wM cI cZ cJ mo se co ou le wo ma pl tl tm th na si pa ta 0 G ky DE cn got S0 C0 O0 L0 W0 S1 C1 O1 L1 W1 MP PL ML DL TH NM SZ PT TK) _ := hP
  have hD : va_D A (wM cI cZ cJ mo se co ou le wo ma pl tl tm th na si pa ta 0 G ky DE cn got S0 C0 O0 L0 W0 S1 C1 O1 L1 W1 MP PL ML DL TH NM SZ PT TK) := hD
  refine lv_iload_n hx hb dX5_stash_5 rfl (lv_at hl 1 rfl) ?_
  refine lv_if_eq (tgt := 16) hx hb dX5_stash_6 (by decide) (fun c1 => ?_) (fun c1 => ?_)
  · skip
    exact absurd c1 (by decide)
  · skip
    refine lv_iload_n hx hb dX5_stash_9 rfl (lv_at hl 1 rfl) ?_
    refine lv_iconst (v := nI 1) hx hb dX5_stash_10 (by decide) ?_
    refine k_icmp_eq (tgt := 16) hx hb (by omega) (by omega) dX5_stash_11 (by decide) (fun cu => ?_) (fun cu => ?_)
    · skip
      refine lv_iconst (v := nI 0) hx hb dX5_stash_16 (by decide) ?_
      refine lv_istore_n (lv' := [(2, .int (nI 0)), (0, .ref mo), (1, .int (nI 1))]) hx hb dX5_stash_17 rfl hl (by decide) rfl (fun ls hl => ?_)
      refine lv_iconst (v := nI 0) hx hb dX5_stash_18 (by decide) ?_
      refine lv_istore_n (lv' := [(3, .int (nI 0)), (2, .int (nI 0)), (0, .ref mo), (1, .int (nI 1))]) hx hb dX5_stash_19 rfl hl (by decide) rfl (fun ls hl => ?_)
      have L1l : ∀ (nf k : Nat) (hvL1l : k ≤ 64) (hFL1l : 64 - k < nf) (H : Heap) (locs : List Loc) (ls : Array Slot), va_P D vwCl (wM cI cZ cJ mo se co ou le wo ma pl tl tm th na si pa ta 0 G ky DE cn got S0 C0 O0 L0 W0 S1 C1 O1 L1 W1 MP PL ML DL TH NM SZ PT TK) H → va_D A (wM cI cZ cJ mo se co ou le wo ma pl tl tm th na si pa ta 0 G ky DE cn got S0 C0 O0 L0 W0 S1 C1 O1 L1 W1 MP PL ML DL TH NM SZ PT TK) → va_S A s.heap H locs → lv_has ls 4 [(0, .ref mo), (1, .int (nI 1)), (2, .int (nI (cntN O1 k))), (3, .int (nI k))] → W p l e ({ frames := 1, cells := 0, slots := 0, locals := 20 } : Room) s m args below meth c H locs 0 0 Q (F0 m 20 ls []) := by
        intro nf
        induction nf with
        | zero => intro k  hvL1l hFL1l; omega
        | succ nf ihL1l =>
          intro k  hvL1l hFL1l  H locs ls hP hD hS hl
          refine lv_iload_n hx hb dX5_stash_20 rfl (lv_at hl 3 rfl) ?_
          refine lv_iload_n hx hb dX5_stash_21 rfl (lv_at hl 1 rfl) ?_
          refine k_si (As := [.int (nI 1)]) (rest := [.int (nI k)]) (w2 := fun u : Unit => (wM cI cZ cJ mo se co ou le wo ma pl tl tm th na si pa ta 0 G ky DE cn got S0 C0 O0 L0 W0 S1 C1 O1 L1 W1 MP PL ML DL TH NM SZ PT TK)) ⟨hx, hb, hml, hown, hts⟩ (c_m_blocks1 l D cI cZ cJ  ) (va_cwS 1 hts gX5_stash_X5_blocks rfl rfl rfl (by decide +kernel) ⟨Nat.le_of_ble_eq_true rfl, Nat.le_of_ble_eq_true rfl⟩) hP hD hK hS hA [] [0, 1, 2, 3, 4, 5, 6, 7, 8, 9, 10, 11, 12, 13, 14] [0, 1, 2, 3, 4, 5, 6, 7, 8, 9, 10, 11, 12, 13, 14] rfl rfl (by decide) (fun u => rfl) rfl hl.1 rfl (Nat.le_of_ble_eq_true rfl) dX5_stash_22 ⟨Nat.le_of_ble_eq_true rfl, Nat.le_of_ble_eq_true rfl⟩ (fun r u H locs hu1 hP hD hS => ?_)
          refine k_t1 (show r = nI 64 from hu1) ?_
          refine k_icmp_ge (tgt := 56) hx hb (by omega) (by omega) dX5_stash_25 (by decide) (fun c2 => ?_) (fun c2 => ?_)
          · skip
            obtain rfl : k = 64 := by omega
            refine lv_iload_n hx hb dX5_stash_56 rfl (lv_at hl 2 rfl) ?_
            exact k_reti () hx hb hr hK hS hlk dX5_stash_57 hP hD (by exact rfl) hQ
          · skip
            have hcl := cntN_le O1 k
            refine lv_iload_n hx hb dX5_stash_28 rfl (lv_at hl 2 rfl) ?_
            refine lv_aload_n hx hb dX5_stash_29 rfl (lv_at hl 0 rfl) ?_
            refine va_get (D := D) (ci := 5) (v := .ref ou) (C := RX5) (T := TX5) (N := 20) hx hb hts (by decide +kernel) hown hK hP 0 rfl rfl 7 (by decide) (hts (.fieldLink RX5 16 "VeiledFilesModel" "out" "[Z") (by decide +kernel)) (fun _ h9 => h9) rfl dX5_stash_30 ?_
            refine lv_iload_n hx hb dX5_stash_33 rfl (lv_at hl 1 rfl) ?_
            refine k_si (As := [.int (nI 1)]) (rest := [.ref ou, .int (nI (cntN O1 k))]) (w2 := fun u : Unit => (wM cI cZ cJ mo se co ou le wo ma pl tl tm th na si pa ta 0 G ky DE cn got S0 C0 O0 L0 W0 S1 C1 O1 L1 W1 MP PL ML DL TH NM SZ PT TK)) ⟨hx, hb, hml, hown, hts⟩ (c_m_first1 l D cI cZ cJ  ) (va_cwS 1 hts gX5_stash_X5_first rfl rfl rfl (by decide +kernel) ⟨Nat.le_of_ble_eq_true rfl, Nat.le_of_ble_eq_true rfl⟩) hP hD hK hS hA [] [0, 1, 2, 3, 4, 5, 6, 7, 8, 9, 10, 11, 12, 13, 14] [0, 1, 2, 3, 4, 5, 6, 7, 8, 9, 10, 11, 12, 13, 14] rfl rfl (by decide) (fun u => rfl) rfl hl.1 rfl (Nat.le_of_ble_eq_true rfl) dX5_stash_34 ⟨Nat.le_of_ble_eq_true rfl, Nat.le_of_ble_eq_true rfl⟩ (fun r u H locs hu2 hP hD hS => ?_)
            refine k_t1 (show r = nI 8 from hu2) ?_
            refine lv_iload_n hx hb dX5_stash_37 rfl (lv_at hl 3 rfl) ?_
            refine lv_iadd hx hb dX5_stash_38 ?_
            refine k_t1 (show (nI 8) + (nI k) = nI (8 + k) from nI_add _ _) ?_
            refine k_zald hx hb hK hP 3 1 rfl rfl (8 + k) (by omega) (by omega) (v := O1 k) (jn_1) dX5_stash_39 ?_
            refine lv_if_eq (tgt := 47) hx hb dX5_stash_40 (by decide) (fun c3 => ?_) (fun c3 => ?_)
            · skip
              refine lv_iconst (v := nI 0) hx hb dX5_stash_47 (by decide) ?_
              refine lv_iadd hx hb dX5_stash_48 ?_
              refine k_t1 (show (nI (cntN O1 k)) + (nI 0) = nI (cntN O1 k + 0) from nI_add _ _) ?_
              refine lv_istore_n (lv' := [(2, .int (nI (cntN O1 k + 0))), (0, .ref mo), (1, .int (nI 1)), (3, .int (nI k))]) hx hb dX5_stash_49 rfl hl (by decide) rfl (fun ls hl => ?_)
              refine lv_iinc (v := nI (k + 1)) (lv' := [(3, .int (nI (k + 1))), (2, .int (nI (cntN O1 k + 0))), (0, .ref mo), (1, .int (nI 1))]) hx hb dX5_stash_50 hl (k := 3) rfl (nI_add k 1) (by decide) rfl (fun ls hl => ?_)
              refine lv_goto (tgt := 20) hx hb dX5_stash_53 (by decide) ?_
              rw [show cntN O1 k + 0 = cntN O1 (k + 1) by simp [cntN, c3]] at hl
              exact ihL1l (k + 1)  (by omega) (by omega)  _ _ _ hP hD hS (lv_sub hl [2, 3, 1, 0] rfl)
            · skip
              refine lv_iconst (v := nI 1) hx hb dX5_stash_43 (by decide) ?_
              refine lv_goto (tgt := 48) hx hb dX5_stash_44 (by decide) ?_
              refine lv_iadd hx hb dX5_stash_48 ?_
              refine k_t1 (show (nI (cntN O1 k)) + (nI 1) = nI (cntN O1 k + 1) from nI_add _ _) ?_
              refine lv_istore_n (lv' := [(2, .int (nI (cntN O1 k + 1))), (0, .ref mo), (1, .int (nI 1)), (3, .int (nI k))]) hx hb dX5_stash_49 rfl hl (by decide) rfl (fun ls hl => ?_)
              refine lv_iinc (v := nI (k + 1)) (lv' := [(3, .int (nI (k + 1))), (2, .int (nI (cntN O1 k + 1))), (0, .ref mo), (1, .int (nI 1))]) hx hb dX5_stash_50 hl (k := 3) rfl (nI_add k 1) (by decide) rfl (fun ls hl => ?_)
              refine lv_goto (tgt := 20) hx hb dX5_stash_53 (by decide) ?_
              rw [show cntN O1 k + 1 = cntN O1 (k + 1) by simp [cntN, c3]] at hl
              exact ihL1l (k + 1)  (by omega) (by omega)  _ _ _ hP hD hS (lv_sub hl [2, 3, 1, 0] rfl)
      exact L1l (64 + 1) 0  (by omega) (by omega)  _ _ _ hP hD hS (lv_sub hl [2, 3, 1, 0] rfl)
    · skip
      exact absurd rfl cu

set_option maxHeartbeats 800000 in
set_option maxRecDepth 100000 in
theorem c_m_isBucketN (l : Launch) (D : va_G) (cI cZ cJ : ClassId)  (x y : Int32) (hx0 : ¬ x = 0 ∧ ¬ x = 1) : KI l yX5_isBucket wsX5_isBucket ({ frames := 0, cells := 0, slots := 0, locals := 0 }) D (kty cI cZ cJ) [.int x, .int y] (wN cI cZ cJ ) (fun r (_ : Unit) => r = 0) (fun _ : Unit => (wN cI cZ cJ )) 0 0 := by
  refine k_headI (cc := cX5_isBucket) (maxL := 2) (ret := (some .boolean)) (by decide) rfl (Nat.le_of_ble_eq_true rfl) ?_
  intro p e s m below meth c A ls args Q hx hb hr hml hts hown hlk hnm hA hK hP hD hS hl hQ
  have hl : lv_has ls 2 [(0, .int x), (1, .int y)] := hl
  refine lv_iload_n hx hb dX5_isBucket_0 rfl (lv_at hl 0 rfl) ?_
  refine lv_if_eq (tgt := 9) hx hb dX5_isBucket_1 (by decide) (fun c1 => ?_) (fun c1 => ?_)
  · skip
    exact absurd c1 hx0.1
  · skip
    refine lv_iload_n hx hb dX5_isBucket_4 rfl (lv_at hl 0 rfl) ?_
    refine lv_iconst (v := nI 1) hx hb dX5_isBucket_5 (by decide) ?_
    refine lv_icmp_ne (tgt := 25) hx hb dX5_isBucket_6 (by decide) (fun c2 => ?_) (fun c2 => ?_)
    · skip
      refine lv_iconst (v := nI 0) hx hb dX5_isBucket_25 (by decide) ?_
      exact k_retz () hx hb hr hK hS hlk dX5_isBucket_26 ((by first | exact Or.inl rfl | exact Or.inr rfl)) hP hD (by exact rfl) hQ
    · skip
      exact absurd c2 hx0.2

set_option maxHeartbeats 800000 in
set_option maxRecDepth 100000 in
theorem c_m_sealedN (l : Launch) (D : va_G) (cI cZ cJ : ClassId) (mo : Nat) (se : Nat) (co : Nat) (ou : Nat) (le : Nat) (wo : Nat) (ma : Nat) (pl : Nat) (tl : Nat) (tm : Nat) (th : Nat) (na : Nat) (si : Nat) (pa : Nat) (ta : Nat) (thr : Int32) (G : Int32) (ky : Int32) (DE : Int32) (cn : Nat) (got : Int32) (S0 : Nat → Nat → Int32) (C0 : Nat → Int32) (O0 : Nat → Int32) (L0 : Nat → Int32) (W0 : Nat → Nat → Int32) (S1 : Nat → Nat → Int32) (C1 : Nat → Int32) (O1 : Nat → Int32) (L1 : Nat → Int32) (W1 : Nat → Nat → Int32) (MP : Nat → Nat) (PL : Nat → Int32) (ML : Nat → Int32) (DL : Nat → Int32) (TH : Nat → Int32) (NM : Nat → Int64) (SZ : Nat → Nat) (PT : Nat → Nat) (TK : Nat → Int32) (x y i : Int32) (hx0 : ¬ x = 0 ∧ ¬ x = 1) : KI l yX5_sealed wsX5_sealed ({ frames := 1, cells := 0, slots := 0, locals := 21 }) D (kty cI cZ cJ) [.ref mo, .int x, .int y, .int i] (wM cI cZ cJ mo se co ou le wo ma pl tl tm th na si pa ta thr G ky DE cn got S0 C0 O0 L0 W0 S1 C1 O1 L1 W1 MP PL ML DL TH NM SZ PT TK) (fun r (_ : Unit) => r = 0) (fun _ : Unit => (wM cI cZ cJ mo se co ou le wo ma pl tl tm th na si pa ta 1 G ky DE cn got S0 C0 O0 L0 W0 S1 C1 O1 L1 W1 MP PL ML DL TH NM SZ PT TK)) 0 0 := by
  refine k_headI (cc := cX5_sealed) (maxL := 4) (ret := (some .int)) (by decide) rfl (Nat.le_of_ble_eq_true rfl) ?_
  intro p e s m below meth c A ls args Q hx hb hr hml hts hown hlk hnm hA hK hP hD hS hl hQ
  have hl : lv_has ls 4 [(0, .ref mo), (1, .int x), (2, .int y), (3, .int i)] := hl
  refine lv_iload_n hx hb dX5_sealed_0 rfl (lv_at hl 1 rfl) ?_
  refine lv_iload_n hx hb dX5_sealed_1 rfl (lv_at hl 2 rfl) ?_
  refine k_si (As := [.int x, .int y]) (rest := []) (w2 := fun u : Unit => (wM cI cZ cJ mo se co ou le wo ma pl tl tm th na si pa ta thr G ky DE cn got S0 C0 O0 L0 W0 S1 C1 O1 L1 W1 MP PL ML DL TH NM SZ PT TK)) ⟨hx, hb, hml, hown, hts⟩ (c_m_isBucketN l D cI cZ cJ  x y hx0) (va_cwS 2 hts gX5_sealed_X5_isBucket rfl rfl rfl (by decide +kernel) ⟨Nat.le_of_ble_eq_true rfl, Nat.le_of_ble_eq_true rfl⟩) hP hD hK hS hA [] [0, 1, 2, 3, 4, 5, 6, 7, 8, 9, 10, 11, 12, 13, 14] [0, 1, 2, 3, 4, 5, 6, 7, 8, 9, 10, 11, 12, 13, 14] rfl rfl (by decide) (fun u => rfl) rfl hl.1 rfl (Nat.le_of_ble_eq_true rfl) dX5_sealed_2 ⟨Nat.le_of_ble_eq_true rfl, Nat.le_of_ble_eq_true rfl⟩ (fun r u H locs hu1 hP hD hS => ?_)
  refine k_t1 (show r = 0 from hu1) ?_
  refine lv_if_eq (tgt := 18) hx hb dX5_sealed_5 (by decide) (fun c1 => ?_) (fun c1 => ?_)
  · skip
    refine lv_aload_n hx hb dX5_sealed_18 rfl (lv_at hl 0 rfl) ?_
    refine lv_iconst (v := nI 1) hx hb dX5_sealed_19 (by decide) ?_
    refine k_vi (As := [.int (nI 1)]) (rest := []) (w2 := fun u : Unit => (wM cI cZ cJ mo se co ou le wo ma pl tl tm th na si pa ta 1 G ky DE cn got S0 C0 O0 L0 W0 S1 C1 O1 L1 W1 MP PL ML DL TH NM SZ PT TK)) ⟨hx, hb, hml, hown, hts⟩ (c_m_raise l D cI cZ cJ mo se co ou le wo ma pl tl tm th na si pa ta thr G ky DE cn got S0 C0 O0 L0 W0 S1 C1 O1 L1 W1 MP PL ML DL TH NM SZ PT TK (nI 1)) (cwV 1 hts gX5_sealed_X5_raise rfl rfl rfl (by decide +kernel) ⟨Nat.le_of_ble_eq_true rfl, Nat.le_of_ble_eq_true rfl⟩) hP hD hK hS hA [0, 1, 2, 3, 4, 5, 6, 7, 8, 9, 10, 11, 12, 13, 14] [] [0, 1, 2, 3, 4, 5, 6, 7, 8, 9, 10, 11, 12, 13, 14] rfl rfl (by decide) (fun u => rfl) rfl rfl (q0 := 0) rfl rfl hl.1 rfl (Nat.le_of_ble_eq_true rfl) dX5_sealed_20 ⟨Nat.le_of_ble_eq_true rfl, Nat.le_of_ble_eq_true rfl⟩ (fun r u H locs hu2 hP hD hS => ?_)
    refine k_t1 (show r = 0 from hu2) ?_
    exact k_reti () hx hb hr hK hS hlk dX5_sealed_23 hP hD (by exact rfl) hQ
  · skip
    exact absurd rfl c1

set_option maxHeartbeats 800000 in
set_option maxRecDepth 100000 in
theorem c_m_alterN (l : Launch) (D : va_G) (cI cZ cJ : ClassId) (mo : Nat) (se : Nat) (co : Nat) (ou : Nat) (le : Nat) (wo : Nat) (ma : Nat) (pl : Nat) (tl : Nat) (tm : Nat) (th : Nat) (na : Nat) (si : Nat) (pa : Nat) (ta : Nat) (thr : Int32) (G : Int32) (ky : Int32) (DE : Int32) (cn : Nat) (got : Int32) (S0 : Nat → Nat → Int32) (C0 : Nat → Int32) (O0 : Nat → Int32) (L0 : Nat → Int32) (W0 : Nat → Nat → Int32) (S1 : Nat → Nat → Int32) (C1 : Nat → Int32) (O1 : Nat → Int32) (L1 : Nat → Int32) (W1 : Nat → Nat → Int32) (MP : Nat → Nat) (PL : Nat → Int32) (ML : Nat → Int32) (DL : Nat → Int32) (TH : Nat → Int32) (NM : Nat → Int64) (SZ : Nat → Nat) (PT : Nat → Nat) (TK : Nat → Int32) (x y i v : Int32) (hx0 : ¬ x = 0 ∧ ¬ x = 1) : KI l yX5_alter wsX5_alter ({ frames := 1, cells := 0, slots := 0, locals := 21 }) D (kty cI cZ cJ) [.ref mo, .int x, .int y, .int i, .int v] (wM cI cZ cJ mo se co ou le wo ma pl tl tm th na si pa ta thr G ky DE cn got S0 C0 O0 L0 W0 S1 C1 O1 L1 W1 MP PL ML DL TH NM SZ PT TK) (fun r (_ : Unit) => r = 0) (fun _ : Unit => (wM cI cZ cJ mo se co ou le wo ma pl tl tm th na si pa ta 0 G ky DE cn got S0 C0 O0 L0 W0 S1 C1 O1 L1 W1 MP PL ML DL TH NM SZ PT TK)) 0 0 := by
  refine k_headI (cc := cX5_alter) (maxL := 8) (ret := (some .boolean)) (by decide) rfl (Nat.le_of_ble_eq_true rfl) ?_
  intro p e s m below meth c A ls args Q hx hb hr hml hts hown hlk hnm hA hK hP hD hS hl hQ
  have hl : lv_has ls 8 [(0, .ref mo), (1, .int x), (2, .int y), (3, .int i), (4, .int v)] := hl
  refine lv_aload_n hx hb dX5_alter_0 rfl (lv_at hl 0 rfl) ?_
  refine lv_iconst (v := nI 0) hx hb dX5_alter_1 (by decide) ?_
  refine va_put (D := D) (ci := 5) (v := .int (nI 0)) (ty := .int) (C := RX5) (T := TX5) (N := 20) hx hb hts (by decide +kernel) tyX5 tyX5_ok nmX5 hown hK hP hD hS 0 rfl rfl 0 (by decide) (hts (.fieldLink RX5 58 "VeiledFilesModel" "thrown" "I") (by decide +kernel)) (fun _ h9 => h9) rfl (by decide +kernel) rfl rfl (Nat.le_of_ble_eq_true rfl) dX5_alter_2 (fun H locs hP hD hS => ?_)
  have hP : va_P D vwCl (wM cI cZ cJ mo se co ou le wo ma pl tl tm th na si pa ta 0 G ky DE cn got S0 C0 O0 L0 W0 S1 C1 O1 L1 W1 MP PL ML DL TH NM SZ PT TK) _ := hP
  have hD : va_D A (wM cI cZ cJ mo se co ou le wo ma pl tl tm th na si pa ta 0 G ky DE cn got S0 C0 O0 L0 W0 S1 C1 O1 L1 W1 MP PL ML DL TH NM SZ PT TK) := hD
  refine lv_iload_n hx hb dX5_alter_5 rfl (lv_at hl 1 rfl) ?_
  refine lv_iload_n hx hb dX5_alter_6 rfl (lv_at hl 2 rfl) ?_
  refine k_si (As := [.int x, .int y]) (rest := []) (w2 := fun u : Unit => (wM cI cZ cJ mo se co ou le wo ma pl tl tm th na si pa ta 0 G ky DE cn got S0 C0 O0 L0 W0 S1 C1 O1 L1 W1 MP PL ML DL TH NM SZ PT TK)) ⟨hx, hb, hml, hown, hts⟩ (c_m_isBucketN l D cI cZ cJ  x y hx0) (va_cwS 2 hts gX5_alter_X5_isBucket rfl rfl rfl (by decide +kernel) ⟨Nat.le_of_ble_eq_true rfl, Nat.le_of_ble_eq_true rfl⟩) hP hD hK hS hA [] [0, 1, 2, 3, 4, 5, 6, 7, 8, 9, 10, 11, 12, 13, 14] [0, 1, 2, 3, 4, 5, 6, 7, 8, 9, 10, 11, 12, 13, 14] rfl rfl (by decide) (fun u => rfl) rfl hl.1 rfl (Nat.le_of_ble_eq_true rfl) dX5_alter_7 ⟨Nat.le_of_ble_eq_true rfl, Nat.le_of_ble_eq_true rfl⟩ (fun r u H locs hu1 hP hD hS => ?_)
  refine k_t1 (show r = 0 from hu1) ?_
  refine lv_if_eq (tgt := 23) hx hb dX5_alter_10 (by decide) (fun c1 => ?_) (fun c1 => ?_)
  · skip
    refine lv_iconst (v := nI 0) hx hb dX5_alter_23 (by decide) ?_
    exact k_retz () hx hb hr hK hS hlk dX5_alter_24 ((by first | exact Or.inl rfl | exact Or.inr rfl)) hP hD (by exact rfl) hQ
  · skip
    exact absurd rfl c1

set_option maxHeartbeats 800000 in
set_option maxRecDepth 100000 in
theorem c_m_counterN (l : Launch) (D : va_G) (cI cZ cJ : ClassId) (mo : Nat) (se : Nat) (co : Nat) (ou : Nat) (le : Nat) (wo : Nat) (ma : Nat) (pl : Nat) (tl : Nat) (tm : Nat) (th : Nat) (na : Nat) (si : Nat) (pa : Nat) (ta : Nat) (thr : Int32) (G : Int32) (ky : Int32) (DE : Int32) (cn : Nat) (got : Int32) (S0 : Nat → Nat → Int32) (C0 : Nat → Int32) (O0 : Nat → Int32) (L0 : Nat → Int32) (W0 : Nat → Nat → Int32) (S1 : Nat → Nat → Int32) (C1 : Nat → Int32) (O1 : Nat → Int32) (L1 : Nat → Int32) (W1 : Nat → Nat → Int32) (MP : Nat → Nat) (PL : Nat → Int32) (ML : Nat → Int32) (DL : Nat → Int32) (TH : Nat → Int32) (NM : Nat → Int64) (SZ : Nat → Nat) (PT : Nat → Nat) (TK : Nat → Int32) (x y : Int32) (hx0 : ¬ x = 0 ∧ ¬ x = 1) : KI l yX5_counter wsX5_counter ({ frames := 1, cells := 0, slots := 0, locals := 21 }) D (kty cI cZ cJ) [.ref mo, .int x, .int y] (wM cI cZ cJ mo se co ou le wo ma pl tl tm th na si pa ta thr G ky DE cn got S0 C0 O0 L0 W0 S1 C1 O1 L1 W1 MP PL ML DL TH NM SZ PT TK) (fun r (_ : Unit) => r = -1) (fun _ : Unit => (wM cI cZ cJ mo se co ou le wo ma pl tl tm th na si pa ta 0 G ky DE cn got S0 C0 O0 L0 W0 S1 C1 O1 L1 W1 MP PL ML DL TH NM SZ PT TK)) 0 0 := by
  refine k_headI (cc := cX5_counter) (maxL := 3) (ret := (some .int)) (by decide) rfl (Nat.le_of_ble_eq_true rfl) ?_
  intro p e s m below meth c A ls args Q hx hb hr hml hts hown hlk hnm hA hK hP hD hS hl hQ
  have hl : lv_has ls 3 [(0, .ref mo), (1, .int x), (2, .int y)] := hl
  refine lv_aload_n hx hb dX5_counter_0 rfl (lv_at hl 0 rfl) ?_
  refine lv_iconst (v := nI 0) hx hb dX5_counter_1 (by decide) ?_
  refine va_put (D := D) (ci := 5) (v := .int (nI 0)) (ty := .int) (C := RX5) (T := TX5) (N := 20) hx hb hts (by decide +kernel) tyX5 tyX5_ok nmX5 hown hK hP hD hS 0 rfl rfl 0 (by decide) (hts (.fieldLink RX5 58 "VeiledFilesModel" "thrown" "I") (by decide +kernel)) (fun _ h9 => h9) rfl (by decide +kernel) rfl rfl (Nat.le_of_ble_eq_true rfl) dX5_counter_2 (fun H locs hP hD hS => ?_)
  have hP : va_P D vwCl (wM cI cZ cJ mo se co ou le wo ma pl tl tm th na si pa ta 0 G ky DE cn got S0 C0 O0 L0 W0 S1 C1 O1 L1 W1 MP PL ML DL TH NM SZ PT TK) _ := hP
  have hD : va_D A (wM cI cZ cJ mo se co ou le wo ma pl tl tm th na si pa ta 0 G ky DE cn got S0 C0 O0 L0 W0 S1 C1 O1 L1 W1 MP PL ML DL TH NM SZ PT TK) := hD
  refine lv_iload_n hx hb dX5_counter_5 rfl (lv_at hl 1 rfl) ?_
  refine lv_iload_n hx hb dX5_counter_6 rfl (lv_at hl 2 rfl) ?_
  refine k_si (As := [.int x, .int y]) (rest := []) (w2 := fun u : Unit => (wM cI cZ cJ mo se co ou le wo ma pl tl tm th na si pa ta 0 G ky DE cn got S0 C0 O0 L0 W0 S1 C1 O1 L1 W1 MP PL ML DL TH NM SZ PT TK)) ⟨hx, hb, hml, hown, hts⟩ (c_m_isBucketN l D cI cZ cJ  x y hx0) (va_cwS 2 hts gX5_counter_X5_isBucket rfl rfl rfl (by decide +kernel) ⟨Nat.le_of_ble_eq_true rfl, Nat.le_of_ble_eq_true rfl⟩) hP hD hK hS hA [] [0, 1, 2, 3, 4, 5, 6, 7, 8, 9, 10, 11, 12, 13, 14] [0, 1, 2, 3, 4, 5, 6, 7, 8, 9, 10, 11, 12, 13, 14] rfl rfl (by decide) (fun u => rfl) rfl hl.1 rfl (Nat.le_of_ble_eq_true rfl) dX5_counter_7 ⟨Nat.le_of_ble_eq_true rfl, Nat.le_of_ble_eq_true rfl⟩ (fun r u H locs hu1 hP hD hS => ?_)
  refine k_t1 (show r = 0 from hu1) ?_
  refine lv_if_eq (tgt := 26) hx hb dX5_counter_10 (by decide) (fun c1 => ?_) (fun c1 => ?_)
  · skip
    refine lv_iconst (v := -1) hx hb dX5_counter_26 (by decide) ?_
    exact k_reti () hx hb hr hK hS hlk dX5_counter_27 hP hD (by exact rfl) hQ
  · skip
    exact absurd rfl c1

set_option maxHeartbeats 800000 in
set_option maxRecDepth 100000 in
theorem c_m_stashN (l : Launch) (D : va_G) (cI cZ cJ : ClassId) (mo : Nat) (se : Nat) (co : Nat) (ou : Nat) (le : Nat) (wo : Nat) (ma : Nat) (pl : Nat) (tl : Nat) (tm : Nat) (th : Nat) (na : Nat) (si : Nat) (pa : Nat) (ta : Nat) (thr : Int32) (G : Int32) (ky : Int32) (DE : Int32) (cn : Nat) (got : Int32) (S0 : Nat → Nat → Int32) (C0 : Nat → Int32) (O0 : Nat → Int32) (L0 : Nat → Int32) (W0 : Nat → Nat → Int32) (S1 : Nat → Nat → Int32) (C1 : Nat → Int32) (O1 : Nat → Int32) (L1 : Nat → Int32) (W1 : Nat → Nat → Int32) (MP : Nat → Nat) (PL : Nat → Int32) (ML : Nat → Int32) (DL : Nat → Int32) (TH : Nat → Int32) (NM : Nat → Int64) (SZ : Nat → Nat) (PT : Nat → Nat) (TK : Nat → Int32) (x : Int32) (hx0 : ¬ x = 0 ∧ ¬ x = 1) : KI l yX5_stash wsX5_stash ({ frames := 0, cells := 0, slots := 0, locals := 0 }) D (kty cI cZ cJ) [.ref mo, .int x] (wM cI cZ cJ mo se co ou le wo ma pl tl tm th na si pa ta thr G ky DE cn got S0 C0 O0 L0 W0 S1 C1 O1 L1 W1 MP PL ML DL TH NM SZ PT TK) (fun r (_ : Unit) => r = -1) (fun _ : Unit => (wM cI cZ cJ mo se co ou le wo ma pl tl tm th na si pa ta 0 G ky DE cn got S0 C0 O0 L0 W0 S1 C1 O1 L1 W1 MP PL ML DL TH NM SZ PT TK)) 0 0 := by
  refine k_headI (cc := cX5_stash) (maxL := 4) (ret := (some .int)) (by decide) rfl (Nat.le_of_ble_eq_true rfl) ?_
  intro p e s m below meth c A ls args Q hx hb hr hml hts hown hlk hnm hA hK hP hD hS hl hQ
  have hl : lv_has ls 4 [(0, .ref mo), (1, .int x)] := hl
  refine lv_aload_n hx hb dX5_stash_0 rfl (lv_at hl 0 rfl) ?_
  refine lv_iconst (v := nI 0) hx hb dX5_stash_1 (by decide) ?_
  refine va_put (D := D) (ci := 5) (v := .int (nI 0)) (ty := .int) (C := RX5) (T := TX5) (N := 20) hx hb hts (by decide +kernel) tyX5 tyX5_ok nmX5 hown hK hP hD hS 0 rfl rfl 0 (by decide) (hts (.fieldLink RX5 58 "VeiledFilesModel" "thrown" "I") (by decide +kernel)) (fun _ h9 => h9) rfl (by decide +kernel) rfl rfl (Nat.le_of_ble_eq_true rfl) dX5_stash_2 (fun H locs hP hD hS => ?_)
  have hP : va_P D vwCl (wM cI cZ cJ mo se co ou le wo ma pl tl tm th na si pa ta 0 G ky DE cn got S0 C0 O0 L0 W0 S1 C1 O1 L1 W1 MP PL ML DL TH NM SZ PT TK) _ := hP
  have hD : va_D A (wM cI cZ cJ mo se co ou le wo ma pl tl tm th na si pa ta 0 G ky DE cn got S0 C0 O0 L0 W0 S1 C1 O1 L1 W1 MP PL ML DL TH NM SZ PT TK) := hD
  refine lv_iload_n hx hb dX5_stash_5 rfl (lv_at hl 1 rfl) ?_
  refine lv_if_eq (tgt := 16) hx hb dX5_stash_6 (by decide) (fun c1 => ?_) (fun c1 => ?_)
  · skip
    exact absurd c1 hx0.1
  · skip
    refine lv_iload_n hx hb dX5_stash_9 rfl (lv_at hl 1 rfl) ?_
    refine lv_iconst (v := nI 1) hx hb dX5_stash_10 (by decide) ?_
    refine lv_icmp_eq (tgt := 16) hx hb dX5_stash_11 (by decide) (fun c2 => ?_) (fun c2 => ?_)
    · skip
      exact absurd c2 hx0.2
    · skip
      refine lv_iconst (v := -1) hx hb dX5_stash_14 (by decide) ?_
      exact k_reti () hx hb hr hK hS hlk dX5_stash_15 hP hD (by exact rfl) hQ

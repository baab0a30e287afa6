abbrev wM (cI cZ cJ : ClassId) (mo : Nat) (se : Nat) (co : Nat) (ou : Nat) (le : Nat) (wo : Nat) (ma : Nat) (pl : Nat) (tl : Nat) (tm : Nat) (th : Nat) (na : Nat) (si : Nat) (pa : Nat) (ta : Nat) (thr : Int32) (G : Int32) (ky : Int32) (DE : Int32) (cn : Nat) (got : Int32) (S0 : Nat → Nat → Int32) (C0 : Nat → Int32) (O0 : Nat → Int32) (L0 : Nat → Int32) (W0 : Nat → Nat → Int32) (S1 : Nat → Nat → Int32) (C1 : Nat → Int32) (O1 : Nat → Int32) (L1 : Nat → Int32) (W1 : Nat → Nat → Int32) (MP : Nat → Nat) (PL : Nat → Int32) (ML : Nat → Int32) (DL : Nat → Int32) (TH : Nat → Int32) (NM : Nat → Int64) (SZ : Nat → Nat) (PT : Nat → Nat) (TK : Nat → Int32) : va_W := [(mo, .inr (5, [.int thr, .int G, .int ky, .int DE, .int (nI cn), .ref se, .ref co, .ref ou, .ref le, .ref wo, .ref ma, .ref pl, .ref tl, .ref tm, .ref th, .ref na, .ref si, .ref pa, .ref ta, .int got])), (se, .inl (cI, 1750, .inl (fl25 (jn 7 S0 S1)))), (co, .inl (cI, 70, .inl (jn 7 C0 C1))), (ou, .inl (cZ, 72, .inl (jn 8 O0 O1))), (le, .inl (cI, 72, .inl (jn 8 L0 L1))), (wo, .inl (cI, 288, .inl (fl4 (jn 8 W0 W1)))), (ma, .inl (cI, 8, .inl (nIf MP))), (pl, .inl (cI, 24, .inl PL)), (tl, .inl (cI, 64, .inl ML)), (tm, .inl (cI, 64, .inl DL)), (th, .inl (cZ, 8, .inl TH)), (na, .inl (cJ, 8, .inr (.inl NM))), (si, .inl (cI, 8, .inl (nIf SZ))), (pa, .inl (cI, 48, .inl (nIf PT))), (ta, .inl (cZ, 64, .inl TK))]
set_option maxHeartbeats 800000 in
set_option maxRecDepth 100000 in
theorem c_m_buckets0 (l : Launch) (D : va_G) (cI cZ cJ : ClassId)    : KI l yX5_buckets wsX5_buckets ({ frames := 0, cells := 0, slots := 0, locals := 0 }) D (kty cI cZ cJ) [.int (nI 0)] (wN cI cZ cJ ) (fun r (_ : Unit) => r = nI (7)) (fun _ : Unit => (wN cI cZ cJ )) 0 0 := by
  refine k_headI (cc := cX5_buckets) (maxL := 1) (ret := (some .int)) (by decide) rfl (Nat.le_of_ble_eq_true rfl) ?_
  intro p e s m below meth c A ls args Q hx hb hr hml hts hown hlk hnm hA hK hP hD hS hl hQ
  have hl : lv_has ls 1 [(0, .int (nI 0))] := hl
  refine lv_iload_n hx hb dX5_buckets_0 rfl (lv_at hl 0 rfl) ?_
  refine lv_if_ne (tgt := 9) hx hb dX5_buckets_1 (by decide) (fun cz => ?_) (fun cz => ?_)
  · skip
    exact absurd rfl cz
  · skip
    refine lv_bipush (v := nI 7) hx hb dX5_buckets_4 (by decide) ?_
    refine lv_goto (tgt := 11) hx hb dX5_buckets_6 (by decide) ?_
    exact k_reti () hx hb hr hK hS hlk dX5_buckets_11 hP hD (by exact rfl) hQ

set_option maxHeartbeats 800000 in
set_option maxRecDepth 100000 in
theorem c_m_levels0 (l : Launch) (D : va_G) (cI cZ cJ : ClassId)    : KI l yX5_levels wsX5_levels ({ frames := 0, cells := 0, slots := 0, locals := 0 }) D (kty cI cZ cJ) [.int (nI 0)] (wN cI cZ cJ ) (fun r (_ : Unit) => r = nI (3)) (fun _ : Unit => (wN cI cZ cJ )) 0 0 := by
  refine k_headI (cc := cX5_levels) (maxL := 1) (ret := (some .int)) (by decide) rfl (Nat.le_of_ble_eq_true rfl) ?_
  intro p e s m below meth c A ls args Q hx hb hr hml hts hown hlk hnm hA hK hP hD hS hl hQ
  have hl : lv_has ls 1 [(0, .int (nI 0))] := hl
  refine lv_iload_n hx hb dX5_levels_0 rfl (lv_at hl 0 rfl) ?_
  refine lv_if_ne (tgt := 8) hx hb dX5_levels_1 (by decide) (fun cz => ?_) (fun cz => ?_)
  · skip
    exact absurd rfl cz
  · skip
    refine lv_iconst (v := nI 3) hx hb dX5_levels_4 (by decide) ?_
    refine lv_goto (tgt := 10) hx hb dX5_levels_5 (by decide) ?_
    exact k_reti () hx hb hr hK hS hlk dX5_levels_10 hP hD (by exact rfl) hQ

set_option maxHeartbeats 800000 in
set_option maxRecDepth 100000 in
theorem c_m_first0 (l : Launch) (D : va_G) (cI cZ cJ : ClassId)    : KI l yX5_first wsX5_first ({ frames := 0, cells := 0, slots := 0, locals := 0 }) D (kty cI cZ cJ) [.int (nI 0)] (wN cI cZ cJ ) (fun r (_ : Unit) => r = nI (0)) (fun _ : Unit => (wN cI cZ cJ )) 0 0 := by
  refine k_headI (cc := cX5_first) (maxL := 1) (ret := (some .int)) (by decide) rfl (Nat.le_of_ble_eq_true rfl) ?_
  intro p e s m below meth c A ls args Q hx hb hr hml hts hown hlk hnm hA hK hP hD hS hl hQ
  have hl : lv_has ls 1 [(0, .int (nI 0))] := hl
  refine lv_iload_n hx hb dX5_first_0 rfl (lv_at hl 0 rfl) ?_
  refine lv_if_ne (tgt := 8) hx hb dX5_first_1 (by decide) (fun cz => ?_) (fun cz => ?_)
  · skip
    exact absurd rfl cz
  · skip
    refine lv_iconst (v := nI 0) hx hb dX5_first_4 (by decide) ?_
    refine lv_goto (tgt := 10) hx hb dX5_first_5 (by decide) ?_
    exact k_reti () hx hb hr hK hS hlk dX5_first_10 hP hD (by exact rfl) hQ

set_option maxHeartbeats 800000 in
set_option maxRecDepth 100000 in
theorem c_m_blocks0 (l : Launch) (D : va_G) (cI cZ cJ : ClassId)    : KI l yX5_blocks wsX5_blocks ({ frames := 0, cells := 0, slots := 0, locals := 0 }) D (kty cI cZ cJ) [.int (nI 0)] (wN cI cZ cJ ) (fun r (_ : Unit) => r = nI (8)) (fun _ : Unit => (wN cI cZ cJ )) 0 0 := by
  refine k_headI (cc := cX5_blocks) (maxL := 1) (ret := (some .int)) (by decide) rfl (Nat.le_of_ble_eq_true rfl) ?_
  intro p e s m below meth c A ls args Q hx hb hr hml hts hown hlk hnm hA hK hP hD hS hl hQ
  have hl : lv_has ls 1 [(0, .int (nI 0))] := hl
  refine lv_iload_n hx hb dX5_blocks_0 rfl (lv_at hl 0 rfl) ?_
  refine lv_if_ne (tgt := 9) hx hb dX5_blocks_1 (by decide) (fun cz => ?_) (fun cz => ?_)
  · skip
    exact absurd rfl cz
  · skip
    refine lv_bipush (v := nI 8) hx hb dX5_blocks_4 (by decide) ?_
    refine lv_goto (tgt := 11) hx hb dX5_blocks_6 (by decide) ?_
    exact k_reti () hx hb hr hK hS hlk dX5_blocks_11 hP hD (by exact rfl) hQ

set_option maxHeartbeats 800000 in
set_option maxRecDepth 100000 in
theorem c_m_place0 (l : Launch) (D : va_G) (cI cZ cJ : ClassId)  (b : Nat)  : KI l yX5_place wsX5_place ({ frames := 0, cells := 0, slots := 0, locals := 0 }) D (kty cI cZ cJ) [.int (nI 0), .int (nI b)] (wN cI cZ cJ ) (fun r (_ : Unit) => r = nI (b)) (fun _ : Unit => (wN cI cZ cJ )) 0 0 := by
  refine k_headI (cc := cX5_place) (maxL := 2) (ret := (some .int)) (by decide) rfl (Nat.le_of_ble_eq_true rfl) ?_
  intro p e s m below meth c A ls args Q hx hb hr hml hts hown hlk hnm hA hK hP hD hS hl hQ
  have hl : lv_has ls 2 [(0, .int (nI 0)), (1, .int (nI b))] := hl
  refine lv_iload_n hx hb dX5_place_0 rfl (lv_at hl 0 rfl) ?_
  refine lv_if_ne (tgt := 8) hx hb dX5_place_1 (by decide) (fun cz => ?_) (fun cz => ?_)
  · skip
    exact absurd rfl cz
  · skip
    refine lv_iload_n hx hb dX5_place_4 rfl (lv_at hl 1 rfl) ?_
    refine lv_goto (tgt := 12) hx hb dX5_place_5 (by decide) ?_
    exact k_reti () hx hb hr hK hS hlk dX5_place_12 hP hD (by exact rfl) hQ

set_option maxHeartbeats 800000 in
set_option maxRecDepth 100000 in
theorem c_m_onPath0 (l : Launch) (D : va_G) (cI cZ cJ : ClassId)  (l0 up : Nat) (hl0 : l0 < 4) (hup : up < 3) : KI l yX5_onPath wsX5_onPath ({ frames := 1, cells := 0, slots := 0, locals := 20 }) D (kty cI cZ cJ) [.int (nI 0), .int (nI l0), .int (nI up)] (wN cI cZ cJ ) (fun r (_ : Unit) => r = nI (pathB 4 l0 up)) (fun _ : Unit => (wN cI cZ cJ )) 0 0 := by
  refine k_headI (cc := cX5_onPath) (maxL := 5) (ret := (some .int)) (by decide) rfl (Nat.le_of_ble_eq_true rfl) ?_
  intro p e s m below meth c A ls args Q hx hb hr hml hts hown hlk hnm hA hK hP hD hS hl hQ
  have hl : lv_has ls 5 [(0, .int (nI 0)), (1, .int (nI l0)), (2, .int (nI up))] := hl
  refine lv_iload_n hx hb dX5_onPath_0 rfl (lv_at hl 0 rfl) ?_
  refine k_si (As := [.int (nI 0)]) (rest := []) (w2 := fun u : Unit => (wN cI cZ cJ )) ⟨hx, hb, hml, hown, hts⟩ (c_m_buckets0 l D cI cZ cJ  ) (va_cwS 1 hts gX5_onPath_X5_buckets rfl rfl rfl (by decide +kernel) ⟨Nat.le_of_ble_eq_true rfl, Nat.le_of_ble_eq_true rfl⟩) hP hD hK hS hA [] [] [] rfl rfl (by decide) (fun u => rfl) rfl hl.1 rfl (Nat.le_of_ble_eq_true rfl) dX5_onPath_1 ⟨Nat.le_of_ble_eq_true rfl, Nat.le_of_ble_eq_true rfl⟩ (fun r u H locs hu1 hP hD hS => ?_)
  refine k_t1 (show r = nI 7 from hu1) ?_
  refine lv_iconst (v := nI 2) hx hb dX5_onPath_4 (by decide) ?_
  refine lv_idiv hx hb dX5_onPath_5 (by decide) ?_
  refine k_t1 (show (nI 7) / (nI 2) = nI (7 / 2) from pk_div (by omega) (by omega) (by omega)) ?_
  refine lv_iload_n hx hb dX5_onPath_6 rfl (lv_at hl 1 rfl) ?_
  refine lv_iadd hx hb dX5_onPath_7 ?_
  refine k_t1 (show (nI (7 / 2)) + (nI l0) = nI (pathB 4 l0 0) from (nI_add _ _).trans (congrArg nI (by rw [← path0 (lc := 4) (by decide)]))) ?_
  refine lv_istore_n (lv' := [(3, .int (nI (pathB 4 l0 0))), (0, .int (nI 0)), (1, .int (nI l0)), (2, .int (nI up))]) hx hb dX5_onPath_8 rfl hl (by decide) rfl (fun ls hl => ?_)
  refine lv_iconst (v := nI 0) hx hb dX5_onPath_9 (by decide) ?_
  refine lv_istore (lv' := [(4, .int (nI 0)), (3, .int (nI (pathB 4 l0 0))), (0, .int (nI 0)), (1, .int (nI l0)), (2, .int (nI up))]) hx hb dX5_onPath_10 hl (by decide) rfl (fun ls hl => ?_)
  have L1 : ∀ (nf k : Nat) (hvL1 : k ≤ up) (hFL1 : up - k < nf) (H : Heap) (locs : List Loc) (ls : Array Slot), va_P D vwCl (wN cI cZ cJ ) H → va_D A (wN cI cZ cJ ) → va_S A s.heap H locs → lv_has ls 5 [(0, .int (nI 0)), (1, .int (nI l0)), (2, .int (nI up)), (3, .int (nI (pathB 4 l0 k))), (4, .int (nI k))] → W p l e ({ frames := 1, cells := 0, slots := 0, locals := 20 } : Room) s m args below meth c H locs 0 0 Q (F0 m 12 ls []) := by
    intro nf
    induction nf with
    | zero => intro k  hvL1 hFL1; omega
    | succ nf ihL1 =>
      intro k  hvL1 hFL1  H locs ls hP hD hS hl
      refine lv_iload hx hb dX5_onPath_12 (lv_at hl 4 rfl) ?_
      refine lv_iload_n hx hb dX5_onPath_14 rfl (lv_at hl 2 rfl) ?_
      refine k_icmp_ge (tgt := 30) hx hb (by omega) (by omega) dX5_onPath_15 (by decide) (fun c1 => ?_) (fun c1 => ?_)
      · skip
        obtain rfl : up = k := by omega
        refine lv_iload_n hx hb dX5_onPath_30 rfl (lv_at hl 3 rfl) ?_
        exact k_reti () hx hb hr hK hS hlk dX5_onPath_31 hP hD (by exact rfl) hQ
      · skip
        have hps := path_st4 l0 hl0 k (by omega)
        have hpb : pathB 4 l0 k < 7 := pathB_lt tp0 hl0
        refine lv_iload_n hx hb dX5_onPath_18 rfl (lv_at hl 3 rfl) ?_
        refine lv_iconst (v := nI 1) hx hb dX5_onPath_19 (by decide) ?_
        refine lv_isub hx hb dX5_onPath_20 ?_
        refine k_t1 (show (nI (pathB 4 l0 k)) - (nI 1) = nI (pathB 4 l0 k - 1) from pk_sub hps.1) ?_
        refine lv_iconst (v := nI 2) hx hb dX5_onPath_21 (by decide) ?_
        refine lv_idiv hx hb dX5_onPath_22 (by decide) ?_
        refine k_t1 (show (nI (pathB 4 l0 k - 1)) / (nI 2) = nI (pathB 4 l0 (k + 1)) from (pk_div (by omega) (by omega) (by omega)).trans (congrArg nI hps.2)) ?_
        refine lv_istore_n (lv' := [(3, .int (nI (pathB 4 l0 (k + 1)))), (0, .int (nI 0)), (1, .int (nI l0)), (2, .int (nI up)), (4, .int (nI k))]) hx hb dX5_onPath_23 rfl hl (by decide) rfl (fun ls hl => ?_)
        refine lv_iinc (v := nI (k + 1)) (lv' := [(4, .int (nI (k + 1))), (3, .int (nI (pathB 4 l0 (k + 1)))), (0, .int (nI 0)), (1, .int (nI l0)), (2, .int (nI up))]) hx hb dX5_onPath_24 hl (k := 4) rfl (nI_add k 1) (by decide) rfl (fun ls hl => ?_)
        refine lv_goto (tgt := 12) hx hb dX5_onPath_27 (by decide) ?_
        exact ihL1 (k + 1)  (by omega) (by omega)  _ _ _ hP hD hS (lv_sub hl [2, 3, 4, 1, 0] rfl)
  exact L1 (up + 1) 0  (by omega) (by omega)  _ _ _ hP hD hS (lv_sub hl [2, 3, 4, 1, 0] rfl)

set_option maxHeartbeats 800000 in
set_option maxRecDepth 100000 in
theorem c_m_passes0_y (l : Launch) (D : va_G) (cI cZ cJ : ClassId)  (l0 b : Nat) (hl0 : l0 < 4) (hb0 : b < 7) (u0 : Nat) (hu : u0 < 3) (he : pathB 4 l0 u0 = b) (hne : ∀ j, j < u0 → pathB 4 l0 j ≠ b) : KI l yX5_passes wsX5_passes ({ frames := 2, cells := 0, slots := 0, locals := 44 }) D (kty cI cZ cJ) [.int (nI 0), .int (nI l0), .int (nI b)] (wN cI cZ cJ ) (fun r (_ : Unit) => r = 1) (fun _ : Unit => (wN cI cZ cJ )) 0 0 := by
  refine k_headI (cc := cX5_passes) (maxL := 4) (ret := (some .boolean)) (by decide) rfl (Nat.le_of_ble_eq_true rfl) ?_
  intro p e s m below meth c A ls args Q hx hb hr hml hts hown hlk hnm hA hK hP hD hS hl hQ
  have hl : lv_has ls 4 [(0, .int (nI 0)), (1, .int (nI l0)), (2, .int (nI b))] := hl
  refine lv_iconst (v := nI 0) hx hb dX5_passes_0 (by decide) ?_
  refine lv_istore_n (lv' := [(3, .int (nI 0)), (0, .int (nI 0)), (1, .int (nI l0)), (2, .int (nI b))]) hx hb dX5_passes_1 rfl hl (by decide) rfl (fun ls hl => ?_)
  have L1 : ∀ (nf k : Nat) (hvL1 : k ≤ u0) (hFL1 : u0 - k < nf) (H : Heap) (locs : List Loc) (ls : Array Slot), va_P D vwCl (wN cI cZ cJ ) H → va_D A (wN cI cZ cJ ) → va_S A s.heap H locs → lv_has ls 4 [(0, .int (nI 0)), (1, .int (nI l0)), (2, .int (nI b)), (3, .int (nI k))] → W p l e ({ frames := 2, cells := 0, slots := 0, locals := 44 } : Room) s m args below meth c H locs 0 0 Q (F0 m 2 ls []) := by
    intro nf
    induction nf with
    | zero => intro k  hvL1 hFL1; omega
    | succ nf ihL1 =>
      intro k  hvL1 hFL1  H locs ls hP hD hS hl
      refine lv_iload_n hx hb dX5_passes_2 rfl (lv_at hl 3 rfl) ?_
      refine lv_iload_n hx hb dX5_passes_3 rfl (lv_at hl 0 rfl) ?_
      refine k_si (As := [.int (nI 0)]) (rest := [.int (nI k)]) (w2 := fun u : Unit => (wN cI cZ cJ )) ⟨hx, hb, hml, hown, hts⟩ (c_m_levels0 l D cI cZ cJ  ) (va_cwS 1 hts gX5_passes_X5_levels rfl rfl rfl (by decide +kernel) ⟨Nat.le_of_ble_eq_true rfl, Nat.le_of_ble_eq_true rfl⟩) hP hD hK hS hA [] [] [] rfl rfl (by decide) (fun u => rfl) rfl hl.1 rfl (Nat.le_of_ble_eq_true rfl) dX5_passes_4 ⟨Nat.le_of_ble_eq_true rfl, Nat.le_of_ble_eq_true rfl⟩ (fun r u H locs hu1 hP hD hS => ?_)
      refine k_t1 (show r = nI 3 from hu1) ?_
      refine k_icmp_ge (tgt := 28) hx hb (by omega) (by omega) dX5_passes_7 (by decide) (fun c1 => ?_) (fun c1 => ?_)
      · skip
        omega
      · skip
        refine lv_iload_n hx hb dX5_passes_10 rfl (lv_at hl 0 rfl) ?_
        refine lv_iload_n hx hb dX5_passes_11 rfl (lv_at hl 1 rfl) ?_
        refine lv_iload_n hx hb dX5_passes_12 rfl (lv_at hl 3 rfl) ?_
        refine k_si (As := [.int (nI 0), .int (nI l0), .int (nI k)]) (rest := []) (w2 := fun u : Unit => (wN cI cZ cJ )) ⟨hx, hb, hml, hown, hts⟩ (c_m_onPath0 l D cI cZ cJ  l0 k hl0 c1) (va_cwS 3 hts gX5_passes_X5_onPath rfl rfl rfl (by decide +kernel) ⟨Nat.le_of_ble_eq_true rfl, Nat.le_of_ble_eq_true rfl⟩) hP hD hK hS hA [] [] [] rfl rfl (by decide) (fun u => rfl) rfl hl.1 rfl (Nat.le_of_ble_eq_true rfl) dX5_passes_13 ⟨Nat.le_of_ble_eq_true rfl, Nat.le_of_ble_eq_true rfl⟩ (fun r u H locs hu2 hP hD hS => ?_)
        refine k_t1 (show r = nI (pathB 4 l0 k) from hu2) ?_
        have hpb : pathB 4 l0 k < 7 := pathB_lt tp0 hl0
        refine lv_iload_n hx hb dX5_passes_16 rfl (lv_at hl 2 rfl) ?_
        refine k_icmp_ne (tgt := 22) hx hb (by omega) (by omega) dX5_passes_17 (by decide) (fun c2 => ?_) (fun c2 => ?_)
        · skip
          by_cases hku : k = u0
          · subst hku; exact absurd he c2
          · skip
            refine lv_iinc (v := nI (k + 1)) (lv' := [(3, .int (nI (k + 1))), (0, .int (nI 0)), (1, .int (nI l0)), (2, .int (nI b))]) hx hb dX5_passes_22 hl (k := 3) rfl (nI_add k 1) (by decide) rfl (fun ls hl => ?_)
            refine lv_goto (tgt := 2) hx hb dX5_passes_25 (by decide) ?_
            exact ihL1 (k + 1)  (by omega) (by omega)  _ _ _ hP hD hS (lv_sub hl [1, 2, 3, 0] rfl)
        · skip
          refine lv_iconst (v := nI 1) hx hb dX5_passes_20 (by decide) ?_
          exact k_retz () hx hb hr hK hS hlk dX5_passes_21 ((by first | exact Or.inl rfl | exact Or.inr rfl)) hP hD (by exact rfl) hQ
  exact L1 (u0 + 1) 0  (by omega) (by omega)  _ _ _ hP hD hS (lv_sub hl [1, 2, 3, 0] rfl)

set_option maxHeartbeats 800000 in
set_option maxRecDepth 100000 in
theorem c_m_passes0_n (l : Launch) (D : va_G) (cI cZ cJ : ClassId)  (l0 b : Nat) (hl0 : l0 < 4) (hb0 : b < 7) (hne : ∀ j, j < 3 → pathB 4 l0 j ≠ b) : KI l yX5_passes wsX5_passes ({ frames := 2, cells := 0, slots := 0, locals := 44 }) D (kty cI cZ cJ) [.int (nI 0), .int (nI l0), .int (nI b)] (wN cI cZ cJ ) (fun r (_ : Unit) => r = 0) (fun _ : Unit => (wN cI cZ cJ )) 0 0 := by
  refine k_headI (cc := cX5_passes) (maxL := 4) (ret := (some .boolean)) (by decide) rfl (Nat.le_of_ble_eq_true rfl) ?_
  intro p e s m below meth c A ls args Q hx hb hr hml hts hown hlk hnm hA hK hP hD hS hl hQ
  have hl : lv_has ls 4 [(0, .int (nI 0)), (1, .int (nI l0)), (2, .int (nI b))] := hl
  refine lv_iconst (v := nI 0) hx hb dX5_passes_0 (by decide) ?_
  refine lv_istore_n (lv' := [(3, .int (nI 0)), (0, .int (nI 0)), (1, .int (nI l0)), (2, .int (nI b))]) hx hb dX5_passes_1 rfl hl (by decide) rfl (fun ls hl => ?_)
  have L1 : ∀ (nf k : Nat) (hvL1 : k ≤ 3) (hFL1 : 3 - k < nf) (H : Heap) (locs : List Loc) (ls : Array Slot), va_P D vwCl (wN cI cZ cJ ) H → va_D A (wN cI cZ cJ ) → va_S A s.heap H locs → lv_has ls 4 [(0, .int (nI 0)), (1, .int (nI l0)), (2, .int (nI b)), (3, .int (nI k))] → W p l e ({ frames := 2, cells := 0, slots := 0, locals := 44 } : Room) s m args below meth c H locs 0 0 Q (F0 m 2 ls []) := by
    intro nf
    induction nf with
    | zero => intro k  hvL1 hFL1; omega
    | succ nf ihL1 =>
      intro k  hvL1 hFL1  H locs ls hP hD hS hl
      refine lv_iload_n hx hb dX5_passes_2 rfl (lv_at hl 3 rfl) ?_
      refine lv_iload_n hx hb dX5_passes_3 rfl (lv_at hl 0 rfl) ?_
      refine k_si (As := [.int (nI 0)]) (rest := [.int (nI k)]) (w2 := fun u : Unit => (wN cI cZ cJ )) ⟨hx, hb, hml, hown, hts⟩ (c_m_levels0 l D cI cZ cJ  ) (va_cwS 1 hts gX5_passes_X5_levels rfl rfl rfl (by decide +kernel) ⟨Nat.le_of_ble_eq_true rfl, Nat.le_of_ble_eq_true rfl⟩) hP hD hK hS hA [] [] [] rfl rfl (by decide) (fun u => rfl) rfl hl.1 rfl (Nat.le_of_ble_eq_true rfl) dX5_passes_4 ⟨Nat.le_of_ble_eq_true rfl, Nat.le_of_ble_eq_true rfl⟩ (fun r u H locs hu1 hP hD hS => ?_)
      refine k_t1 (show r = nI 3 from hu1) ?_
      refine k_icmp_ge (tgt := 28) hx hb (by omega) (by omega) dX5_passes_7 (by decide) (fun c1 => ?_) (fun c1 => ?_)
      · skip
        refine lv_iconst (v := nI 0) hx hb dX5_passes_28 (by decide) ?_
        exact k_retz () hx hb hr hK hS hlk dX5_passes_29 ((by first | exact Or.inl rfl | exact Or.inr rfl)) hP hD (by exact rfl) hQ
      · skip
        refine lv_iload_n hx hb dX5_passes_10 rfl (lv_at hl 0 rfl) ?_
        refine lv_iload_n hx hb dX5_passes_11 rfl (lv_at hl 1 rfl) ?_
        refine lv_iload_n hx hb dX5_passes_12 rfl (lv_at hl 3 rfl) ?_
        refine k_si (As := [.int (nI 0), .int (nI l0), .int (nI k)]) (rest := []) (w2 := fun u : Unit => (wN cI cZ cJ )) ⟨hx, hb, hml, hown, hts⟩ (c_m_onPath0 l D cI cZ cJ  l0 k hl0 c1) (va_cwS 3 hts gX5_passes_X5_onPath rfl rfl rfl (by decide +kernel) ⟨Nat.le_of_ble_eq_true rfl, Nat.le_of_ble_eq_true rfl⟩) hP hD hK hS hA [] [] [] rfl rfl (by decide) (fun u => rfl) rfl hl.1 rfl (Nat.le_of_ble_eq_true rfl) dX5_passes_13 ⟨Nat.le_of_ble_eq_true rfl, Nat.le_of_ble_eq_true rfl⟩ (fun r u H locs hu2 hP hD hS => ?_)
        refine k_t1 (show r = nI (pathB 4 l0 k) from hu2) ?_
        have hpb : pathB 4 l0 k < 7 := pathB_lt tp0 hl0
        refine lv_iload_n hx hb dX5_passes_16 rfl (lv_at hl 2 rfl) ?_
        refine k_icmp_ne (tgt := 22) hx hb (by omega) (by omega) dX5_passes_17 (by decide) (fun c2 => ?_) (fun c2 => ?_)
        · skip
          refine lv_iinc (v := nI (k + 1)) (lv' := [(3, .int (nI (k + 1))), (0, .int (nI 0)), (1, .int (nI l0)), (2, .int (nI b))]) hx hb dX5_passes_22 hl (k := 3) rfl (nI_add k 1) (by decide) rfl (fun ls hl => ?_)
          refine lv_goto (tgt := 2) hx hb dX5_passes_25 (by decide) ?_
          exact ihL1 (k + 1)  (by omega) (by omega)  _ _ _ hP hD hS (lv_sub hl [1, 2, 3, 0] rfl)
        · skip
          exact absurd c2 (hne k c1)
  exact L1 (3 + 1) 0  (by omega) (by omega)  _ _ _ hP hD hS (lv_sub hl [1, 2, 3, 0] rfl)

set_option maxHeartbeats 800000 in
set_option maxRecDepth 100000 in
theorem c_m_buckets1 (l : Launch) (D : va_G) (cI cZ cJ : ClassId)    : KI l yX5_buckets wsX5_buckets ({ frames := 0, cells := 0, slots := 0, locals := 0 }) D (kty cI cZ cJ) [.int (nI 1)] (wN cI cZ cJ ) (fun r (_ : Unit) => r = nI (63)) (fun _ : Unit => (wN cI cZ cJ )) 0 0 := by
  refine k_headI (cc := cX5_buckets) (maxL := 1) (ret := (some .int)) (by decide) rfl (Nat.le_of_ble_eq_true rfl) ?_
  intro p e s m below meth c A ls args Q hx hb hr hml hts hown hlk hnm hA hK hP hD hS hl hQ
  have hl : lv_has ls 1 [(0, .int (nI 1))] := hl
  refine lv_iload_n hx hb dX5_buckets_0 rfl (lv_at hl 0 rfl) ?_
  refine lv_if_ne (tgt := 9) hx hb dX5_buckets_1 (by decide) (fun cz => ?_) (fun cz => ?_)
  · skip
    refine lv_bipush (v := nI 63) hx hb dX5_buckets_9 (by decide) ?_
    exact k_reti () hx hb hr hK hS hlk dX5_buckets_11 hP hD (by exact rfl) hQ
  · skip
    exact absurd cz (by decide)

set_option maxHeartbeats 800000 in
set_option maxRecDepth 100000 in
theorem c_m_levels1 (l : Launch) (D : va_G) (cI cZ cJ : ClassId)    : KI l yX5_levels wsX5_levels ({ frames := 0, cells := 0, slots := 0, locals := 0 }) D (kty cI cZ cJ) [.int (nI 1)] (wN cI cZ cJ ) (fun r (_ : Unit) => r = nI (6)) (fun _ : Unit => (wN cI cZ cJ )) 0 0 := by
  refine k_headI (cc := cX5_levels) (maxL := 1) (ret := (some .int)) (by decide) rfl (Nat.le_of_ble_eq_true rfl) ?_
  intro p e s m below meth c A ls args Q hx hb hr hml hts hown hlk hnm hA hK hP hD hS hl hQ
  have hl : lv_has ls 1 [(0, .int (nI 1))] := hl
  refine lv_iload_n hx hb dX5_levels_0 rfl (lv_at hl 0 rfl) ?_
  refine lv_if_ne (tgt := 8) hx hb dX5_levels_1 (by decide) (fun cz => ?_) (fun cz => ?_)
  · skip
    refine lv_bipush (v := nI 6) hx hb dX5_levels_8 (by decide) ?_
    exact k_reti () hx hb hr hK hS hlk dX5_levels_10 hP hD (by exact rfl) hQ
  · skip
    exact absurd cz (by decide)

set_option maxHeartbeats 800000 in
set_option maxRecDepth 100000 in
theorem c_m_first1 (l : Launch) (D : va_G) (cI cZ cJ : ClassId)    : KI l yX5_first wsX5_first ({ frames := 0, cells := 0, slots := 0, locals := 0 }) D (kty cI cZ cJ) [.int (nI 1)] (wN cI cZ cJ ) (fun r (_ : Unit) => r = nI (8)) (fun _ : Unit => (wN cI cZ cJ )) 0 0 := by
  refine k_headI (cc := cX5_first) (maxL := 1) (ret := (some .int)) (by decide) rfl (Nat.le_of_ble_eq_true rfl) ?_
  intro p e s m below meth c A ls args Q hx hb hr hml hts hown hlk hnm hA hK hP hD hS hl hQ
  have hl : lv_has ls 1 [(0, .int (nI 1))] := hl
  refine lv_iload_n hx hb dX5_first_0 rfl (lv_at hl 0 rfl) ?_
  refine lv_if_ne (tgt := 8) hx hb dX5_first_1 (by decide) (fun cz => ?_) (fun cz => ?_)
  · skip
    refine lv_bipush (v := nI 8) hx hb dX5_first_8 (by decide) ?_
    exact k_reti () hx hb hr hK hS hlk dX5_first_10 hP hD (by exact rfl) hQ
  · skip
    exact absurd cz (by decide)

set_option maxHeartbeats 800000 in
set_option maxRecDepth 100000 in
theorem c_m_blocks1 (l : Launch) (D : va_G) (cI cZ cJ : ClassId)    : KI l yX5_blocks wsX5_blocks ({ frames := 0, cells := 0, slots := 0, locals := 0 }) D (kty cI cZ cJ) [.int (nI 1)] (wN cI cZ cJ ) (fun r (_ : Unit) => r = nI (64)) (fun _ : Unit => (wN cI cZ cJ )) 0 0 := by
  refine k_headI (cc := cX5_blocks) (maxL := 1) (ret := (some .int)) (by decide) rfl (Nat.le_of_ble_eq_true rfl) ?_
  intro p e s m below meth c A ls args Q hx hb hr hml hts hown hlk hnm hA hK hP hD hS hl hQ
  have hl : lv_has ls 1 [(0, .int (nI 1))] := hl
  refine lv_iload_n hx hb dX5_blocks_0 rfl (lv_at hl 0 rfl) ?_
  refine lv_if_ne (tgt := 9) hx hb dX5_blocks_1 (by decide) (fun cz => ?_) (fun cz => ?_)
  · skip
    refine lv_bipush (v := nI 64) hx hb dX5_blocks_9 (by decide) ?_
    exact k_reti () hx hb hr hK hS hlk dX5_blocks_11 hP hD (by exact rfl) hQ
  · skip
    exact absurd cz (by decide)

set_option maxHeartbeats 800000 in
set_option maxRecDepth 100000 in
theorem c_m_place1 (l : Launch) (D : va_G) (cI cZ cJ : ClassId)  (b : Nat)  : KI l yX5_place wsX5_place ({ frames := 0, cells := 0, slots := 0, locals := 0 }) D (kty cI cZ cJ) [.int (nI 1), .int (nI b)] (wN cI cZ cJ ) (fun r (_ : Unit) => r = nI (7 + b)) (fun _ : Unit => (wN cI cZ cJ )) 0 0 := by
  refine k_headI (cc := cX5_place) (maxL := 2) (ret := (some .int)) (by decide) rfl (Nat.le_of_ble_eq_true rfl) ?_
  intro p e s m below meth c A ls args Q hx hb hr hml hts hown hlk hnm hA hK hP hD hS hl hQ
  have hl : lv_has ls 2 [(0, .int (nI 1)), (1, .int (nI b))] := hl
  refine lv_iload_n hx hb dX5_place_0 rfl (lv_at hl 0 rfl) ?_
  refine lv_if_ne (tgt := 8) hx hb dX5_place_1 (by decide) (fun cz => ?_) (fun cz => ?_)
  · skip
    refine lv_bipush (v := nI 7) hx hb dX5_place_8 (by decide) ?_
    refine lv_iload_n hx hb dX5_place_10 rfl (lv_at hl 1 rfl) ?_
    refine lv_iadd hx hb dX5_place_11 ?_
    refine k_t1 (show (nI 7) + (nI b) = nI (7 + b) from nI_add _ _) ?_
    exact k_reti () hx hb hr hK hS hlk dX5_place_12 hP hD (by exact rfl) hQ
  · skip
    exact absurd cz (by decide)

set_option maxHeartbeats 800000 in
set_option maxRecDepth 100000 in
theorem c_m_onPath1 (l : Launch) (D : va_G) (cI cZ cJ : ClassId)  (l0 up : Nat) (hl0 : l0 < 32) (hup : up < 6) : KI l yX5_onPath wsX5_onPath ({ frames := 1, cells := 0, slots := 0, locals := 20 }) D (kty cI cZ cJ) [.int (nI 1), .int (nI l0), .int (nI up)] (wN cI cZ cJ ) (fun r (_ : Unit) => r = nI (pathB 32 l0 up)) (fun _ : Unit => (wN cI cZ cJ )) 0 0 := by
  refine k_headI (cc := cX5_onPath) (maxL := 5) (ret := (some .int)) (by decide) rfl (Nat.le_of_ble_eq_true rfl) ?_
  intro p e s m below meth c A ls args Q hx hb hr hml hts hown hlk hnm hA hK hP hD hS hl hQ
  have hl : lv_has ls 5 [(0, .int (nI 1)), (1, .int (nI l0)), (2, .int (nI up))] := hl
  refine lv_iload_n hx hb dX5_onPath_0 rfl (lv_at hl 0 rfl) ?_
  refine k_si (As := [.int (nI 1)]) (rest := []) (w2 := fun u : Unit => (wN cI cZ cJ )) ⟨hx, hb, hml, hown, hts⟩ (c_m_buckets1 l D cI cZ cJ  ) (va_cwS 1 hts gX5_onPath_X5_buckets rfl rfl rfl (by decide +kernel) ⟨Nat.le_of_ble_eq_true rfl, Nat.le_of_ble_eq_true rfl⟩) hP hD hK hS hA [] [] [] rfl rfl (by decide) (fun u => rfl) rfl hl.1 rfl (Nat.le_of_ble_eq_true rfl) dX5_onPath_1 ⟨Nat.le_of_ble_eq_true rfl, Nat.le_of_ble_eq_true rfl⟩ (fun r u H locs hu1 hP hD hS => ?_)
  refine k_t1 (show r = nI 63 from hu1) ?_
  refine lv_iconst (v := nI 2) hx hb dX5_onPath_4 (by decide) ?_
  refine lv_idiv hx hb dX5_onPath_5 (by decide) ?_
  refine k_t1 (show (nI 63) / (nI 2) = nI (63 / 2) from pk_div (by omega) (by omega) (by omega)) ?_
  refine lv_iload_n hx hb dX5_onPath_6 rfl (lv_at hl 1 rfl) ?_
  refine lv_iadd hx hb dX5_onPath_7 ?_
  refine k_t1 (show (nI (63 / 2)) + (nI l0) = nI (pathB 32 l0 0) from (nI_add _ _).trans (congrArg nI (by rw [← path0 (lc := 32) (by decide)]))) ?_
  refine lv_istore_n (lv' := [(3, .int (nI (pathB 32 l0 0))), (0, .int (nI 1)), (1, .int (nI l0)), (2, .int (nI up))]) hx hb dX5_onPath_8 rfl hl (by decide) rfl (fun ls hl => ?_)
  refine lv_iconst (v := nI 0) hx hb dX5_onPath_9 (by decide) ?_
  refine lv_istore (lv' := [(4, .int (nI 0)), (3, .int (nI (pathB 32 l0 0))), (0, .int (nI 1)), (1, .int (nI l0)), (2, .int (nI up))]) hx hb dX5_onPath_10 hl (by decide) rfl (fun ls hl => ?_)
  have L1 : ∀ (nf k : Nat) (hvL1 : k ≤ up) (hFL1 : up - k < nf) (H : Heap) (locs : List Loc) (ls : Array Slot), va_P D vwCl (wN cI cZ cJ ) H → va_D A (wN cI cZ cJ ) → va_S A s.heap H locs → lv_has ls 5 [(0, .int (nI 1)), (1, .int (nI l0)), (2, .int (nI up)), (3, .int (nI (pathB 32 l0 k))), (4, .int (nI k))] → W p l e ({ frames := 1, cells := 0, slots := 0, locals := 20 } : Room) s m args below meth c H locs 0 0 Q (F0 m 12 ls []) := by
    intro nf
    induction nf with
    | zero => intro k  hvL1 hFL1; omega
    | succ nf ihL1 =>
      intro k  hvL1 hFL1  H locs ls hP hD hS hl
      refine lv_iload hx hb dX5_onPath_12 (lv_at hl 4 rfl) ?_
      refine lv_iload_n hx hb dX5_onPath_14 rfl (lv_at hl 2 rfl) ?_
      refine k_icmp_ge (tgt := 30) hx hb (by omega) (by omega) dX5_onPath_15 (by decide) (fun c1 => ?_) (fun c1 => ?_)
      · skip
        obtain rfl : up = k := by omega
        refine lv_iload_n hx hb dX5_onPath_30 rfl (lv_at hl 3 rfl) ?_
        exact k_reti () hx hb hr hK hS hlk dX5_onPath_31 hP hD (by exact rfl) hQ
      · skip
        have hps := path_st32 l0 hl0 k (by omega)
        have hpb : pathB 32 l0 k < 63 := pathB_lt tp1 hl0
        refine lv_iload_n hx hb dX5_onPath_18 rfl (lv_at hl 3 rfl) ?_
        refine lv_iconst (v := nI 1) hx hb dX5_onPath_19 (by decide) ?_
        refine lv_isub hx hb dX5_onPath_20 ?_
        refine k_t1 (show (nI (pathB 32 l0 k)) - (nI 1) = nI (pathB 32 l0 k - 1) from pk_sub hps.1) ?_
        refine lv_iconst (v := nI 2) hx hb dX5_onPath_21 (by decide) ?_
        refine lv_idiv hx hb dX5_onPath_22 (by decide) ?_
        refine k_t1 (show (nI (pathB 32 l0 k - 1)) / (nI 2) = nI (pathB 32 l0 (k + 1)) from (pk_div (by omega) (by omega) (by omega)).trans (congrArg nI hps.2)) ?_
        refine lv_istore_n (lv' := [(3, .int (nI (pathB 32 l0 (k + 1)))), (0, .int (nI 1)), (1, .int (nI l0)), (2, .int (nI up)), (4, .int (nI k))]) hx hb dX5_onPath_23 rfl hl (by decide) rfl (fun ls hl => ?_)
        refine lv_iinc (v := nI (k + 1)) (lv' := [(4, .int (nI (k + 1))), (3, .int (nI (pathB 32 l0 (k + 1)))), (0, .int (nI 1)), (1, .int (nI l0)), (2, .int (nI up))]) hx hb dX5_onPath_24 hl (k := 4) rfl (nI_add k 1) (by decide) rfl (fun ls hl => ?_)
        refine lv_goto (tgt := 12) hx hb dX5_onPath_27 (by decide) ?_
        exact ihL1 (k + 1)  (by omega) (by omega)  _ _ _ hP hD hS (lv_sub hl [2, 3, 4, 1, 0] rfl)
  exact L1 (up + 1) 0  (by omega) (by omega)  _ _ _ hP hD hS (lv_sub hl [2, 3, 4, 1, 0] rfl)

set_option maxHeartbeats 800000 in
set_option maxRecDepth 100000 in
theorem c_m_passes1_y (l : Launch) (D : va_G) (cI cZ cJ : ClassId)  (l0 b : Nat) (hl0 : l0 < 32) (hb0 : b < 63) (u0 : Nat) (hu : u0 < 6) (he : pathB 32 l0 u0 = b) (hne : ∀ j, j < u0 → pathB 32 l0 j ≠ b) : KI l yX5_passes wsX5_passes ({ frames := 2, cells := 0, slots := 0, locals := 44 }) D (kty cI cZ cJ) [.int (nI 1), .int (nI l0), .int (nI b)] (wN cI cZ cJ ) (fun r (_ : Unit) => r = 1) (fun _ : Unit => (wN cI cZ cJ )) 0 0 := by
  refine k_headI (cc := cX5_passes) (maxL := 4) (ret := (some .boolean)) (by decide) rfl (Nat.le_of_ble_eq_true rfl) ?_
  intro p e s m below meth c A ls args Q hx hb hr hml hts hown hlk hnm hA hK hP hD hS hl hQ
  have hl : lv_has ls 4 [(0, .int (nI 1)), (1, .int (nI l0)), (2, .int (nI b))] := hl
  refine lv_iconst (v := nI 0) hx hb dX5_passes_0 (by decide) ?_
  refine lv_istore_n (lv' := [(3, .int (nI 0)), (0, .int (nI 1)), (1, .int (nI l0)), (2, .int (nI b))]) hx hb dX5_passes_1 rfl hl (by decide) rfl (fun ls hl => ?_)
  have L1 : ∀ (nf k : Nat) (hvL1 : k ≤ u0) (hFL1 : u0 - k < nf) (H : Heap) (locs : List Loc) (ls : Array Slot), va_P D vwCl (wN cI cZ cJ ) H → va_D A (wN cI cZ cJ ) → va_S A s.heap H locs → lv_has ls 4 [(0, .int (nI 1)), (1, .int (nI l0)), (2, .int (nI b)), (3, .int (nI k))] → W p l e ({ frames := 2, cells := 0, slots := 0, locals := 44 } : Room) s m args below meth c H locs 0 0 Q (F0 m 2 ls []) := by
    intro nf
    induction nf with
    | zero => intro k  hvL1 hFL1; omega
    | succ nf ihL1 =>
      intro k  hvL1 hFL1  H locs ls hP hD hS hl
      refine lv_iload_n hx hb dX5_passes_2 rfl (lv_at hl 3 rfl) ?_
      refine lv_iload_n hx hb dX5_passes_3 rfl (lv_at hl 0 rfl) ?_
      refine k_si (As := [.int (nI 1)]) (rest := [.int (nI k)]) (w2 := fun u : Unit => (wN cI cZ cJ )) ⟨hx, hb, hml, hown, hts⟩ (c_m_levels1 l D cI cZ cJ  ) (va_cwS 1 hts gX5_passes_X5_levels rfl rfl rfl (by decide +kernel) ⟨Nat.le_of_ble_eq_true rfl, Nat.le_of_ble_eq_true rfl⟩) hP hD hK hS hA [] [] [] rfl rfl (by decide) (fun u => rfl) rfl hl.1 rfl (Nat.le_of_ble_eq_true rfl) dX5_passes_4 ⟨Nat.le_of_ble_eq_true rfl, Nat.le_of_ble_eq_true rfl⟩ (fun r u H locs hu1 hP hD hS => ?_)
      refine k_t1 (show r = nI 6 from hu1) ?_
      refine k_icmp_ge (tgt := 28) hx hb (by omega) (by omega) dX5_passes_7 (by decide) (fun c1 => ?_) (fun c1 => ?_)
      · skip
        omega
      · skip
        refine lv_iload_n hx hb dX5_passes_10 rfl (lv_at hl 0 rfl) ?_
        refine lv_iload_n hx hb dX5_passes_11 rfl (lv_at hl 1 rfl) ?_
        refine lv_iload_n hx hb dX5_passes_12 rfl (lv_at hl 3 rfl) ?_
        refine k_si (As := [.int (nI 1), .int (nI l0), .int (nI k)]) (rest := []) (w2 := fun u : Unit => (wN cI cZ cJ )) ⟨hx, hb, hml, hown, hts⟩ (c_m_onPath1 l D cI cZ cJ  l0 k hl0 c1) (va_cwS 3 hts gX5_passes_X5_onPath rfl rfl rfl (by decide +kernel) ⟨Nat.le_of_ble_eq_true rfl, Nat.le_of_ble_eq_true rfl⟩) hP hD hK hS hA [] [] [] rfl rfl (by decide) (fun u => rfl) rfl hl.1 rfl (Nat.le_of_ble_eq_true rfl) dX5_passes_13 ⟨Nat.le_of_ble_eq_true rfl, Nat.le_of_ble_eq_true rfl⟩ (fun r u H locs hu2 hP hD hS => ?_)
        refine k_t1 (show r = nI (pathB 32 l0 k) from hu2) ?_
        have hpb : pathB 32 l0 k < 63 := pathB_lt tp1 hl0
        refine lv_iload_n hx hb dX5_passes_16 rfl (lv_at hl 2 rfl) ?_
        refine k_icmp_ne (tgt := 22) hx hb (by omega) (by omega) dX5_passes_17 (by decide) (fun c2 => ?_) (fun c2 => ?_)
        · skip
          by_cases hku : k = u0
          · subst hku; exact absurd he c2
          · skip
            refine lv_iinc (v := nI (k + 1)) (lv' := [(3, .int (nI (k + 1))), (0, .int (nI 1)), (1, .int (nI l0)), (2, .int (nI b))]) hx hb dX5_passes_22 hl (k := 3) rfl (nI_add k 1) (by decide) rfl (fun ls hl => ?_)
            refine lv_goto (tgt := 2) hx hb dX5_passes_25 (by decide) ?_
            exact ihL1 (k + 1)  (by omega) (by omega)  _ _ _ hP hD hS (lv_sub hl [1, 2, 3, 0] rfl)
        · skip
          refine lv_iconst (v := nI 1) hx hb dX5_passes_20 (by decide) ?_
          exact k_retz () hx hb hr hK hS hlk dX5_passes_21 ((by first | exact Or.inl rfl | exact Or.inr rfl)) hP hD (by exact rfl) hQ
  exact L1 (u0 + 1) 0  (by omega) (by omega)  _ _ _ hP hD hS (lv_sub hl [1, 2, 3, 0] rfl)

set_option maxHeartbeats 800000 in
set_option maxRecDepth 100000 in
theorem c_m_passes1_n (l : Launch) (D : va_G) (cI cZ cJ : ClassId)  (l0 b : Nat) (hl0 : l0 < 32) (hb0 : b < 63) (hne : ∀ j, j < 6 → pathB 32 l0 j ≠ b) : KI l yX5_passes wsX5_passes ({ frames := 2, cells := 0, slots := 0, locals := 44 }) D (kty cI cZ cJ) [.int (nI 1), .int (nI l0), .int (nI b)] (wN cI cZ cJ ) (fun r (_ : Unit) => r = 0) (fun _ : Unit => (wN cI cZ cJ )) 0 0 := by
  refine k_headI (cc := cX5_passes) (maxL := 4) (ret := (some .boolean)) (by decide) rfl (Nat.le_of_ble_eq_true rfl) ?_
  intro p e s m below meth c A ls args Q hx hb hr hml hts hown hlk hnm hA hK hP hD hS hl hQ
  have hl : lv_has ls 4 [(0, .int (nI 1)), (1, .int (nI l0)), (2, .int (nI b))] := hl
  refine lv_iconst (v := nI 0) hx hb dX5_passes_0 (by decide) ?_
  refine lv_istore_n (lv' := [(3, .int (nI 0)), (0, .int (nI 1)), (1, .int (nI l0)), (2, .int (nI b))]) hx hb dX5_passes_1 rfl hl (by decide) rfl (fun ls hl => ?_)
  have L1 : ∀ (nf k : Nat) (hvL1 : k ≤ 6) (hFL1 : 6 - k < nf) (H : Heap) (locs : List Loc) (ls : Array Slot), va_P D vwCl (wN cI cZ cJ ) H → va_D A (wN cI cZ cJ ) → va_S A s.heap H locs → lv_has ls 4 [(0, .int (nI 1)), (1, .int (nI l0)), (2, .int (nI b)), (3, .int (nI k))] → W p l e ({ frames := 2, cells := 0, slots := 0, locals := 44 } : Room) s m args below meth c H locs 0 0 Q (F0 m 2 ls []) := by
    intro nf
    induction nf with
    | zero => intro k  hvL1 hFL1; omega
    | succ nf ihL1 =>
      intro k  hvL1 hFL1  H locs ls hP hD hS hl
      refine lv_iload_n hx hb dX5_passes_2 rfl (lv_at hl 3 rfl) ?_
      refine lv_iload_n hx hb dX5_passes_3 rfl (lv_at hl 0 rfl) ?_
      refine k_si (As := [.int (nI 1)]) (rest := [.int (nI k)]) (w2 := fun u : Unit => (wN cI cZ cJ )) ⟨hx, hb, hml, hown, hts⟩ (c_m_levels1 l D cI cZ cJ  ) (va_cwS 1 hts gX5_passes_X5_levels rfl rfl rfl (by decide +kernel) ⟨Nat.le_of_ble_eq_true rfl, Nat.le_of_ble_eq_true rfl⟩) hP hD hK hS hA [] [] [] rfl rfl (by decide) (fun u => rfl) rfl hl.1 rfl (Nat.le_of_ble_eq_true rfl) dX5_passes_4 ⟨Nat.le_of_ble_eq_true rfl, Nat.le_of_ble_eq_true rfl⟩ (fun r u H locs hu1 hP hD hS => ?_)
      refine k_t1 (show r = nI 6 from hu1) ?_
      refine k_icmp_ge (tgt := 28) hx hb (by omega) (by omega) dX5_passes_7 (by decide) (fun c1 => ?_) (fun c1 => ?_)
      · skip
        refine lv_iconst (v := nI 0) hx hb dX5_passes_28 (by decide) ?_
        exact k_retz () hx hb hr hK hS hlk dX5_passes_29 ((by first | exact Or.inl rfl | exact Or.inr rfl)) hP hD (by exact rfl) hQ
      · skip
        refine lv_iload_n hx hb dX5_passes_10 rfl (lv_at hl 0 rfl) ?_
        refine lv_iload_n hx hb dX5_passes_11 rfl (lv_at hl 1 rfl) ?_
        refine lv_iload_n hx hb dX5_passes_12 rfl (lv_at hl 3 rfl) ?_
        refine k_si (As := [.int (nI 1), .int (nI l0), .int (nI k)]) (rest := []) (w2 := fun u : Unit => (wN cI cZ cJ )) ⟨hx, hb, hml, hown, hts⟩ (c_m_onPath1 l D cI cZ cJ  l0 k hl0 c1) (va_cwS 3 hts gX5_passes_X5_onPath rfl rfl rfl (by decide +kernel) ⟨Nat.le_of_ble_eq_true rfl, Nat.le_of_ble_eq_true rfl⟩) hP hD hK hS hA [] [] [] rfl rfl (by decide) (fun u => rfl) rfl hl.1 rfl (Nat.le_of_ble_eq_true rfl) dX5_passes_13 ⟨Nat.le_of_ble_eq_true rfl, Nat.le_of_ble_eq_true rfl⟩ (fun r u H locs hu2 hP hD hS => ?_)
        refine k_t1 (show r = nI (pathB 32 l0 k) from hu2) ?_
        have hpb : pathB 32 l0 k < 63 := pathB_lt tp1 hl0
        refine lv_iload_n hx hb dX5_passes_16 rfl (lv_at hl 2 rfl) ?_
        refine k_icmp_ne (tgt := 22) hx hb (by omega) (by omega) dX5_passes_17 (by decide) (fun c2 => ?_) (fun c2 => ?_)
        · skip
          refine lv_iinc (v := nI (k + 1)) (lv' := [(3, .int (nI (k + 1))), (0, .int (nI 1)), (1, .int (nI l0)), (2, .int (nI b))]) hx hb dX5_passes_22 hl (k := 3) rfl (nI_add k 1) (by decide) rfl (fun ls hl => ?_)
          refine lv_goto (tgt := 2) hx hb dX5_passes_25 (by decide) ?_
          exact ihL1 (k + 1)  (by omega) (by omega)  _ _ _ hP hD hS (lv_sub hl [1, 2, 3, 0] rfl)
        · skip
          exact absurd c2 (hne k c1)
  exact L1 (6 + 1) 0  (by omega) (by omega)  _ _ _ hP hD hS (lv_sub hl [1, 2, 3, 0] rfl)

set_option maxHeartbeats 800000 in
set_option maxRecDepth 100000 in
theorem c_m_thrown (l : Launch) (D : va_G) (cI cZ cJ : ClassId) (mo : Nat) (se : Nat) (co : Nat) (ou : Nat) (le : Nat) (wo : Nat) (ma : Nat) (pl : Nat) (tl : Nat) (tm : Nat) (th : Nat) (na : Nat) (si : Nat) (pa : Nat) (ta : Nat) (thr : Int32) (G : Int32) (ky : Int32) (DE : Int32) (cn : Nat) (got : Int32) (S0 : Nat → Nat → Int32) (C0 : Nat → Int32) (O0 : Nat → Int32) (L0 : Nat → Int32) (W0 : Nat → Nat → Int32) (S1 : Nat → Nat → Int32) (C1 : Nat → Int32) (O1 : Nat → Int32) (L1 : Nat → Int32) (W1 : Nat → Nat → Int32) (MP : Nat → Nat) (PL : Nat → Int32) (ML : Nat → Int32) (DL : Nat → Int32) (TH : Nat → Int32) (NM : Nat → Int64) (SZ : Nat → Nat) (PT : Nat → Nat) (TK : Nat → Int32)   : KI l yX5_thrown wsX5_thrown ({ frames := 0, cells := 0, slots := 0, locals := 0 }) D (kty cI cZ cJ) [.ref mo] (wM cI cZ cJ mo se co ou le wo ma pl tl tm th na si pa ta thr G ky DE cn got S0 C0 O0 L0 W0 S1 C1 O1 L1 W1 MP PL ML DL TH NM SZ PT TK) (fun r (_ : Unit) => r = thr) (fun _ : Unit => (wM cI cZ cJ mo se co ou le wo ma pl tl tm th na si pa ta thr G ky DE cn got S0 C0 O0 L0 W0 S1 C1 O1 L1 W1 MP PL ML DL TH NM SZ PT TK)) 0 0 := by
  refine k_headI (cc := cX5_thrown) (maxL := 1) (ret := (some .int)) (by decide) rfl (Nat.le_of_ble_eq_true rfl) ?_
  intro p e s m below meth c A ls args Q hx hb hr hml hts hown hlk hnm hA hK hP hD hS hl hQ
  have hl : lv_has ls 1 [(0, .ref mo)] := hl
  refine lv_aload_n hx hb dX5_thrown_0 rfl (lv_at hl 0 rfl) ?_
  refine va_get (D := D) (ci := 5) (v := .int thr) (C := RX5) (T := TX5) (N := 20) hx hb hts (by decide +kernel) hown hK hP 0 rfl rfl 0 (by decide) (hts (.fieldLink RX5 58 "VeiledFilesModel" "thrown" "I") (by decide +kernel)) (fun _ h9 => h9) rfl dX5_thrown_1 ?_
  exact k_reti () hx hb hr hK hS hlk dX5_thrown_4 hP hD (by exact rfl) hQ

set_option maxHeartbeats 800000 in
set_option maxRecDepth 100000 in
theorem c_m_raise (l : Launch) (D : va_G) (cI cZ cJ : ClassId) (mo : Nat) (se : Nat) (co : Nat) (ou : Nat) (le : Nat) (wo : Nat) (ma : Nat) (pl : Nat) (tl : Nat) (tm : Nat) (th : Nat) (na : Nat) (si : Nat) (pa : Nat) (ta : Nat) (thr : Int32) (G : Int32) (ky : Int32) (DE : Int32) (cn : Nat) (got : Int32) (S0 : Nat → Nat → Int32) (C0 : Nat → Int32) (O0 : Nat → Int32) (L0 : Nat → Int32) (W0 : Nat → Nat → Int32) (S1 : Nat → Nat → Int32) (C1 : Nat → Int32) (O1 : Nat → Int32) (L1 : Nat → Int32) (W1 : Nat → Nat → Int32) (MP : Nat → Nat) (PL : Nat → Int32) (ML : Nat → Int32) (DL : Nat → Int32) (TH : Nat → Int32) (NM : Nat → Int64) (SZ : Nat → Nat) (PT : Nat → Nat) (TK : Nat → Int32) (x : Int32)  : KI l yX5_raise wsX5_raise ({ frames := 0, cells := 0, slots := 0, locals := 0 }) D (kty cI cZ cJ) [.ref mo, .int x] (wM cI cZ cJ mo se co ou le wo ma pl tl tm th na si pa ta thr G ky DE cn got S0 C0 O0 L0 W0 S1 C1 O1 L1 W1 MP PL ML DL TH NM SZ PT TK) (fun r (_ : Unit) => r = 0) (fun _ : Unit => (wM cI cZ cJ mo se co ou le wo ma pl tl tm th na si pa ta x G ky DE cn got S0 C0 O0 L0 W0 S1 C1 O1 L1 W1 MP PL ML DL TH NM SZ PT TK)) 0 0 := by
  refine k_headI (cc := cX5_raise) (maxL := 2) (ret := (some .int)) (by decide) rfl (Nat.le_of_ble_eq_true rfl) ?_
  intro p e s m below meth c A ls args Q hx hb hr hml hts hown hlk hnm hA hK hP hD hS hl hQ
  have hl : lv_has ls 2 [(0, .ref mo), (1, .int x)] := hl
  refine lv_aload_n hx hb dX5_raise_0 rfl (lv_at hl 0 rfl) ?_
  refine lv_iload_n hx hb dX5_raise_1 rfl (lv_at hl 1 rfl) ?_
  refine va_put (D := D) (ci := 5) (v := .int x) (ty := .int) (C := RX5) (T := TX5) (N := 20) hx hb hts (by decide +kernel) tyX5 tyX5_ok nmX5 hown hK hP hD hS 0 rfl rfl 0 (by decide) (hts (.fieldLink RX5 58 "VeiledFilesModel" "thrown" "I") (by decide +kernel)) (fun _ h9 => h9) rfl (by decide +kernel) rfl rfl (Nat.le_of_ble_eq_true rfl) dX5_raise_2 (fun H locs hP hD hS => ?_)
  have hP : va_P D vwCl (wM cI cZ cJ mo se co ou le wo ma pl tl tm th na si pa ta x G ky DE cn got S0 C0 O0 L0 W0 S1 C1 O1 L1 W1 MP PL ML DL TH NM SZ PT TK) _ := hP
  have hD : va_D A (wM cI cZ cJ mo se co ou le wo ma pl tl tm th na si pa ta x G ky DE cn got S0 C0 O0 L0 W0 S1 C1 O1 L1 W1 MP PL ML DL TH NM SZ PT TK) := hD
  refine lv_iconst (v := nI 0) hx hb dX5_raise_5 (by decide) ?_
  exact k_reti () hx hb hr hK hS hlk dX5_raise_6 hP hD (by exact rfl) hQ

set_option maxHeartbeats 800000 in
set_option maxRecDepth 100000 in
theorem c_m_draw (l : Launch) (D : va_G) (cI cZ cJ : ClassId) (mo : Nat) (se : Nat) (co : Nat) (ou : Nat) (le : Nat) (wo : Nat) (ma : Nat) (pl : Nat) (tl : Nat) (tm : Nat) (th : Nat) (na : Nat) (si : Nat) (pa : Nat) (ta : Nat) (thr : Int32) (G : Int32) (ky : Int32) (DE : Int32) (cn : Nat) (got : Int32) (S0 : Nat → Nat → Int32) (C0 : Nat → Int32) (O0 : Nat → Int32) (L0 : Nat → Int32) (W0 : Nat → Nat → Int32) (S1 : Nat → Nat → Int32) (C1 : Nat → Int32) (O1 : Nat → Int32) (L1 : Nat → Int32) (W1 : Nat → Nat → Int32) (MP : Nat → Nat) (PL : Nat → Int32) (ML : Nat → Int32) (DL : Nat → Int32) (TH : Nat → Int32) (NM : Nat → Int64) (SZ : Nat → Nat) (PT : Nat → Nat) (TK : Nat → Int32) (n : Nat) (hn : 1 ≤ n ∧ n ≤ 31) : KI l yX5_draw wsX5_draw ({ frames := 0, cells := 0, slots := 0, locals := 0 }) D (kty cI cZ cJ) [.ref mo, .int (nI n)] (wM cI cZ cJ mo se co ou le wo ma pl tl tm th na si pa ta thr G ky DE cn got S0 C0 O0 L0 W0 S1 C1 O1 L1 W1 MP PL ML DL TH NM SZ PT TK) (fun r (_ : Unit) => r = nI (drw n G)) (fun _ : Unit => (wM cI cZ cJ mo se co ou le wo ma pl tl tm th na si pa ta thr (dstep G) ky DE cn got S0 C0 O0 L0 W0 S1 C1 O1 L1 W1 MP PL ML DL TH NM SZ PT TK)) 0 0 := by
  refine k_headI (cc := cX5_draw) (maxL := 2) (ret := (some .int)) (by decide) rfl (Nat.le_of_ble_eq_true rfl) ?_
  intro p e s m below meth c A ls args Q hx hb hr hml hts hown hlk hnm hA hK hP hD hS hl hQ
  have hl : lv_has ls 2 [(0, .ref mo), (1, .int (nI n))] := hl
  refine lv_aload_n hx hb dX5_draw_0 rfl (lv_at hl 0 rfl) ?_
  refine lv_dup hx hb dX5_draw_1 rfl ?_
  refine va_get (D := D) (ci := 5) (v := .int G) (C := RX5) (T := TX5) (N := 20) hx hb hts (by decide +kernel) hown hK hP 0 rfl rfl 1 (by decide) (hts (.fieldLink RX5 62 "VeiledFilesModel" "word" "I") (by decide +kernel)) (fun _ h9 => h9) rfl dX5_draw_2 ?_
  refine lv_aload_n hx hb dX5_draw_5 rfl (lv_at hl 0 rfl) ?_
  refine va_get (D := D) (ci := 5) (v := .int G) (C := RX5) (T := TX5) (N := 20) hx hb hts (by decide +kernel) hown hK hP 0 rfl rfl 1 (by decide) (hts (.fieldLink RX5 62 "VeiledFilesModel" "word" "I") (by decide +kernel)) (fun _ h9 => h9) rfl dX5_draw_6 ?_
  refine lv_bipush (v := nI 13) hx hb dX5_draw_9 (by decide) ?_
  refine lv_ishl hx hb dX5_draw_11 ?_
  refine lv_ixor hx hb dX5_draw_12 ?_
  refine va_put (D := D) (ci := 5) (v := .int (G ^^^ (G <<< ((nI 13) &&& 31)))) (ty := .int) (C := RX5) (T := TX5) (N := 20) hx hb hts (by decide +kernel) tyX5 tyX5_ok nmX5 hown hK hP hD hS 0 rfl rfl 1 (by decide) (hts (.fieldLink RX5 62 "VeiledFilesModel" "word" "I") (by decide +kernel)) (fun _ h9 => h9) rfl (by decide +kernel) rfl rfl (Nat.le_of_ble_eq_true rfl) dX5_draw_13 (fun H locs hP hD hS => ?_)
  have hP : va_P D vwCl (wM cI cZ cJ mo se co ou le wo ma pl tl tm th na si pa ta thr (G ^^^ (G <<< ((nI 13) &&& 31))) ky DE cn got S0 C0 O0 L0 W0 S1 C1 O1 L1 W1 MP PL ML DL TH NM SZ PT TK) _ := hP
  have hD : va_D A (wM cI cZ cJ mo se co ou le wo ma pl tl tm th na si pa ta thr (G ^^^ (G <<< ((nI 13) &&& 31))) ky DE cn got S0 C0 O0 L0 W0 S1 C1 O1 L1 W1 MP PL ML DL TH NM SZ PT TK) := hD
  refine lv_aload_n hx hb dX5_draw_16 rfl (lv_at hl 0 rfl) ?_
  refine lv_dup hx hb dX5_draw_17 rfl ?_
  refine va_get (D := D) (ci := 5) (v := .int (G ^^^ (G <<< ((nI 13) &&& 31)))) (C := RX5) (T := TX5) (N := 20) hx hb hts (by decide +kernel) hown hK hP 0 rfl rfl 1 (by decide) (hts (.fieldLink RX5 62 "VeiledFilesModel" "word" "I") (by decide +kernel)) (fun _ h9 => h9) rfl dX5_draw_18 ?_
  refine lv_aload_n hx hb dX5_draw_21 rfl (lv_at hl 0 rfl) ?_
  refine va_get (D := D) (ci := 5) (v := .int (G ^^^ (G <<< ((nI 13) &&& 31)))) (C := RX5) (T := TX5) (N := 20) hx hb hts (by decide +kernel) hown hK hP 0 rfl rfl 1 (by decide) (hts (.fieldLink RX5 62 "VeiledFilesModel" "word" "I") (by decide +kernel)) (fun _ h9 => h9) rfl dX5_draw_22 ?_
  refine lv_bipush (v := nI 17) hx hb dX5_draw_25 (by decide) ?_
  refine lv_iushr (v := ush (G ^^^ (G <<< ((nI 13) &&& 31))) (nI 17)) hx hb dX5_draw_27 rfl ?_
  refine lv_ixor hx hb dX5_draw_28 ?_
  refine va_put (D := D) (ci := 5) (v := .int ((G ^^^ (G <<< ((nI 13) &&& 31))) ^^^ (ush (G ^^^ (G <<< ((nI 13) &&& 31))) (nI 17)))) (ty := .int) (C := RX5) (T := TX5) (N := 20) hx hb hts (by decide +kernel) tyX5 tyX5_ok nmX5 hown hK hP hD hS 0 rfl rfl 1 (by decide) (hts (.fieldLink RX5 62 "VeiledFilesModel" "word" "I") (by decide +kernel)) (fun _ h9 => h9) rfl (by decide +kernel) rfl rfl (Nat.le_of_ble_eq_true rfl) dX5_draw_29 (fun H locs hP hD hS => ?_)
  have hP : va_P D vwCl (wM cI cZ cJ mo se co ou le wo ma pl tl tm th na si pa ta thr ((G ^^^ (G <<< ((nI 13) &&& 31))) ^^^ (ush (G ^^^ (G <<< ((nI 13) &&& 31))) (nI 17))) ky DE cn got S0 C0 O0 L0 W0 S1 C1 O1 L1 W1 MP PL ML DL TH NM SZ PT TK) _ := hP
  have hD : va_D A (wM cI cZ cJ mo se co ou le wo ma pl tl tm th na si pa ta thr ((G ^^^ (G <<< ((nI 13) &&& 31))) ^^^ (ush (G ^^^ (G <<< ((nI 13) &&& 31))) (nI 17))) ky DE cn got S0 C0 O0 L0 W0 S1 C1 O1 L1 W1 MP PL ML DL TH NM SZ PT TK) := hD
  refine lv_aload_n hx hb dX5_draw_32 rfl (lv_at hl 0 rfl) ?_
  refine lv_dup hx hb dX5_draw_33 rfl ?_
  refine va_get (D := D) (ci := 5) (v := .int ((G ^^^ (G <<< ((nI 13) &&& 31))) ^^^ (ush (G ^^^ (G <<< ((nI 13) &&& 31))) (nI 17)))) (C := RX5) (T := TX5) (N := 20) hx hb hts (by decide +kernel) hown hK hP 0 rfl rfl 1 (by decide) (hts (.fieldLink RX5 62 "VeiledFilesModel" "word" "I") (by decide +kernel)) (fun _ h9 => h9) rfl dX5_draw_34 ?_
  refine lv_aload_n hx hb dX5_draw_37 rfl (lv_at hl 0 rfl) ?_
  refine va_get (D := D) (ci := 5) (v := .int ((G ^^^ (G <<< ((nI 13) &&& 31))) ^^^ (ush (G ^^^ (G <<< ((nI 13) &&& 31))) (nI 17)))) (C := RX5) (T := TX5) (N := 20) hx hb hts (by decide +kernel) hown hK hP 0 rfl rfl 1 (by decide) (hts (.fieldLink RX5 62 "VeiledFilesModel" "word" "I") (by decide +kernel)) (fun _ h9 => h9) rfl dX5_draw_38 ?_
  refine lv_iconst (v := nI 5) hx hb dX5_draw_41 (by decide) ?_
  refine lv_ishl hx hb dX5_draw_42 ?_
  refine lv_ixor hx hb dX5_draw_43 ?_
  refine va_put (D := D) (ci := 5) (v := .int (((G ^^^ (G <<< ((nI 13) &&& 31))) ^^^ (ush (G ^^^ (G <<< ((nI 13) &&& 31))) (nI 17))) ^^^ (((G ^^^ (G <<< ((nI 13) &&& 31))) ^^^ (ush (G ^^^ (G <<< ((nI 13) &&& 31))) (nI 17))) <<< ((nI 5) &&& 31)))) (ty := .int) (C := RX5) (T := TX5) (N := 20) hx hb hts (by decide +kernel) tyX5 tyX5_ok nmX5 hown hK hP hD hS 0 rfl rfl 1 (by decide) (hts (.fieldLink RX5 62 "VeiledFilesModel" "word" "I") (by decide +kernel)) (fun _ h9 => h9) rfl (by decide +kernel) rfl rfl (Nat.le_of_ble_eq_true rfl) dX5_draw_44 (fun H locs hP hD hS => ?_)
  have hP : va_P D vwCl (wM cI cZ cJ mo se co ou le wo ma pl tl tm th na si pa ta thr (((G ^^^ (G <<< ((nI 13) &&& 31))) ^^^ (ush (G ^^^ (G <<< ((nI 13) &&& 31))) (nI 17))) ^^^ (((G ^^^ (G <<< ((nI 13) &&& 31))) ^^^ (ush (G ^^^ (G <<< ((nI 13) &&& 31))) (nI 17))) <<< ((nI 5) &&& 31))) ky DE cn got S0 C0 O0 L0 W0 S1 C1 O1 L1 W1 MP PL ML DL TH NM SZ PT TK) _ := hP
  have hD : va_D A (wM cI cZ cJ mo se co ou le wo ma pl tl tm th na si pa ta thr (((G ^^^ (G <<< ((nI 13) &&& 31))) ^^^ (ush (G ^^^ (G <<< ((nI 13) &&& 31))) (nI 17))) ^^^ (((G ^^^ (G <<< ((nI 13) &&& 31))) ^^^ (ush (G ^^^ (G <<< ((nI 13) &&& 31))) (nI 17))) <<< ((nI 5) &&& 31))) ky DE cn got S0 C0 O0 L0 W0 S1 C1 O1 L1 W1 MP PL ML DL TH NM SZ PT TK) := hD
  have hE1 : (wM cI cZ cJ mo se co ou le wo ma pl tl tm th na si pa ta thr (((G ^^^ (G <<< ((nI 13) &&& 31))) ^^^ (ush (G ^^^ (G <<< ((nI 13) &&& 31))) (nI 17))) ^^^ (((G ^^^ (G <<< ((nI 13) &&& 31))) ^^^ (ush (G ^^^ (G <<< ((nI 13) &&& 31))) (nI 17))) <<< ((nI 5) &&& 31))) ky DE cn got S0 C0 O0 L0 W0 S1 C1 O1 L1 W1 MP PL ML DL TH NM SZ PT TK) = (wM cI cZ cJ mo se co ou le wo ma pl tl tm th na si pa ta thr (dstep G) ky DE cn got S0 C0 O0 L0 W0 S1 C1 O1 L1 W1 MP PL ML DL TH NM SZ PT TK) := rfl
  rw [hE1] at hP hD
  refine lv_aload_n hx hb dX5_draw_47 rfl (lv_at hl 0 rfl) ?_
  refine va_get (D := D) (ci := 5) (v := .int (dstep G)) (C := RX5) (T := TX5) (N := 20) hx hb hts (by decide +kernel) hown hK hP 0 rfl rfl 1 (by decide) (hts (.fieldLink RX5 62 "VeiledFilesModel" "word" "I") (by decide +kernel)) (fun _ h9 => h9) rfl dX5_draw_48 ?_
  refine lv_bipush (v := nI 32) hx hb dX5_draw_51 (by decide) ?_
  refine lv_iload_n hx hb dX5_draw_53 rfl (lv_at hl 1 rfl) ?_
  refine lv_isub hx hb dX5_draw_54 ?_
  refine k_t1 (show (nI 32) - (nI n) = nI (32 - n) from pk_sub (by omega)) ?_
  refine lv_iushr (v := ush (dstep G) (nI (32 - n))) hx hb dX5_draw_55 rfl ?_
  refine k_t1 (show ush (dstep G) (nI (32 - n)) = nI (drw n G) from ush_nI _ (by omega)) ?_
  exact k_reti () hx hb hr hK hS hlk dX5_draw_56 hP hD (by exact rfl) hQ

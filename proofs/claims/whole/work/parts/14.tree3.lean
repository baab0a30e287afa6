set_option maxHeartbeats 800000 in
set_option maxRecDepth 100000 in
theorem c_unload (l : Launch) (D : va_G) (cI cZ cJ : ClassId) (t : Nat) (st : Nat) (ct : Nat) (hd : Nat) (lv : Nat) (wd : Nat) (num : Int32) (lc : Nat) (lvs : Nat) (nb : Nat) (nk : Nat) (key : Int32) (S : Nat → Nat → Int32) (C : Nat → Int32) (O : Nat → Int32) (L : Nat → Int32) (Wd : Nat → Nat → Int32) (b : Nat) (hT : TP lc lvs nb nk) (hb0 : b < nb) : KV l yX3_unload wsX3_unload ({ frames := 2, cells := 0, slots := 0, locals := 46 }) D (kty cI cZ cJ) [.ref t, .int (nI b)] (wT cI cZ cJ t st ct hd lv wd num lc lvs nb nk key S C O L Wd) (fun (_ : Unit) => True) (fun _ : Unit => (wT cI cZ cJ t st ct hd lv wd num lc lvs nb nk key (setRow S b zrow) C (opO nk (decR key num C S b) O 4) (opL nk (decR key num C S b) L 4) (opW nk (decR key num C S b) Wd 4))) 0 0 := by
  refine k_headV (cc := cX3_unload) (maxL := 4) (ret := none) (by decide) rfl (Nat.le_of_ble_eq_true rfl) ?_
  intro p e s m below meth c A ls args Q hx hb hr hml hts hown hlk hnm hA hK hP hD hS hl hQ
  have hq := hT.bd
  have hl : lv_has ls 4 [(0, .ref t), (1, .int (nI b))] := hl
  refine lv_aload_n hx hb dX3_unload_0 rfl (lv_at hl 0 rfl) ?_
  refine lv_iload_n hx hb dX3_unload_1 rfl (lv_at hl 1 rfl) ?_
  refine k_vv (As := [.int (nI b)]) (rest := []) (w2 := fun u : Unit => (wT cI cZ cJ t st ct hd lv wd num lc lvs nb nk key (setRow S b (maskR key num (C b) b (S b) 24)) C O L Wd)) ⟨hx, hb, hml, hown, hts⟩ (c_maskWords l D cI cZ cJ t st ct hd lv wd num lc lvs nb nk key S C O L Wd b hT hb0) (cwV 1 hts gX3_unload_X3_maskWords rfl rfl rfl (by decide +kernel) ⟨Nat.le_of_ble_eq_true rfl, Nat.le_of_ble_eq_true rfl⟩) hP hD hK hS hA [0, 1, 2, 3, 4, 5] [] [0, 1, 2, 3, 4, 5] rfl rfl (by decide) (fun u => rfl) rfl rfl (q0 := 0) rfl rfl hl.1 rfl (Nat.le_of_ble_eq_true rfl) dX3_unload_2 ⟨Nat.le_of_ble_eq_true rfl, Nat.le_of_ble_eq_true rfl⟩ (fun u H locs hu1 hP hD hS => ?_)
  refine lv_iconst (v := nI 0) hx hb dX3_unload_5 (by decide) ?_
  refine lv_istore_n (lv' := [(2, .int (nI 0)), (0, .ref t), (1, .int (nI b))]) hx hb dX3_unload_6 rfl hl (by decide) rfl (fun ls hl => ?_)
  have L1 : ∀ (nf k : Nat) (hvL1 : k ≤ 4) (hFL1 : 4 - k < nf) (H : Heap) (locs : List Loc) (ls : Array Slot), va_P D vwCl (wT cI cZ cJ t st ct hd lv wd num lc lvs nb nk key (setRow S b (maskR key num (C b) b (S b) 24)) C (opO nk (maskR key num (C b) b (S b) 24) O k) (opL nk (maskR key num (C b) b (S b) 24) L k) (opW nk (maskR key num (C b) b (S b) 24) Wd k)) H → va_D A (wT cI cZ cJ t st ct hd lv wd num lc lvs nb nk key (setRow S b (maskR key num (C b) b (S b) 24)) C (opO nk (maskR key num (C b) b (S b) 24) O k) (opL nk (maskR key num (C b) b (S b) 24) L k) (opW nk (maskR key num (C b) b (S b) 24) Wd k)) → va_S A s.heap H locs → lv_has ls 4 [(0, .ref t), (1, .int (nI b)), (2, .int (nI k))] → W p l e ({ frames := 2, cells := 0, slots := 0, locals := 46 } : Room) s m args below meth c H locs 0 0 Q (F0 m 7 ls []) := by
    intro nf
    induction nf with
    | zero => intro k  hvL1 hFL1; omega
    | succ nf ihL1 =>
      intro k  hvL1 hFL1  H locs ls hP hD hS hl
      refine lv_iload_n hx hb dX3_unload_7 rfl (lv_at hl 2 rfl) ?_
      refine lv_iconst (v := nI 4) hx hb dX3_unload_8 (by decide) ?_
      refine k_icmp_ge (tgt := 27) hx hb (by omega) (by omega) dX3_unload_9 (by decide) (fun c1 => ?_) (fun c1 => ?_)
      · skip
        obtain rfl : k = 4 := by omega
        have hE2 : (wT cI cZ cJ t st ct hd lv wd num lc lvs nb nk key (setRow S b (maskR key num (C b) b (S b) 24)) C (opO nk (maskR key num (C b) b (S b) 24) O 4) (opL nk (maskR key num (C b) b (S b) 24) L 4) (opW nk (maskR key num (C b) b (S b) 24) Wd 4)) = (wT cI cZ cJ t st ct hd lv wd num lc lvs nb nk key (setRow S b (maskR key num (C b) b (S b) 24)) C (opO nk (decR key num C S b) O 4) (opL nk (maskR key num (C b) b (S b) 24) L 4) (opW nk (maskR key num (C b) b (S b) 24) Wd 4)) := by rw [opO_congr mask_dec (Nat.le_refl 4)]
        rw [hE2] at hP hD
        have hE3 : (wT cI cZ cJ t st ct hd lv wd num lc lvs nb nk key (setRow S b (maskR key num (C b) b (S b) 24)) C (opO nk (decR key num C S b) O 4) (opL nk (maskR key num (C b) b (S b) 24) L 4) (opW nk (maskR key num (C b) b (S b) 24) Wd 4)) = (wT cI cZ cJ t st ct hd lv wd num lc lvs nb nk key (setRow S b (maskR key num (C b) b (S b) 24)) C (opO nk (decR key num C S b) O 4) (opL nk (decR key num C S b) L 4) (opW nk (maskR key num (C b) b (S b) 24) Wd 4)) := by rw [opL_congr mask_dec (Nat.le_refl 4)]
        rw [hE3] at hP hD
        have hE4 : (wT cI cZ cJ t st ct hd lv wd num lc lvs nb nk key (setRow S b (maskR key num (C b) b (S b) 24)) C (opO nk (decR key num C S b) O 4) (opL nk (decR key num C S b) L 4) (opW nk (maskR key num (C b) b (S b) 24) Wd 4)) = (wT cI cZ cJ t st ct hd lv wd num lc lvs nb nk key (setRow S b (maskR key num (C b) b (S b) 24)) C (opO nk (decR key num C S b) O 4) (opL nk (decR key num C S b) L 4) (opW nk (decR key num C S b) Wd 4)) := by rw [opW_congr mask_dec (Nat.le_refl 4)]
        rw [hE4] at hP hD
        refine lv_iload_n hx hb dX3_unload_27 rfl (lv_at hl 1 rfl) ?_
        refine lv_bipush (v := nI 25) hx hb dX3_unload_28 (by decide) ?_
        refine lv_imul hx hb dX3_unload_30 ?_
        refine k_t1 (show (nI b) * (nI 25) = nI (b * 25) from pk_mul _ _) ?_
        refine lv_istore_n (lv' := [(2, .int (nI (b * 25))), (0, .ref t), (1, .int (nI b))]) hx hb dX3_unload_31 rfl hl (by decide) rfl (fun ls hl => ?_)
        refine lv_iconst (v := nI 0) hx hb dX3_unload_32 (by decide) ?_
        refine lv_istore_n (lv' := [(3, .int (nI 0)), (2, .int (nI (b * 25))), (0, .ref t), (1, .int (nI b))]) hx hb dX3_unload_33 rfl hl (by decide) rfl (fun ls hl => ?_)
        have hE5 : (wT cI cZ cJ t st ct hd lv wd num lc lvs nb nk key (setRow S b (maskR key num (C b) b (S b) 24)) C (opO nk (decR key num C S b) O 4) (opL nk (decR key num C S b) L 4) (opW nk (decR key num C S b) Wd 4)) = (wT cI cZ cJ t st ct hd lv wd num lc lvs nb nk key (setRow S b (zerK (maskR key num (C b) b (S b) 24) 0)) C (opO nk (decR key num C S b) O 4) (opL nk (decR key num C S b) L 4) (opW nk (decR key num C S b) Wd 4)) := by rw [zerK_0]
        rw [hE5] at hP hD
        have L2 : ∀ (nf k : Nat) (hvL2 : k ≤ 25) (hFL2 : 25 - k < nf) (H : Heap) (locs : List Loc) (ls : Array Slot), va_P D vwCl (wT cI cZ cJ t st ct hd lv wd num lc lvs nb nk key (setRow S b (zerK (maskR key num (C b) b (S b) 24) k)) C (opO nk (decR key num C S b) O 4) (opL nk (decR key num C S b) L 4) (opW nk (decR key num C S b) Wd 4)) H → va_D A (wT cI cZ cJ t st ct hd lv wd num lc lvs nb nk key (setRow S b (zerK (maskR key num (C b) b (S b) 24) k)) C (opO nk (decR key num C S b) O 4) (opL nk (decR key num C S b) L 4) (opW nk (decR key num C S b) Wd 4)) → va_S A s.heap H locs → lv_has ls 4 [(0, .ref t), (1, .int (nI b)), (2, .int (nI (b * 25))), (3, .int (nI k))] → W p l e ({ frames := 2, cells := 0, slots := 0, locals := 46 } : Room) s m args below meth c H locs 0 0 Q (F0 m 34 ls []) := by
          intro nf
          induction nf with
          | zero => intro k  hvL2 hFL2; omega
          | succ nf ihL2 =>
            intro k  hvL2 hFL2  H locs ls hP hD hS hl
            refine lv_iload_n hx hb dX3_unload_34 rfl (lv_at hl 3 rfl) ?_
            refine lv_bipush (v := nI 25) hx hb dX3_unload_35 (by decide) ?_
            refine k_icmp_ge (tgt := 55) hx hb (by omega) (by omega) dX3_unload_37 (by decide) (fun c2 => ?_) (fun c2 => ?_)
            · skip
              obtain rfl : k = 25 := by omega
              have hP : va_P D vwCl (wT cI cZ cJ t st ct hd lv wd num lc lvs nb nk key (setRow S b zrow) C (opO nk (decR key num C S b) O 4) (opL nk (decR key num C S b) L 4) (opW nk (decR key num C S b) Wd 4)) H := k_extP (q0 := 1) hP rfl (fun j hj => congrFun fl25_zer j)
              have hD : va_D A (wT cI cZ cJ t st ct hd lv wd num lc lvs nb nk key (setRow S b zrow) C (opO nk (decR key num C S b) O 4) (opL nk (decR key num C S b) L 4) (opW nk (decR key num C S b) Wd 4)) := hD.set (p := 1) rfl
              exact k_retv () hx hb hr hK hS hlk dX3_unload_55 hP hD (trivial) hQ
            · skip
              refine lv_aload_n hx hb dX3_unload_40 rfl (lv_at hl 0 rfl) ?_
              refine va_get (D := D) (ci := 3) (v := .ref st) (C := RX3) (T := TX3) (N := 11) hx hb hts (by decide +kernel) hown hK hP 0 rfl rfl 5 (by decide) (hts (.fieldLink RX3 27 "VeiledFiles$Tree" "store" "[I") (by decide +kernel)) (fun _ h9 => h9) rfl dX3_unload_41 ?_
              refine lv_iload_n hx hb dX3_unload_44 rfl (lv_at hl 2 rfl) ?_
              refine lv_iload_n hx hb dX3_unload_45 rfl (lv_at hl 3 rfl) ?_
              refine lv_iadd hx hb dX3_unload_46 ?_
              refine k_t1 (show (nI (b * 25)) + (nI k) = nI (b * 25 + k) from nI_add _ _) ?_
              refine lv_iconst (v := nI 0) hx hb dX3_unload_47 (by decide) ?_
              refine k_iast hx hb hK hP hD hS 1 0 rfl rfl (b * 25 + k) (by omega) (by omega) (g := fl25 (setRow S b (zerK (maskR key num (C b) b (S b) 24) (k + 1)))) ((fl25_up (b := b) (i := k) (by omega) (by omega)).trans (congrArg fl25 (by rw [setRow_s, setRow_2]; exact congrArg (setRow S b) zerK_s))) dX3_unload_48 (fun H locs hP hD hS => ?_)
              have hP : va_P D vwCl (wT cI cZ cJ t st ct hd lv wd num lc lvs nb nk key (setRow S b (zerK (maskR key num (C b) b (S b) 24) (k + 1))) C (opO nk (decR key num C S b) O 4) (opL nk (decR key num C S b) L 4) (opW nk (decR key num C S b) Wd 4)) _ := hP
              have hD : va_D A (wT cI cZ cJ t st ct hd lv wd num lc lvs nb nk key (setRow S b (zerK (maskR key num (C b) b (S b) 24) (k + 1))) C (opO nk (decR key num C S b) O 4) (opL nk (decR key num C S b) L 4) (opW nk (decR key num C S b) Wd 4)) := hD
              refine lv_iinc (v := nI (k + 1)) (lv' := [(3, .int (nI (k + 1))), (0, .ref t), (1, .int (nI b)), (2, .int (nI (b * 25)))]) hx hb dX3_unload_49 hl (k := 3) rfl (nI_add k 1) (by decide) rfl (fun ls hl => ?_)
              refine lv_goto (tgt := 34) hx hb dX3_unload_52 (by decide) ?_
              exact ihL2 (k + 1)  (by omega) (by omega)  _ _ _ hP hD hS (lv_sub hl [1, 2, 3, 0] rfl)
        exact L2 (25 + 1) 0  (by omega) (by omega)  _ _ _ hP hD hS (lv_sub hl [2, 3, 1, 0] rfl)
      · skip
        refine lv_aload_n hx hb dX3_unload_12 rfl (lv_at hl 0 rfl) ?_
        refine lv_iload_n hx hb dX3_unload_13 rfl (lv_at hl 1 rfl) ?_
        refine lv_iload_n hx hb dX3_unload_14 rfl (lv_at hl 2 rfl) ?_
        refine k_si (As := [.int (nI b), .int (nI k)]) (rest := [.ref t]) (w2 := fun u : Unit => (wT cI cZ cJ t st ct hd lv wd num lc lvs nb nk key (setRow S b (maskR key num (C b) b (S b) 24)) C (opO nk (maskR key num (C b) b (S b) 24) O k) (opL nk (maskR key num (C b) b (S b) 24) L k) (opW nk (maskR key num (C b) b (S b) 24) Wd k))) ⟨hx, hb, hml, hown, hts⟩ (c_slotStart l D cI cZ cJ  b k) (va_cwS 2 hts gX3_unload_X3_slotStart rfl rfl rfl (by decide +kernel) ⟨Nat.le_of_ble_eq_true rfl, Nat.le_of_ble_eq_true rfl⟩) hP hD hK hS hA [] [0, 1, 2, 3, 4, 5] [0, 1, 2, 3, 4, 5] rfl rfl (by decide) (fun u => rfl) rfl hl.1 rfl (Nat.le_of_ble_eq_true rfl) dX3_unload_15 ⟨Nat.le_of_ble_eq_true rfl, Nat.le_of_ble_eq_true rfl⟩ (fun r u H locs hu6 hP hD hS => ?_)
        refine k_t1 (show r = nI (25 * b + 6 * k) from hu6) ?_
        refine k_vv (As := [.int (nI (25 * b + 6 * k))]) (rest := []) (w2 := fun u : Unit => (wT cI cZ cJ t st ct hd lv wd num lc lvs nb nk key (setRow S b (maskR key num (C b) b (S b) 24)) C (hoO nk (setRow S b (maskR key num (C b) b (S b) 24) b) k (opO nk (maskR key num (C b) b (S b) 24) O k)) (hoL nk (setRow S b (maskR key num (C b) b (S b) 24) b) k (opL nk (maskR key num (C b) b (S b) 24) L k)) (hoW nk (setRow S b (maskR key num (C b) b (S b) 24) b) k (opW nk (maskR key num (C b) b (S b) 24) Wd k)))) ⟨hx, hb, hml, hown, hts⟩ (c_hold l D cI cZ cJ t st ct hd lv wd num lc lvs nb nk key (setRow S b (maskR key num (C b) b (S b) 24)) C (opO nk (maskR key num (C b) b (S b) 24) O k) (opL nk (maskR key num (C b) b (S b) 24) L k) (opW nk (maskR key num (C b) b (S b) 24) Wd k) b k hT hb0 (by omega)) (cwV 1 hts gX3_unload_X3_hold rfl rfl rfl (by decide +kernel) ⟨Nat.le_of_ble_eq_true rfl, Nat.le_of_ble_eq_true rfl⟩) hP hD hK hS hA [0, 1, 2, 3, 4, 5] [] [0, 1, 2, 3, 4, 5] rfl rfl (by decide) (fun u => rfl) rfl rfl (q0 := 0) rfl rfl hl.1 rfl (Nat.le_of_ble_eq_true rfl) dX3_unload_18 ⟨Nat.le_of_ble_eq_true rfl, Nat.le_of_ble_eq_true rfl⟩ (fun u H locs hu7 hP hD hS => ?_)
        have hE8 : (wT cI cZ cJ t st ct hd lv wd num lc lvs nb nk key (setRow S b (maskR key num (C b) b (S b) 24)) C (hoO nk (setRow S b (maskR key num (C b) b (S b) 24) b) k (opO nk (maskR key num (C b) b (S b) 24) O k)) (hoL nk (setRow S b (maskR key num (C b) b (S b) 24) b) k (opL nk (maskR key num (C b) b (S b) 24) L k)) (hoW nk (setRow S b (maskR key num (C b) b (S b) 24) b) k (opW nk (maskR key num (C b) b (S b) 24) Wd k))) = (wT cI cZ cJ t st ct hd lv wd num lc lvs nb nk key (setRow S b (maskR key num (C b) b (S b) 24)) C (opO nk (maskR key num (C b) b (S b) 24) O (k + 1)) (hoL nk (setRow S b (maskR key num (C b) b (S b) 24) b) k (opL nk (maskR key num (C b) b (S b) 24) L k)) (hoW nk (setRow S b (maskR key num (C b) b (S b) 24) b) k (opW nk (maskR key num (C b) b (S b) 24) Wd k))) := by rw [setRow_s]; rfl
        rw [hE8] at hP hD
        have hE9 : (wT cI cZ cJ t st ct hd lv wd num lc lvs nb nk key (setRow S b (maskR key num (C b) b (S b) 24)) C (opO nk (maskR key num (C b) b (S b) 24) O (k + 1)) (hoL nk (setRow S b (maskR key num (C b) b (S b) 24) b) k (opL nk (maskR key num (C b) b (S b) 24) L k)) (hoW nk (setRow S b (maskR key num (C b) b (S b) 24) b) k (opW nk (maskR key num (C b) b (S b) 24) Wd k))) = (wT cI cZ cJ t st ct hd lv wd num lc lvs nb nk key (setRow S b (maskR key num (C b) b (S b) 24)) C (opO nk (maskR key num (C b) b (S b) 24) O (k + 1)) (opL nk (maskR key num (C b) b (S b) 24) L (k + 1)) (hoW nk (setRow S b (maskR key num (C b) b (S b) 24) b) k (opW nk (maskR key num (C b) b (S b) 24) Wd k))) := by rw [setRow_s]; rfl
        rw [hE9] at hP hD
        have hE10 : (wT cI cZ cJ t st ct hd lv wd num lc lvs nb nk key (setRow S b (maskR key num (C b) b (S b) 24)) C (opO nk (maskR key num (C b) b (S b) 24) O (k + 1)) (opL nk (maskR key num (C b) b (S b) 24) L (k + 1)) (hoW nk (setRow S b (maskR key num (C b) b (S b) 24) b) k (opW nk (maskR key num (C b) b (S b) 24) Wd k))) = (wT cI cZ cJ t st ct hd lv wd num lc lvs nb nk key (setRow S b (maskR key num (C b) b (S b) 24)) C (opO nk (maskR key num (C b) b (S b) 24) O (k + 1)) (opL nk (maskR key num (C b) b (S b) 24) L (k + 1)) (opW nk (maskR key num (C b) b (S b) 24) Wd (k + 1))) := by rw [setRow_s]; rfl
        rw [hE10] at hP hD
        refine lv_iinc (v := nI (k + 1)) (lv' := [(2, .int (nI (k + 1))), (0, .ref t), (1, .int (nI b))]) hx hb dX3_unload_21 hl (k := 2) rfl (nI_add k 1) (by decide) rfl (fun ls hl => ?_)
        refine lv_goto (tgt := 7) hx hb dX3_unload_24 (by decide) ?_
        exact ihL1 (k + 1)  (by omega) (by omega)  _ _ _ hP hD hS (lv_sub hl [1, 2, 0] rfl)
  exact L1 (4 + 1) 0  (by omega) (by omega)  _ _ _ hP hD hS (lv_sub hl [1, 2, 0] rfl)

set_option maxHeartbeats 800000 in
set_option maxRecDepth 100000 in
theorem c_take_y (l : Launch) (D : va_G) (cI cZ cJ : ClassId) (t : Nat) (st : Nat) (ct : Nat) (hd : Nat) (lv : Nat) (wd : Nat) (num : Int32) (lc : Nat) (lvs : Nat) (nb : Nat) (nk : Nat) (key : Int32) (S : Nat → Nat → Int32) (C : Nat → Int32) (O : Nat → Int32) (L : Nat → Int32) (Wd : Nat → Nat → Int32) (l0 : Nat) (hT : TP lc lvs nb nk) (hl0 : l0 < lc) (hw : ∀ up, up < lvs → wholeB key num C S (pathB lc l0 up)) : KI l yX3_take wsX3_take ({ frames := 3, cells := 0, slots := 0, locals := 69 }) D (kty cI cZ cJ) [.ref t, .int (nI l0)] (wT cI cZ cJ t st ct hd lv wd num lc lvs nb nk key S C O L Wd) (fun r (_ : Unit) => r = 1) (fun _ : Unit => (wT cI cZ cJ t st ct hd lv wd num lc lvs nb nk key (zpS lc l0 S lvs) C (tkO nk (rowsP key num C S lc l0) O lvs) (tkL nk (rowsP key num C S lc l0) L lvs) (tkW nk (rowsP key num C S lc l0) Wd lvs))) 0 0 := by
  refine k_headI (cc := cX3_take) (maxL := 3) (ret := (some .boolean)) (by decide) rfl (Nat.le_of_ble_eq_true rfl) ?_
  intro p e s m below meth c A ls args Q hx hb hr hml hts hown hlk hnm hA hK hP hD hS hl hQ
  have hq := hT.bd
  have hl : lv_has ls 3 [(0, .ref t), (1, .int (nI l0))] := hl
  refine lv_iconst (v := nI 0) hx hb dX3_take_0 (by decide) ?_
  refine lv_istore_n (lv' := [(2, .int (nI 0)), (0, .ref t), (1, .int (nI l0))]) hx hb dX3_take_1 rfl hl (by decide) rfl (fun ls hl => ?_)
  have L1 : ∀ (nf k : Nat) (hvL1 : k ≤ lvs) (hFL1 : lvs - k < nf) (H : Heap) (locs : List Loc) (ls : Array Slot), va_P D vwCl (wT cI cZ cJ t st ct hd lv wd num lc lvs nb nk key S C O L Wd) H → va_D A (wT cI cZ cJ t st ct hd lv wd num lc lvs nb nk key S C O L Wd) → va_S A s.heap H locs → lv_has ls 3 [(0, .ref t), (1, .int (nI l0)), (2, .int (nI k))] → W p l e ({ frames := 3, cells := 0, slots := 0, locals := 69 } : Room) s m args below meth c H locs 0 0 Q (F0 m 2 ls []) := by
    intro nf
    induction nf with
    | zero => intro k  hvL1 hFL1; omega
    | succ nf ihL1 =>
      intro k  hvL1 hFL1  H locs ls hP hD hS hl
      refine lv_iload_n hx hb dX3_take_2 rfl (lv_at hl 2 rfl) ?_
      refine lv_aload_n hx hb dX3_take_3 rfl (lv_at hl 0 rfl) ?_
      refine va_get (D := D) (ci := 3) (v := .int (nI lvs)) (C := RX3) (T := TX3) (N := 11) hx hb hts (by decide +kernel) hown hK hP 0 rfl rfl 2 (by decide) (hts (.fieldLink RX3 18 "VeiledFiles$Tree" "levels" "I") (by decide +kernel)) (fun _ h9 => h9) rfl dX3_take_4 ?_
      refine k_icmp_ge (tgt := 31) hx hb (by omega) (by omega) dX3_take_7 (by decide) (fun c1 => ?_) (fun c1 => ?_)
      · skip
        refine lv_iconst (v := nI 0) hx hb dX3_take_31 (by decide) ?_
        refine lv_istore_n (lv' := [(2, .int (nI 0)), (0, .ref t), (1, .int (nI l0))]) hx hb dX3_take_32 rfl hl (by decide) rfl (fun ls hl => ?_)
        have L2 : ∀ (nf k : Nat) (hvL2 : k ≤ lvs) (hFL2 : lvs - k < nf) (H : Heap) (locs : List Loc) (ls : Array Slot), va_P D vwCl (wT cI cZ cJ t st ct hd lv wd num lc lvs nb nk key (zpS lc l0 S k) C (tkO nk (rowsP key num C S lc l0) O k) (tkL nk (rowsP key num C S lc l0) L k) (tkW nk (rowsP key num C S lc l0) Wd k)) H → va_D A (wT cI cZ cJ t st ct hd lv wd num lc lvs nb nk key (zpS lc l0 S k) C (tkO nk (rowsP key num C S lc l0) O k) (tkL nk (rowsP key num C S lc l0) L k) (tkW nk (rowsP key num C S lc l0) Wd k)) → va_S A s.heap H locs → lv_has ls 3 [(0, .ref t), (1, .int (nI l0)), (2, .int (nI k))] → W p l e ({ frames := 3, cells := 0, slots := 0, locals := 69 } : Room) s m args below meth c H locs 0 0 Q (F0 m 33 ls []) := by
          intro nf
          induction nf with
          | zero => intro k  hvL2 hFL2; omega
          | succ nf ihL2 =>
            intro k  hvL2 hFL2  H locs ls hP hD hS hl
            refine lv_iload_n hx hb dX3_take_33 rfl (lv_at hl 2 rfl) ?_
            refine lv_aload_n hx hb dX3_take_34 rfl (lv_at hl 0 rfl) ?_
            refine va_get (D := D) (ci := 3) (v := .int (nI lvs)) (C := RX3) (T := TX3) (N := 11) hx hb hts (by decide +kernel) hown hK hP 0 rfl rfl 2 (by decide) (hts (.fieldLink RX3 18 "VeiledFiles$Tree" "levels" "I") (by decide +kernel)) (fun _ h9 => h9) rfl dX3_take_35 ?_
            refine k_icmp_ge (tgt := 57) hx hb (by omega) (by omega) dX3_take_38 (by decide) (fun c2 => ?_) (fun c2 => ?_)
            · skip
              obtain rfl : lvs = k := by omega
              refine lv_iconst (v := nI 1) hx hb dX3_take_57 (by decide) ?_
              exact k_retz () hx hb hr hK hS hlk dX3_take_58 ((by first | exact Or.inl rfl | exact Or.inr rfl)) hP hD (rfl) hQ
            · skip
              refine lv_aload_n hx hb dX3_take_41 rfl (lv_at hl 0 rfl) ?_
              refine lv_aload_n hx hb dX3_take_42 rfl (lv_at hl 0 rfl) ?_
              refine lv_iload_n hx hb dX3_take_43 rfl (lv_at hl 1 rfl) ?_
              refine lv_iload_n hx hb dX3_take_44 rfl (lv_at hl 2 rfl) ?_
              refine k_vi (As := [.int (nI l0), .int (nI k)]) (rest := [.ref t]) (w2 := fun u : Unit => (wT cI cZ cJ t st ct hd lv wd num lc lvs nb nk key (zpS lc l0 S k) C (tkO nk (rowsP key num C S lc l0) O k) (tkL nk (rowsP key num C S lc l0) L k) (tkW nk (rowsP key num C S lc l0) Wd k))) ⟨hx, hb, hml, hown, hts⟩ (c_bucketOver l D cI cZ cJ t st ct hd lv wd num lc lvs nb nk key (zpS lc l0 S k) C (tkO nk (rowsP key num C S lc l0) O k) (tkL nk (rowsP key num C S lc l0) L k) (tkW nk (rowsP key num C S lc l0) Wd k) l0 k hT hl0 c2) (cwV 2 hts gX3_take_X3_bucketOver rfl rfl rfl (by decide +kernel) ⟨Nat.le_of_ble_eq_true rfl, Nat.le_of_ble_eq_true rfl⟩) hP hD hK hS hA [0, 1, 2, 3, 4, 5] [] [0, 1, 2, 3, 4, 5] rfl rfl (by decide) (fun u => rfl) rfl rfl (q0 := 0) rfl rfl hl.1 rfl (Nat.le_of_ble_eq_true rfl) dX3_take_45 ⟨Nat.le_of_ble_eq_true rfl, Nat.le_of_ble_eq_true rfl⟩ (fun r u H locs hu1 hP hD hS => ?_)
              refine k_t1 (show r = nI (pathB lc l0 k) from hu1) ?_
              refine k_vv (As := [.int (nI (pathB lc l0 k))]) (rest := []) (w2 := fun u : Unit => (wT cI cZ cJ t st ct hd lv wd num lc lvs nb nk key (setRow (zpS lc l0 S k) (pathB lc l0 k) zrow) C (opO nk (decR key num C (zpS lc l0 S k) (pathB lc l0 k)) (tkO nk (rowsP key num C S lc l0) O k) 4) (opL nk (decR key num C (zpS lc l0 S k) (pathB lc l0 k)) (tkL nk (rowsP key num C S lc l0) L k) 4) (opW nk (decR key num C (zpS lc l0 S k) (pathB lc l0 k)) (tkW nk (rowsP key num C S lc l0) Wd k) 4))) ⟨hx, hb, hml, hown, hts⟩ (c_unload l D cI cZ cJ t st ct hd lv wd num lc lvs nb nk key (zpS lc l0 S k) C (tkO nk (rowsP key num C S lc l0) O k) (tkL nk (rowsP key num C S lc l0) L k) (tkW nk (rowsP key num C S lc l0) Wd k) (pathB lc l0 k) hT (pathB_lt hT hl0)) (cwV 1 hts gX3_take_X3_unload rfl rfl rfl (by decide +kernel) ⟨Nat.le_of_ble_eq_true rfl, Nat.le_of_ble_eq_true rfl⟩) hP hD hK hS hA [0, 1, 2, 3, 4, 5] [] [0, 1, 2, 3, 4, 5] rfl rfl (by decide) (fun u => rfl) rfl rfl (q0 := 0) rfl rfl hl.1 rfl (Nat.le_of_ble_eq_true rfl) dX3_take_48 ⟨Nat.le_of_ble_eq_true rfl, Nat.le_of_ble_eq_true rfl⟩ (fun u H locs hu2 hP hD hS => ?_)
              have hE3 : (wT cI cZ cJ t st ct hd lv wd num lc lvs nb nk key (setRow (zpS lc l0 S k) (pathB lc l0 k) zrow) C (opO nk (decR key num C (zpS lc l0 S k) (pathB lc l0 k)) (tkO nk (rowsP key num C S lc l0) O k) 4) (opL nk (decR key num C (zpS lc l0 S k) (pathB lc l0 k)) (tkL nk (rowsP key num C S lc l0) L k) 4) (opW nk (decR key num C (zpS lc l0 S k) (pathB lc l0 k)) (tkW nk (rowsP key num C S lc l0) Wd k) 4)) = (wT cI cZ cJ t st ct hd lv wd num lc lvs nb nk key (zpS lc l0 S (k + 1)) C (opO nk (decR key num C (zpS lc l0 S k) (pathB lc l0 k)) (tkO nk (rowsP key num C S lc l0) O k) 4) (opL nk (decR key num C (zpS lc l0 S k) (pathB lc l0 k)) (tkL nk (rowsP key num C S lc l0) L k) 4) (opW nk (decR key num C (zpS lc l0 S k) (pathB lc l0 k)) (tkW nk (rowsP key num C S lc l0) Wd k) 4)) := rfl
              rw [hE3] at hP hD
              have hE4 : (wT cI cZ cJ t st ct hd lv wd num lc lvs nb nk key (zpS lc l0 S (k + 1)) C (opO nk (decR key num C (zpS lc l0 S k) (pathB lc l0 k)) (tkO nk (rowsP key num C S lc l0) O k) 4) (opL nk (decR key num C (zpS lc l0 S k) (pathB lc l0 k)) (tkL nk (rowsP key num C S lc l0) L k) 4) (opW nk (decR key num C (zpS lc l0 S k) (pathB lc l0 k)) (tkW nk (rowsP key num C S lc l0) Wd k) 4)) = (wT cI cZ cJ t st ct hd lv wd num lc lvs nb nk key (zpS lc l0 S (k + 1)) C (tkO nk (rowsP key num C S lc l0) O (k + 1)) (opL nk (decR key num C (zpS lc l0 S k) (pathB lc l0 k)) (tkL nk (rowsP key num C S lc l0) L k) 4) (opW nk (decR key num C (zpS lc l0 S k) (pathB lc l0 k)) (tkW nk (rowsP key num C S lc l0) Wd k) 4)) := by rw [decR_zp hT hl0 c2]; rfl
              rw [hE4] at hP hD
              have hE5 : (wT cI cZ cJ t st ct hd lv wd num lc lvs nb nk key (zpS lc l0 S (k + 1)) C (tkO nk (rowsP key num C S lc l0) O (k + 1)) (opL nk (decR key num C (zpS lc l0 S k) (pathB lc l0 k)) (tkL nk (rowsP key num C S lc l0) L k) 4) (opW nk (decR key num C (zpS lc l0 S k) (pathB lc l0 k)) (tkW nk (rowsP key num C S lc l0) Wd k) 4)) = (wT cI cZ cJ t st ct hd lv wd num lc lvs nb nk key (zpS lc l0 S (k + 1)) C (tkO nk (rowsP key num C S lc l0) O (k + 1)) (tkL nk (rowsP key num C S lc l0) L (k + 1)) (opW nk (decR key num C (zpS lc l0 S k) (pathB lc l0 k)) (tkW nk (rowsP key num C S lc l0) Wd k) 4)) := by rw [decR_zp hT hl0 c2]; rfl
              rw [hE5] at hP hD
              have hE6 : (wT cI cZ cJ t st ct hd lv wd num lc lvs nb nk key (zpS lc l0 S (k + 1)) C (tkO nk (rowsP key num C S lc l0) O (k + 1)) (tkL nk (rowsP key num C S lc l0) L (k + 1)) (opW nk (decR key num C (zpS lc l0 S k) (pathB lc l0 k)) (tkW nk (rowsP key num C S lc l0) Wd k) 4)) = (wT cI cZ cJ t st ct hd lv wd num lc lvs nb nk key (zpS lc l0 S (k + 1)) C (tkO nk (rowsP key num C S lc l0) O (k + 1)) (tkL nk (rowsP key num C S lc l0) L (k + 1)) (tkW nk (rowsP key num C S lc l0) Wd (k + 1))) := by rw [decR_zp hT hl0 c2]; rfl
              rw [hE6] at hP hD
              refine lv_iinc (v := nI (k + 1)) (lv' := [(2, .int (nI (k + 1))), (0, .ref t), (1, .int (nI l0))]) hx hb dX3_take_51 hl (k := 2) rfl (nI_add k 1) (by decide) rfl (fun ls hl => ?_)
              refine lv_goto (tgt := 33) hx hb dX3_take_54 (by decide) ?_
              exact ihL2 (k + 1)  (by omega) (by omega)  _ _ _ hP hD hS (lv_sub hl [1, 2, 0] rfl)
        exact L2 (lvs + 1) 0  (by omega) (by omega)  _ _ _ hP hD hS (lv_sub hl [1, 2, 0] rfl)
      · skip
        refine lv_aload_n hx hb dX3_take_10 rfl (lv_at hl 0 rfl) ?_
        refine lv_aload_n hx hb dX3_take_11 rfl (lv_at hl 0 rfl) ?_
        refine lv_iload_n hx hb dX3_take_12 rfl (lv_at hl 1 rfl) ?_
        refine lv_iload_n hx hb dX3_take_13 rfl (lv_at hl 2 rfl) ?_
        refine k_vi (As := [.int (nI l0), .int (nI k)]) (rest := [.ref t]) (w2 := fun u : Unit => (wT cI cZ cJ t st ct hd lv wd num lc lvs nb nk key S C O L Wd)) ⟨hx, hb, hml, hown, hts⟩ (c_bucketOver l D cI cZ cJ t st ct hd lv wd num lc lvs nb nk key S C O L Wd l0 k hT hl0 c1) (cwV 2 hts gX3_take_X3_bucketOver rfl rfl rfl (by decide +kernel) ⟨Nat.le_of_ble_eq_true rfl, Nat.le_of_ble_eq_true rfl⟩) hP hD hK hS hA [0, 1, 2, 3, 4, 5] [] [0, 1, 2, 3, 4, 5] rfl rfl (by decide) (fun u => rfl) rfl rfl (q0 := 0) rfl rfl hl.1 rfl (Nat.le_of_ble_eq_true rfl) dX3_take_14 ⟨Nat.le_of_ble_eq_true rfl, Nat.le_of_ble_eq_true rfl⟩ (fun r u H locs hu7 hP hD hS => ?_)
        refine k_t1 (show r = nI (pathB lc l0 k) from hu7) ?_
        refine k_vi (As := [.int (nI (pathB lc l0 k))]) (rest := []) (w2 := fun u : Unit => (wT cI cZ cJ t st ct hd lv wd num lc lvs nb nk key S C O L Wd)) ⟨hx, hb, hml, hown, hts⟩ (c_isWhole_y l D cI cZ cJ t st ct hd lv wd num lc lvs nb nk key S C O L Wd (pathB lc l0 k) hT (pathB_lt hT hl0) (hw k c1)) (cwV 1 hts gX3_take_X3_isWhole rfl rfl rfl (by decide +kernel) ⟨Nat.le_of_ble_eq_true rfl, Nat.le_of_ble_eq_true rfl⟩) hP hD hK hS hA [0, 1, 2, 3, 4, 5] [] [0, 1, 2, 3, 4, 5] rfl rfl (by decide) (fun u => rfl) rfl rfl (q0 := 0) rfl rfl hl.1 rfl (Nat.le_of_ble_eq_true rfl) dX3_take_17 ⟨Nat.le_of_ble_eq_true rfl, Nat.le_of_ble_eq_true rfl⟩ (fun r u H locs hu8 hP hD hS => ?_)
        refine k_t1 (show r = 1 from hu8) ?_
        refine lv_if_ne (tgt := 25) hx hb dX3_take_20 (by decide) (fun c2 => ?_) (fun c2 => ?_)
        · skip
          refine lv_iinc (v := nI (k + 1)) (lv' := [(2, .int (nI (k + 1))), (0, .ref t), (1, .int (nI l0))]) hx hb dX3_take_25 hl (k := 2) rfl (nI_add k 1) (by decide) rfl (fun ls hl => ?_)
          refine lv_goto (tgt := 2) hx hb dX3_take_28 (by decide) ?_
          exact ihL1 (k + 1)  (by omega) (by omega)  _ _ _ hP hD hS (lv_sub hl [1, 2, 0] rfl)
        · skip
          exact absurd c2 (by decide)
  exact L1 (lvs + 1) 0  (by omega) (by omega)  _ _ _ hP hD hS (lv_sub hl [1, 2, 0] rfl)

set_option maxHeartbeats 800000 in
set_option maxRecDepth 100000 in
theorem c_take_n (l : Launch) (D : va_G) (cI cZ cJ : ClassId) (t : Nat) (st : Nat) (ct : Nat) (hd : Nat) (lv : Nat) (wd : Nat) (num : Int32) (lc : Nat) (lvs : Nat) (nb : Nat) (nk : Nat) (key : Int32) (S : Nat → Nat → Int32) (C : Nat → Int32) (O : Nat → Int32) (L : Nat → Int32) (Wd : Nat → Nat → Int32) (l0 j0 : Nat) (hT : TP lc lvs nb nk) (hl0 : l0 < lc) (hj : j0 < lvs) (hw : ∀ up, up < j0 → wholeB key num C S (pathB lc l0 up)) (hn : ¬ wholeB key num C S (pathB lc l0 j0)) : KI l yX3_take wsX3_take ({ frames := 3, cells := 0, slots := 0, locals := 68 }) D (kty cI cZ cJ) [.ref t, .int (nI l0)] (wT cI cZ cJ t st ct hd lv wd num lc lvs nb nk key S C O L Wd) (fun r (_ : Unit) => r = 0) (fun _ : Unit => (wT cI cZ cJ t st ct hd lv wd num lc lvs nb nk key S C O L Wd)) 0 0 := by
  refine k_headI (cc := cX3_take) (maxL := 3) (ret := (some .boolean)) (by decide) rfl (Nat.le_of_ble_eq_true rfl) ?_
  intro p e s m below meth c A ls args Q hx hb hr hml hts hown hlk hnm hA hK hP hD hS hl hQ
  have hq := hT.bd
  have hl : lv_has ls 3 [(0, .ref t), (1, .int (nI l0))] := hl
  refine lv_iconst (v := nI 0) hx hb dX3_take_0 (by decide) ?_
  refine lv_istore_n (lv' := [(2, .int (nI 0)), (0, .ref t), (1, .int (nI l0))]) hx hb dX3_take_1 rfl hl (by decide) rfl (fun ls hl => ?_)
  have L1 : ∀ (nf k : Nat) (hvL1 : k ≤ j0) (hFL1 : j0 - k < nf) (H : Heap) (locs : List Loc) (ls : Array Slot), va_P D vwCl (wT cI cZ cJ t st ct hd lv wd num lc lvs nb nk key S C O L Wd) H → va_D A (wT cI cZ cJ t st ct hd lv wd num lc lvs nb nk key S C O L Wd) → va_S A s.heap H locs → lv_has ls 3 [(0, .ref t), (1, .int (nI l0)), (2, .int (nI k))] → W p l e ({ frames := 3, cells := 0, slots := 0, locals := 68 } : Room) s m args below meth c H locs 0 0 Q (F0 m 2 ls []) := by
    intro nf
    induction nf with
    | zero => intro k  hvL1 hFL1; omega
    | succ nf ihL1 =>
      intro k  hvL1 hFL1  H locs ls hP hD hS hl
      refine lv_iload_n hx hb dX3_take_2 rfl (lv_at hl 2 rfl) ?_
      refine lv_aload_n hx hb dX3_take_3 rfl (lv_at hl 0 rfl) ?_
      refine va_get (D := D) (ci := 3) (v := .int (nI lvs)) (C := RX3) (T := TX3) (N := 11) hx hb hts (by decide +kernel) hown hK hP 0 rfl rfl 2 (by decide) (hts (.fieldLink RX3 18 "VeiledFiles$Tree" "levels" "I") (by decide +kernel)) (fun _ h9 => h9) rfl dX3_take_4 ?_
      refine k_icmp_ge (tgt := 31) hx hb (by omega) (by omega) dX3_take_7 (by decide) (fun c1 => ?_) (fun c1 => ?_)
      · skip
        omega
      · skip
        refine lv_aload_n hx hb dX3_take_10 rfl (lv_at hl 0 rfl) ?_
        refine lv_aload_n hx hb dX3_take_11 rfl (lv_at hl 0 rfl) ?_
        refine lv_iload_n hx hb dX3_take_12 rfl (lv_at hl 1 rfl) ?_
        refine lv_iload_n hx hb dX3_take_13 rfl (lv_at hl 2 rfl) ?_
        refine k_vi (As := [.int (nI l0), .int (nI k)]) (rest := [.ref t]) (w2 := fun u : Unit => (wT cI cZ cJ t st ct hd lv wd num lc lvs nb nk key S C O L Wd)) ⟨hx, hb, hml, hown, hts⟩ (c_bucketOver l D cI cZ cJ t st ct hd lv wd num lc lvs nb nk key S C O L Wd l0 k hT hl0 c1) (cwV 2 hts gX3_take_X3_bucketOver rfl rfl rfl (by decide +kernel) ⟨Nat.le_of_ble_eq_true rfl, Nat.le_of_ble_eq_true rfl⟩) hP hD hK hS hA [0, 1, 2, 3, 4, 5] [] [0, 1, 2, 3, 4, 5] rfl rfl (by decide) (fun u => rfl) rfl rfl (q0 := 0) rfl rfl hl.1 rfl (Nat.le_of_ble_eq_true rfl) dX3_take_14 ⟨Nat.le_of_ble_eq_true rfl, Nat.le_of_ble_eq_true rfl⟩ (fun r u H locs hu1 hP hD hS => ?_)
        refine k_t1 (show r = nI (pathB lc l0 k) from hu1) ?_
        by_cases hk0 : k < j0
        · skip
          refine k_vi (As := [.int (nI (pathB lc l0 k))]) (rest := []) (w2 := fun u : Unit => (wT cI cZ cJ t st ct hd lv wd num lc lvs nb nk key S C O L Wd)) ⟨hx, hb, hml, hown, hts⟩ (c_isWhole_y l D cI cZ cJ t st ct hd lv wd num lc lvs nb nk key S C O L Wd (pathB lc l0 k) hT (pathB_lt hT hl0) (hw k hk0)) (cwV 1 hts gX3_take_X3_isWhole rfl rfl rfl (by decide +kernel) ⟨Nat.le_of_ble_eq_true rfl, Nat.le_of_ble_eq_true rfl⟩) hP hD hK hS hA [0, 1, 2, 3, 4, 5] [] [0, 1, 2, 3, 4, 5] rfl rfl (by decide) (fun u => rfl) rfl rfl (q0 := 0) rfl rfl hl.1 rfl (Nat.le_of_ble_eq_true rfl) dX3_take_17 ⟨Nat.le_of_ble_eq_true rfl, Nat.le_of_ble_eq_true rfl⟩ (fun r u H locs hu2 hP hD hS => ?_)
          refine k_t1 (show r = 1 from hu2) ?_
          refine lv_if_ne (tgt := 25) hx hb dX3_take_20 (by decide) (fun c2 => ?_) (fun c2 => ?_)
          · skip
            refine lv_iinc (v := nI (k + 1)) (lv' := [(2, .int (nI (k + 1))), (0, .ref t), (1, .int (nI l0))]) hx hb dX3_take_25 hl (k := 2) rfl (nI_add k 1) (by decide) rfl (fun ls hl => ?_)
            refine lv_goto (tgt := 2) hx hb dX3_take_28 (by decide) ?_
            exact ihL1 (k + 1)  (by omega) (by omega)  _ _ _ hP hD hS (lv_sub hl [1, 2, 0] rfl)
          · skip
            exact absurd c2 (by decide)
        · skip
          obtain rfl : k = j0 := by omega
          refine k_vi (As := [.int (nI (pathB lc l0 k))]) (rest := []) (w2 := fun u : Unit => (wT cI cZ cJ t st ct hd lv wd num lc lvs nb nk key S C O L Wd)) ⟨hx, hb, hml, hown, hts⟩ (c_isWhole_n l D cI cZ cJ t st ct hd lv wd num lc lvs nb nk key S C O L Wd (pathB lc l0 k) hT (pathB_lt hT hl0) hn) (cwV 1 hts gX3_take_X3_isWhole rfl rfl rfl (by decide +kernel) ⟨Nat.le_of_ble_eq_true rfl, Nat.le_of_ble_eq_true rfl⟩) hP hD hK hS hA [0, 1, 2, 3, 4, 5] [] [0, 1, 2, 3, 4, 5] rfl rfl (by decide) (fun u => rfl) rfl rfl (q0 := 0) rfl rfl hl.1 rfl (Nat.le_of_ble_eq_true rfl) dX3_take_17 ⟨Nat.le_of_ble_eq_true rfl, Nat.le_of_ble_eq_true rfl⟩ (fun r u H locs hu3 hP hD hS => ?_)
          refine k_t1 (show r = 0 from hu3) ?_
          refine lv_if_ne (tgt := 25) hx hb dX3_take_20 (by decide) (fun c2 => ?_) (fun c2 => ?_)
          · skip
            exact absurd rfl c2
          · skip
            refine lv_iconst (v := nI 0) hx hb dX3_take_23 (by decide) ?_
            exact k_retz () hx hb hr hK hS hlk dX3_take_24 ((by first | exact Or.inl rfl | exact Or.inr rfl)) hP hD (rfl) hQ
  exact L1 (j0 + 1) 0  (by omega) (by omega)  _ _ _ hP hD hS (lv_sub hl [1, 2, 0] rfl)

set_option maxHeartbeats 800000 in
set_option maxRecDepth 100000 in
theorem c_load (l : Launch) (D : va_G) (cI cZ cJ : ClassId) (t : Nat) (st : Nat) (ct : Nat) (hd : Nat) (lv : Nat) (wd : Nat) (num : Int32) (lc : Nat) (lvs : Nat) (nb : Nat) (nk : Nat) (key : Int32) (S : Nat → Nat → Int32) (C : Nat → Int32) (O : Nat → Int32) (L : Nat → Int32) (Wd : Nat → Nat → Int32) (b up : Nat) (hT : TP lc lvs nb nk) (hb0 : b < nb) (hup : up < lvs) (hL : ∀ n, n < nk → O n ≠ 0 → ∃ l0, l0 < lc ∧ L n = nI l0) : KV l yX3_load wsX3_load ({ frames := 2, cells := 0, slots := 0, locals := 47 }) D (kty cI cZ cJ) [.ref t, .int (nI b), .int (nI up)] (wT cI cZ cJ t st ct hd lv wd num lc lvs nb nk key S C O L Wd) (fun (_ : Unit) => True) (fun _ : Unit => (wT cI cZ cJ t st ct hd lv wd num lc lvs nb nk key (setRow S b (fillN lc up b L Wd (S b) O nk).1) C ((fillN lc up b L Wd (S b) O nk).2.1) L Wd)) 0 0 := by
  refine k_headV (cc := cX3_load) (maxL := 5) (ret := none) (by decide) rfl (Nat.le_of_ble_eq_true rfl) ?_
  intro p e s m below meth c A ls args Q hx hb hr hml hts hown hlk hnm hA hK hP hD hS hl hQ
  have hq := hT.bd
  have hl : lv_has ls 5 [(0, .ref t), (1, .int (nI b)), (2, .int (nI up))] := hl
  refine lv_iconst (v := nI 0) hx hb dX3_load_0 (by decide) ?_
  refine lv_istore_n (lv' := [(3, .int (nI 0)), (0, .ref t), (1, .int (nI b)), (2, .int (nI up))]) hx hb dX3_load_1 rfl hl (by decide) rfl (fun ls hl => ?_)
  refine lv_iconst (v := nI 0) hx hb dX3_load_2 (by decide) ?_
  refine lv_istore (lv' := [(4, .int (nI 0)), (3, .int (nI 0)), (0, .ref t), (1, .int (nI b)), (2, .int (nI up))]) hx hb dX3_load_3 hl (by decide) rfl (fun ls hl => ?_)
  have hE1 : (wT cI cZ cJ t st ct hd lv wd num lc lvs nb nk key S C O L Wd) = (wT cI cZ cJ t st ct hd lv wd num lc lvs nb nk key (setRow S b (fillN lc up b L Wd (S b) O 0).1) C O L Wd) := by rw [show (fillN lc up b L Wd (S b) O 0).1 = S b from rfl, setRow_id]
  rw [hE1] at hP hD
  have L1 : ∀ (nf n : Nat) (hvL1 : n ≤ nk) (hFL1 : nk - n < nf) (H : Heap) (locs : List Loc) (ls : Array Slot), va_P D vwCl (wT cI cZ cJ t st ct hd lv wd num lc lvs nb nk key (setRow S b (fillN lc up b L Wd (S b) O n).1) C ((fillN lc up b L Wd (S b) O n).2.1) L Wd) H → va_D A (wT cI cZ cJ t st ct hd lv wd num lc lvs nb nk key (setRow S b (fillN lc up b L Wd (S b) O n).1) C ((fillN lc up b L Wd (S b) O n).2.1) L Wd) → va_S A s.heap H locs → lv_has ls 5 [(0, .ref t), (1, .int (nI b)), (2, .int (nI up)), (3, .int (nI ((fillN lc up b L Wd (S b) O n).2.2))), (4, .int (nI n))] → W p l e ({ frames := 2, cells := 0, slots := 0, locals := 47 } : Room) s m args below meth c H locs 0 0 Q (F0 m 5 ls []) := by
    intro nf
    induction nf with
    | zero => intro n  hvL1 hFL1; omega
    | succ nf ihL1 =>
      intro n  hvL1 hFL1  H locs ls hP hD hS hl
      have h4 := fillN_le (lc := lc) (up := up) (b := b) (L := L) (Wd := Wd) (w0 := S b) (O := O) n
      refine lv_iload hx hb dX3_load_5 (lv_at hl 4 rfl) ?_
      refine lv_aload_n hx hb dX3_load_7 rfl (lv_at hl 0 rfl) ?_
      refine va_get (D := D) (ci := 3) (v := .int (nI nk)) (C := RX3) (T := TX3) (N := 11) hx hb hts (by decide +kernel) hown hK hP 0 rfl rfl 4 (by decide) (hts (.fieldLink RX3 24 "VeiledFiles$Tree" "blocks" "I") (by decide +kernel)) (fun _ h9 => h9) rfl dX3_load_8 ?_
      refine k_icmp_ge (tgt := 62) hx hb (by omega) (by omega) dX3_load_11 (by decide) (fun c1 => ?_) (fun c1 => ?_)
      · skip
        obtain rfl : nk = n := by omega
        exact k_retv () hx hb hr hK hS hlk dX3_load_62 hP hD (trivial) hQ
      · skip
        refine lv_iload_n hx hb dX3_load_14 rfl (lv_at hl 3 rfl) ?_
        refine lv_iconst (v := nI 4) hx hb dX3_load_15 (by decide) ?_
        refine k_icmp_ge (tgt := 62) hx hb (by omega) (by omega) dX3_load_16 (by decide) (fun c2 => ?_) (fun c2 => ?_)
        · skip
          have hst := fillN_stop (lc := lc) (up := up) (b := b) (L := L) (Wd := Wd) (w0 := S b) (O := O) c2 (nk - n)
          rw [show n + (nk - n) = nk by omega] at hst
          rw [← hst] at hP hD
          exact k_retv () hx hb hr hK hS hlk dX3_load_62 hP hD (trivial) hQ
        · skip
          refine lv_aload_n hx hb dX3_load_19 rfl (lv_at hl 0 rfl) ?_
          refine va_get (D := D) (ci := 3) (v := .ref hd) (C := RX3) (T := TX3) (N := 11) hx hb hts (by decide +kernel) hown hK hP 0 rfl rfl 7 (by decide) (hts (.fieldLink RX3 34 "VeiledFiles$Tree" "held" "[Z") (by decide +kernel)) (fun _ h9 => h9) rfl dX3_load_20 ?_
          refine lv_iload hx hb dX3_load_23 (lv_at hl 4 rfl) ?_
          refine k_zald hx hb hK hP 3 1 rfl rfl n (by omega) (by omega) (v := O n) (fillN_O n n (Nat.le_refl n)) dX3_load_25 ?_
          refine lv_if_eq (tgt := 56) hx hb dX3_load_26 (by decide) (fun c3 => ?_) (fun c3 => ?_)
          · skip
            refine lv_iinc (v := nI (n + 1)) (lv' := [(4, .int (nI (n + 1))), (0, .ref t), (1, .int (nI b)), (2, .int (nI up)), (3, .int (nI ((fillN lc up b L Wd (S b) O n).2.2)))]) hx hb dX3_load_56 hl (k := 4) rfl (nI_add n 1) (by decide) rfl (fun ls hl => ?_)
            refine lv_goto (tgt := 5) hx hb dX3_load_59 (by decide) ?_
            have hfn := fillN_n (lc := lc) (up := up) (b := b) (L := L) (Wd := Wd) (w0 := S b) (O := O) (n := n) (Or.inl c3)
            rw [← hfn] at hP hD hl
            exact ihL1 (n + 1)  (by omega) (by omega)  _ _ _ hP hD hS (lv_sub hl [1, 2, 3, 4, 0] rfl)
          · skip
            obtain ⟨l0, hl0, hLn⟩ := hL n c1 c3
            have hcl : (L n).toNatClampNeg = l0 := by rw [hLn]; exact nI_clamp (by omega)
            refine lv_aload_n hx hb dX3_load_29 rfl (lv_at hl 0 rfl) ?_
            refine lv_aload_n hx hb dX3_load_30 rfl (lv_at hl 0 rfl) ?_
            refine va_get (D := D) (ci := 3) (v := .ref lv) (C := RX3) (T := TX3) (N := 11) hx hb hts (by decide +kernel) hown hK hP 0 rfl rfl 8 (by decide) (hts (.fieldLink RX3 38 "VeiledFiles$Tree" "leaves" "[I") (by decide +kernel)) (fun _ h9 => h9) rfl dX3_load_31 ?_
            refine lv_iload hx hb dX3_load_34 (lv_at hl 4 rfl) ?_
            refine k_iald hx hb hK hP 4 0 rfl rfl n (by omega) (by omega) (v := nI l0) (hLn) dX3_load_36 ?_
            refine lv_iload_n hx hb dX3_load_37 rfl (lv_at hl 2 rfl) ?_
            refine k_vi (As := [.int (nI l0), .int (nI up)]) (rest := []) (w2 := fun u : Unit => (wT cI cZ cJ t st ct hd lv wd num lc lvs nb nk key (setRow S b (fillN lc up b L Wd (S b) O n).1) C ((fillN lc up b L Wd (S b) O n).2.1) L Wd)) ⟨hx, hb, hml, hown, hts⟩ (c_bucketOver l D cI cZ cJ t st ct hd lv wd num lc lvs nb nk key (setRow S b (fillN lc up b L Wd (S b) O n).1) C ((fillN lc up b L Wd (S b) O n).2.1) L Wd l0 up hT hl0 hup) (cwV 2 hts gX3_load_X3_bucketOver rfl rfl rfl (by decide +kernel) ⟨Nat.le_of_ble_eq_true rfl, Nat.le_of_ble_eq_true rfl⟩) hP hD hK hS hA [0, 1, 2, 3, 4, 5] [] [0, 1, 2, 3, 4, 5] rfl rfl (by decide) (fun u => rfl) rfl rfl (q0 := 0) rfl rfl hl.1 rfl (Nat.le_of_ble_eq_true rfl) dX3_load_38 ⟨Nat.le_of_ble_eq_true rfl, Nat.le_of_ble_eq_true rfl⟩ (fun r u H locs hu2 hP hD hS => ?_)
            refine k_t1 (show r = nI (pathB lc l0 up) from hu2) ?_
            have hpl := pathB_lt (up := up) hT hl0
            refine lv_iload_n hx hb dX3_load_41 rfl (lv_at hl 1 rfl) ?_
            refine k_icmp_ne (tgt := 56) hx hb (by omega) (by omega) dX3_load_42 (by decide) (fun c4 => ?_) (fun c4 => ?_)
            · skip
              refine lv_iinc (v := nI (n + 1)) (lv' := [(4, .int (nI (n + 1))), (0, .ref t), (1, .int (nI b)), (2, .int (nI up)), (3, .int (nI ((fillN lc up b L Wd (S b) O n).2.2)))]) hx hb dX3_load_56 hl (k := 4) rfl (nI_add n 1) (by decide) rfl (fun ls hl => ?_)
              refine lv_goto (tgt := 5) hx hb dX3_load_59 (by decide) ?_
              have hfn := fillN_n (lc := lc) (up := up) (b := b) (L := L) (Wd := Wd) (w0 := S b) (O := O) (n := n) (Or.inr (by rw [hcl]; exact c4))
              rw [← hfn] at hP hD hl
              exact ihL1 (n + 1)  (by omega) (by omega)  _ _ _ hP hD hS (lv_sub hl [1, 2, 3, 4, 0] rfl)
            · skip
              refine lv_aload_n hx hb dX3_load_45 rfl (lv_at hl 0 rfl) ?_
              refine lv_iload hx hb dX3_load_46 (lv_at hl 4 rfl) ?_
              refine lv_iload_n hx hb dX3_load_48 rfl (lv_at hl 1 rfl) ?_
              refine lv_iload_n hx hb dX3_load_49 rfl (lv_at hl 3 rfl) ?_
              refine k_vv (As := [.int (nI n), .int (nI b), .int (nI ((fillN lc up b L Wd (S b) O n).2.2))]) (rest := []) (w2 := fun u : Unit => (wT cI cZ cJ t st ct hd lv wd num lc lvs nb nk key (setRow (setRow S b (fillN lc up b L Wd (S b) O n).1) b (putR ((setRow S b (fillN lc up b L Wd (S b) O n).1) b) (fillN lc up b L Wd (S b) O n).2.2 n (L n) (Wd n))) C (upd (fillN lc up b L Wd (S b) O n).2.1 n 0) L Wd)) ⟨hx, hb, hml, hown, hts⟩ (c_place l D cI cZ cJ t st ct hd lv wd num lc lvs nb nk key (setRow S b (fillN lc up b L Wd (S b) O n).1) C ((fillN lc up b L Wd (S b) O n).2.1) L Wd n b (fillN lc up b L Wd (S b) O n).2.2 hT c1 hb0 c2) (cwV 3 hts gX3_load_X3_place rfl rfl rfl (by decide +kernel) ⟨Nat.le_of_ble_eq_true rfl, Nat.le_of_ble_eq_true rfl⟩) hP hD hK hS hA [0, 1, 2, 3, 4, 5] [] [0, 1, 2, 3, 4, 5] rfl rfl (by decide) (fun u => rfl) rfl rfl (q0 := 0) rfl rfl hl.1 rfl (Nat.le_of_ble_eq_true rfl) dX3_load_50 ⟨Nat.le_of_ble_eq_true rfl, Nat.le_of_ble_eq_true rfl⟩ (fun u H locs hu3 hP hD hS => ?_)
              have hfy := fillN_y (lc := lc) (up := up) (b := b) (L := L) (Wd := Wd) (w0 := S b) (O := O) (n := n) c2 c3 (by rw [hcl]; exact c4)
              have hE4 : (wT cI cZ cJ t st ct hd lv wd num lc lvs nb nk key (setRow (setRow S b (fillN lc up b L Wd (S b) O n).1) b (putR ((setRow S b (fillN lc up b L Wd (S b) O n).1) b) (fillN lc up b L Wd (S b) O n).2.2 n (L n) (Wd n))) C (upd (fillN lc up b L Wd (S b) O n).2.1 n 0) L Wd) = (wT cI cZ cJ t st ct hd lv wd num lc lvs nb nk key (setRow S b (fillN lc up b L Wd (S b) O (n + 1)).1) C (upd (fillN lc up b L Wd (S b) O n).2.1 n 0) L Wd) := by rw [setRow_s, setRow_2, hfy]
              rw [hE4] at hP hD
              have hE5 : (wT cI cZ cJ t st ct hd lv wd num lc lvs nb nk key (setRow S b (fillN lc up b L Wd (S b) O (n + 1)).1) C (upd (fillN lc up b L Wd (S b) O n).2.1 n 0) L Wd) = (wT cI cZ cJ t st ct hd lv wd num lc lvs nb nk key (setRow S b (fillN lc up b L Wd (S b) O (n + 1)).1) C ((fillN lc up b L Wd (S b) O (n + 1)).2.1) L Wd) := by rw [hfy]
              rw [hE5] at hP hD
              refine lv_iinc (v := nI ((fillN lc up b L Wd (S b) O n).2.2 + 1)) (lv' := [(3, .int (nI ((fillN lc up b L Wd (S b) O n).2.2 + 1))), (0, .ref t), (1, .int (nI b)), (2, .int (nI up)), (4, .int (nI n))]) hx hb dX3_load_53 hl (k := 3) rfl (nI_add ((fillN lc up b L Wd (S b) O n).2.2) 1) (by decide) rfl (fun ls hl => ?_)
              refine lv_iinc (v := nI (n + 1)) (lv' := [(4, .int (nI (n + 1))), (3, .int (nI ((fillN lc up b L Wd (S b) O n).2.2 + 1))), (0, .ref t), (1, .int (nI b)), (2, .int (nI up))]) hx hb dX3_load_56 hl (k := 4) rfl (nI_add n 1) (by decide) rfl (fun ls hl => ?_)
              refine lv_goto (tgt := 5) hx hb dX3_load_59 (by decide) ?_
              have hf2 : (fillN lc up b L Wd (S b) O (n + 1)).2.2 = (fillN lc up b L Wd (S b) O n).2.2 + 1 := by rw [hfy]
              rw [← hf2] at hl
              exact ihL1 (n + 1)  (by omega) (by omega)  _ _ _ hP hD hS (lv_sub hl [2, 3, 4, 1, 0] rfl)
  exact L1 (nk + 1) 0  (by omega) (by omega)  _ _ _ hP hD hS (lv_sub hl [2, 3, 4, 1, 0] rfl)

set_option maxHeartbeats 800000 in
set_option maxRecDepth 100000 in
theorem c_putBack (l : Launch) (D : va_G) (cI cZ cJ : ClassId) (t : Nat) (st : Nat) (ct : Nat) (hd : Nat) (lv : Nat) (wd : Nat) (num : Int32) (lc : Nat) (lvs : Nat) (nb : Nat) (nk : Nat) (key : Int32) (S : Nat → Nat → Int32) (C : Nat → Int32) (O : Nat → Int32) (L : Nat → Int32) (Wd : Nat → Nat → Int32) (l0 : Nat) (hT : TP lc lvs nb nk) (hl0 : l0 < lc) (hz : ∀ up, up < lvs → S (pathB lc l0 up) = zrow) (hL : ∀ n, n < nk → O n ≠ 0 → ∃ l0, l0 < lc ∧ L n = nI l0) : KV l yX3_putBack wsX3_putBack ({ frames := 3, cells := 0, slots := 0, locals := 71 }) D (kty cI cZ cJ) [.ref t, .int (nI l0)] (wT cI cZ cJ t st ct hd lv wd num lc lvs nb nk key S C O L Wd) (fun (_ : Unit) => True) (fun _ : Unit => (wT cI cZ cJ t st ct hd lv wd num lc lvs nb nk key ((pbN key num lc nk l0 L Wd S C O lvs).1) ((pbN key num lc nk l0 L Wd S C O lvs).2.1) ((pbN key num lc nk l0 L Wd S C O lvs).2.2) L Wd)) 0 0 := by
  refine k_headV (cc := cX3_putBack) (maxL := 4) (ret := none) (by decide) rfl (Nat.le_of_ble_eq_true rfl) ?_
  intro p e s m below meth c A ls args Q hx hb hr hml hts hown hlk hnm hA hK hP hD hS hl hQ
  have hq := hT.bd
  have hl : lv_has ls 4 [(0, .ref t), (1, .int (nI l0))] := hl
  refine lv_iconst (v := nI 0) hx hb dX3_putBack_0 (by decide) ?_
  refine lv_istore_n (lv' := [(2, .int (nI 0)), (0, .ref t), (1, .int (nI l0))]) hx hb dX3_putBack_1 rfl hl (by decide) rfl (fun ls hl => ?_)
  have L1 : ∀ (nf k : Nat) (hvL1 : k ≤ lvs) (hFL1 : lvs - k < nf) (H : Heap) (locs : List Loc) (ls : Array Slot), va_P D vwCl (wT cI cZ cJ t st ct hd lv wd num lc lvs nb nk key ((pbN key num lc nk l0 L Wd S C O k).1) ((pbN key num lc nk l0 L Wd S C O k).2.1) ((pbN key num lc nk l0 L Wd S C O k).2.2) L Wd) H → va_D A (wT cI cZ cJ t st ct hd lv wd num lc lvs nb nk key ((pbN key num lc nk l0 L Wd S C O k).1) ((pbN key num lc nk l0 L Wd S C O k).2.1) ((pbN key num lc nk l0 L Wd S C O k).2.2) L Wd) → va_S A s.heap H locs → lv_has ls 4 [(0, .ref t), (1, .int (nI l0)), (2, .int (nI k))] → W p l e ({ frames := 3, cells := 0, slots := 0, locals := 71 } : Room) s m args below meth c H locs 0 0 Q (F0 m 2 ls []) := by
    intro nf
    induction nf with
    | zero => intro k  hvL1 hFL1; omega
    | succ nf ihL1 =>
      intro k  hvL1 hFL1  H locs ls hP hD hS hl
      refine lv_iload_n hx hb dX3_putBack_2 rfl (lv_at hl 2 rfl) ?_
      refine lv_aload_n hx hb dX3_putBack_3 rfl (lv_at hl 0 rfl) ?_
      refine va_get (D := D) (ci := 3) (v := .int (nI lvs)) (C := RX3) (T := TX3) (N := 11) hx hb hts (by decide +kernel) hown hK hP 0 rfl rfl 2 (by decide) (hts (.fieldLink RX3 18 "VeiledFiles$Tree" "levels" "I") (by decide +kernel)) (fun _ h9 => h9) rfl dX3_putBack_4 ?_
      refine k_icmp_ge (tgt := 44) hx hb (by omega) (by omega) dX3_putBack_7 (by decide) (fun c1 => ?_) (fun c1 => ?_)
      · skip
        obtain rfl : lvs = k := by omega
        exact k_retv () hx hb hr hK hS hlk dX3_putBack_44 hP hD (trivial) hQ
      · skip
        refine lv_aload_n hx hb dX3_putBack_10 rfl (lv_at hl 0 rfl) ?_
        refine lv_iload_n hx hb dX3_putBack_11 rfl (lv_at hl 1 rfl) ?_
        refine lv_iload_n hx hb dX3_putBack_12 rfl (lv_at hl 2 rfl) ?_
        refine k_vi (As := [.int (nI l0), .int (nI k)]) (rest := []) (w2 := fun u : Unit => (wT cI cZ cJ t st ct hd lv wd num lc lvs nb nk key ((pbN key num lc nk l0 L Wd S C O k).1) ((pbN key num lc nk l0 L Wd S C O k).2.1) ((pbN key num lc nk l0 L Wd S C O k).2.2) L Wd)) ⟨hx, hb, hml, hown, hts⟩ (c_bucketOver l D cI cZ cJ t st ct hd lv wd num lc lvs nb nk key ((pbN key num lc nk l0 L Wd S C O k).1) ((pbN key num lc nk l0 L Wd S C O k).2.1) ((pbN key num lc nk l0 L Wd S C O k).2.2) L Wd l0 k hT hl0 c1) (cwV 2 hts gX3_putBack_X3_bucketOver rfl rfl rfl (by decide +kernel) ⟨Nat.le_of_ble_eq_true rfl, Nat.le_of_ble_eq_true rfl⟩) hP hD hK hS hA [0, 1, 2, 3, 4, 5] [] [0, 1, 2, 3, 4, 5] rfl rfl (by decide) (fun u => rfl) rfl rfl (q0 := 0) rfl rfl hl.1 rfl (Nat.le_of_ble_eq_true rfl) dX3_putBack_13 ⟨Nat.le_of_ble_eq_true rfl, Nat.le_of_ble_eq_true rfl⟩ (fun r u H locs hu1 hP hD hS => ?_)
        refine k_t1 (show r = nI (pathB lc l0 k) from hu1) ?_
        have hpl := pathB_lt (up := k) hT hl0
        have hzk : (pbN key num lc nk l0 L Wd S C O k).1 (pathB lc l0 k) = zrow := by rw [pbN_S hT hl0 c1 k (Nat.le_refl k)]; exact hz k c1
        refine lv_istore_n (lv' := [(3, .int (nI (pathB lc l0 k))), (0, .ref t), (1, .int (nI l0)), (2, .int (nI k))]) hx hb dX3_putBack_16 rfl hl (by decide) rfl (fun ls hl => ?_)
        refine lv_aload_n hx hb dX3_putBack_17 rfl (lv_at hl 1 rfl) ?_
        refine lv_iload_n hx hb dX3_putBack_18 rfl (lv_at hl 0 rfl) ?_
        refine lv_iload_n hx hb dX3_putBack_19 rfl (lv_at hl 3 rfl) ?_
        refine k_vv (As := [.int (nI (pathB lc l0 k)), .int (nI k)]) (rest := []) (w2 := fun u : Unit => (wT cI cZ cJ t st ct hd lv wd num lc lvs nb nk key (setRow (pbN key num lc nk l0 L Wd S C O k).1 (pathB lc l0 k) (fillN lc k (pathB lc l0 k) L Wd ((pbN key num lc nk l0 L Wd S C O k).1 (pathB lc l0 k)) (pbN key num lc nk l0 L Wd S C O k).2.2 nk).1) ((pbN key num lc nk l0 L Wd S C O k).2.1) ((fillN lc k (pathB lc l0 k) L Wd ((pbN key num lc nk l0 L Wd S C O k).1 (pathB lc l0 k)) (pbN key num lc nk l0 L Wd S C O k).2.2 nk).2.1) L Wd)) ⟨hx, hb, hml, hown, hts⟩ (c_load l D cI cZ cJ t st ct hd lv wd num lc lvs nb nk key ((pbN key num lc nk l0 L Wd S C O k).1) ((pbN key num lc nk l0 L Wd S C O k).2.1) ((pbN key num lc nk l0 L Wd S C O k).2.2) L Wd (pathB lc l0 k) k hT hpl c1 (fun n hn h0 => pb_sub (P := fun n => n < nk → ∃ l0, l0 < lc ∧ L n = nI l0) (fun n q hn => hL n hn q) k n h0 hn)) (cwV 2 hts gX3_putBack_X3_load rfl rfl rfl (by decide +kernel) ⟨Nat.le_of_ble_eq_true rfl, Nat.le_of_ble_eq_true rfl⟩) hP hD hK hS hA [0, 1, 2, 3, 4, 5] [] [0, 1, 2, 3, 4, 5] rfl rfl (by decide) (fun u => rfl) rfl rfl (q0 := 0) rfl rfl hl.1 rfl (Nat.le_of_ble_eq_true rfl) dX3_putBack_20 ⟨Nat.le_of_ble_eq_true rfl, Nat.le_of_ble_eq_true rfl⟩ (fun u H locs hu2 hP hD hS => ?_)
        rw [hzk] at hP hD
        refine lv_aload_n hx hb dX3_putBack_23 rfl (lv_at hl 1 rfl) ?_
        refine va_get (D := D) (ci := 3) (v := .ref ct) (C := RX3) (T := TX3) (N := 11) hx hb hts (by decide +kernel) hown hK hP 0 rfl rfl 6 (by decide) (hts (.fieldLink RX3 31 "VeiledFiles$Tree" "counters" "[I") (by decide +kernel)) (fun _ h9 => h9) rfl dX3_putBack_24 ?_
        refine lv_iload_n hx hb dX3_putBack_27 rfl (lv_at hl 0 rfl) ?_
        refine lv_dup2_11 hx hb dX3_putBack_28 rfl rfl ?_
        refine k_iald hx hb hK hP 2 0 rfl rfl (pathB lc l0 k) (by omega) (by omega) (v := ((pbN key num lc nk l0 L Wd S C O k).2.1) (pathB lc l0 k)) (rfl) dX3_putBack_29 ?_
        refine lv_iconst (v := nI 1) hx hb dX3_putBack_30 (by decide) ?_
        refine lv_iadd hx hb dX3_putBack_31 ?_
        refine k_iast hx hb hK hP hD hS 2 0 rfl rfl (pathB lc l0 k) (by omega) (by omega) (g := (upd ((pbN key num lc nk l0 L Wd S C O k).2.1) (pathB lc l0 k) ((((pbN key num lc nk l0 L Wd S C O k).2.1) (pathB lc l0 k)) + (nI 1)))) (rfl) dX3_putBack_32 (fun H locs hP hD hS => ?_)
        have hP : va_P D vwCl (wT cI cZ cJ t st ct hd lv wd num lc lvs nb nk key (setRow (pbN key num lc nk l0 L Wd S C O k).1 (pathB lc l0 k) (fillN lc k (pathB lc l0 k) L Wd zrow (pbN key num lc nk l0 L Wd S C O k).2.2 nk).1) (upd ((pbN key num lc nk l0 L Wd S C O k).2.1) (pathB lc l0 k) ((((pbN key num lc nk l0 L Wd S C O k).2.1) (pathB lc l0 k)) + (nI 1))) ((fillN lc k (pathB lc l0 k) L Wd zrow (pbN key num lc nk l0 L Wd S C O k).2.2 nk).2.1) L Wd) _ := hP
        have hD : va_D A (wT cI cZ cJ t st ct hd lv wd num lc lvs nb nk key (setRow (pbN key num lc nk l0 L Wd S C O k).1 (pathB lc l0 k) (fillN lc k (pathB lc l0 k) L Wd zrow (pbN key num lc nk l0 L Wd S C O k).2.2 nk).1) (upd ((pbN key num lc nk l0 L Wd S C O k).2.1) (pathB lc l0 k) ((((pbN key num lc nk l0 L Wd S C O k).2.1) (pathB lc l0 k)) + (nI 1))) ((fillN lc k (pathB lc l0 k) L Wd zrow (pbN key num lc nk l0 L Wd S C O k).2.2 nk).2.1) L Wd) := hD
        refine lv_aload_n hx hb dX3_putBack_33 rfl (lv_at hl 1 rfl) ?_
        refine lv_iload_n hx hb dX3_putBack_34 rfl (lv_at hl 0 rfl) ?_
        refine k_vv (As := [.int (nI (pathB lc l0 k))]) (rest := []) (w2 := fun u : Unit => (wT cI cZ cJ t st ct hd lv wd num lc lvs nb nk key (setRow (setRow (pbN key num lc nk l0 L Wd S C O k).1 (pathB lc l0 k) (fillN lc k (pathB lc l0 k) L Wd zrow (pbN key num lc nk l0 L Wd S C O k).2.2 nk).1) (pathB lc l0 k) (sealR key num ((upd (pbN key num lc nk l0 L Wd S C O k).2.1 (pathB lc l0 k) ((pbN key num lc nk l0 L Wd S C O k).2.1 (pathB lc l0 k) + nI 1)) (pathB lc l0 k)) (pathB lc l0 k) ((setRow (pbN key num lc nk l0 L Wd S C O k).1 (pathB lc l0 k) (fillN lc k (pathB lc l0 k) L Wd zrow (pbN key num lc nk l0 L Wd S C O k).2.2 nk).1) (pathB lc l0 k)))) (upd ((pbN key num lc nk l0 L Wd S C O k).2.1) (pathB lc l0 k) ((((pbN key num lc nk l0 L Wd S C O k).2.1) (pathB lc l0 k)) + (nI 1))) ((fillN lc k (pathB lc l0 k) L Wd zrow (pbN key num lc nk l0 L Wd S C O k).2.2 nk).2.1) L Wd)) ⟨hx, hb, hml, hown, hts⟩ (c_seal l D cI cZ cJ t st ct hd lv wd num lc lvs nb nk key (setRow (pbN key num lc nk l0 L Wd S C O k).1 (pathB lc l0 k) (fillN lc k (pathB lc l0 k) L Wd zrow (pbN key num lc nk l0 L Wd S C O k).2.2 nk).1) (upd ((pbN key num lc nk l0 L Wd S C O k).2.1) (pathB lc l0 k) ((((pbN key num lc nk l0 L Wd S C O k).2.1) (pathB lc l0 k)) + (nI 1))) ((fillN lc k (pathB lc l0 k) L Wd zrow (pbN key num lc nk l0 L Wd S C O k).2.2 nk).2.1) L Wd (pathB lc l0 k) hT hpl) (cwV 1 hts gX3_putBack_X3_seal rfl rfl rfl (by decide +kernel) ⟨Nat.le_of_ble_eq_true rfl, Nat.le_of_ble_eq_true rfl⟩) hP hD hK hS hA [0, 1, 2, 3, 4, 5] [] [0, 1, 2, 3, 4, 5] rfl rfl (by decide) (fun u => rfl) rfl rfl (q0 := 0) rfl rfl hl.1 rfl (Nat.le_of_ble_eq_true rfl) dX3_putBack_35 ⟨Nat.le_of_ble_eq_true rfl, Nat.le_of_ble_eq_true rfl⟩ (fun u H locs hu3 hP hD hS => ?_)
        have hE4 : (wT cI cZ cJ t st ct hd lv wd num lc lvs nb nk key (setRow (setRow (pbN key num lc nk l0 L Wd S C O k).1 (pathB lc l0 k) (fillN lc k (pathB lc l0 k) L Wd zrow (pbN key num lc nk l0 L Wd S C O k).2.2 nk).1) (pathB lc l0 k) (sealR key num ((upd (pbN key num lc nk l0 L Wd S C O k).2.1 (pathB lc l0 k) ((pbN key num lc nk l0 L Wd S C O k).2.1 (pathB lc l0 k) + nI 1)) (pathB lc l0 k)) (pathB lc l0 k) ((setRow (pbN key num lc nk l0 L Wd S C O k).1 (pathB lc l0 k) (fillN lc k (pathB lc l0 k) L Wd zrow (pbN key num lc nk l0 L Wd S C O k).2.2 nk).1) (pathB lc l0 k)))) (upd ((pbN key num lc nk l0 L Wd S C O k).2.1) (pathB lc l0 k) ((((pbN key num lc nk l0 L Wd S C O k).2.1) (pathB lc l0 k)) + (nI 1))) ((fillN lc k (pathB lc l0 k) L Wd zrow (pbN key num lc nk l0 L Wd S C O k).2.2 nk).2.1) L Wd) = (wT cI cZ cJ t st ct hd lv wd num lc lvs nb nk key ((pbN key num lc nk l0 L Wd S C O (k + 1)).1) (upd ((pbN key num lc nk l0 L Wd S C O k).2.1) (pathB lc l0 k) ((((pbN key num lc nk l0 L Wd S C O k).2.1) (pathB lc l0 k)) + (nI 1))) ((fillN lc k (pathB lc l0 k) L Wd zrow (pbN key num lc nk l0 L Wd S C O k).2.2 nk).2.1) L Wd) := by rw [setRow_s, setRow_2, pk_us]; rfl
        rw [hE4] at hP hD
        have hE5 : (wT cI cZ cJ t st ct hd lv wd num lc lvs nb nk key ((pbN key num lc nk l0 L Wd S C O (k + 1)).1) (upd ((pbN key num lc nk l0 L Wd S C O k).2.1) (pathB lc l0 k) ((((pbN key num lc nk l0 L Wd S C O k).2.1) (pathB lc l0 k)) + (nI 1))) ((fillN lc k (pathB lc l0 k) L Wd zrow (pbN key num lc nk l0 L Wd S C O k).2.2 nk).2.1) L Wd) = (wT cI cZ cJ t st ct hd lv wd num lc lvs nb nk key ((pbN key num lc nk l0 L Wd S C O (k + 1)).1) ((pbN key num lc nk l0 L Wd S C O (k + 1)).2.1) ((fillN lc k (pathB lc l0 k) L Wd zrow (pbN key num lc nk l0 L Wd S C O k).2.2 nk).2.1) L Wd) := rfl
        rw [hE5] at hP hD
        have hE6 : (wT cI cZ cJ t st ct hd lv wd num lc lvs nb nk key ((pbN key num lc nk l0 L Wd S C O (k + 1)).1) ((pbN key num lc nk l0 L Wd S C O (k + 1)).2.1) ((fillN lc k (pathB lc l0 k) L Wd zrow (pbN key num lc nk l0 L Wd S C O k).2.2 nk).2.1) L Wd) = (wT cI cZ cJ t st ct hd lv wd num lc lvs nb nk key ((pbN key num lc nk l0 L Wd S C O (k + 1)).1) ((pbN key num lc nk l0 L Wd S C O (k + 1)).2.1) ((pbN key num lc nk l0 L Wd S C O (k + 1)).2.2) L Wd) := rfl
        rw [hE6] at hP hD
        refine lv_iinc (v := nI (k + 1)) (lv' := [(2, .int (nI (k + 1))), (3, .int (nI (pathB lc l0 k))), (0, .ref t), (1, .int (nI l0))]) hx hb dX3_putBack_38 hl (k := 3) rfl (nI_add k 1) (by decide) rfl (fun ls hl => ?_)
        refine lv_goto (tgt := 2) hx hb dX3_putBack_41 (by decide) ?_
        exact ihL1 (k + 1)  (by omega) (by omega)  _ _ _ hP hD hS (lv_sub hl [2, 3, 0] rfl)
  exact L1 (lvs + 1) 0  (by omega) (by omega)  _ _ _ hP hD hS (lv_sub hl [1, 2, 0] rfl)

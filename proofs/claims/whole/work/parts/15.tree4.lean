theorem st_hf {lc l0 up sl : Nat} {S : Nat → Nat → Int32} (hf2 : ∀ j, j < 4 * up + sl → ¬ S (pathB lc l0 (j / 4)) (6 * (j % 4)) = 0) (hs : sl < 4) (c3 : ¬ S (pathB lc l0 up) (6 * sl) = 0) : ∀ j, j < 4 * up + (sl + 1) → ¬ S (pathB lc l0 (j / 4)) (6 * (j % 4)) = 0 := by
  intro j hj
  by_cases hj2 : j < 4 * up + sl
  · exact hf2 j hj2
  · have e : j = 4 * up + sl := by omega
    subst e
    rw [show (4 * up + sl) / 4 = up by omega, show (4 * up + sl) % 4 = sl by omega]
    exact c3
def fiK (f : Nat → Int32) (v : Int32) (k : Nat) : Nat → Int32 := fun j => if j < k then v else f j
theorem fiK_0 {f : Nat → Int32} {v : Int32} : fiK f v 0 = f := by funext j; simp [fiK]
theorem fiK_s {f : Nat → Int32} {v : Int32} {k : Nat} : upd (fiK f v k) k v = fiK f v (k + 1) := by
  funext i
  by_cases h : i = k
  · subst h; simp [upd, fiK]
  · have h1 : (i < k + 1) = (i < k) := by apply propext; omega
    simp [upd, h, fiK, h1]
theorem fiK_lt {f : Nat → Int32} {v : Int32} {k j : Nat} (h : j < k) : fiK f v k j = v := by simp [fiK, h]
abbrev wA1 (cI cZ cJ : ClassId) (a : Nat) (n : Nat) (f : Nat → Int32) : va_W := [(a, .inl (cI, n, .inl f))]
abbrev wTr (cI cZ cJ : ClassId) (t : Nat) (st : Nat) (ct : Nat) (hd : Nat) (lv : Nat) (wd : Nat) (num : Int32) (lc : Nat) (lvs : Nat) (nb : Nat) (nk : Nat) (key : Int32) (S : Nat → Int32) (C : Nat → Int32) (O : Nat → Int32) (L : Nat → Int32) (Wd : Nat → Int32) : va_W := [(t, .inr (3, [.int num, .int (nI lc), .int (nI lvs), .int (nI nb), .int (nI nk), .ref st, .ref ct, .ref hd, .ref lv, .ref wd, .int key])), (st, .inl (cI, 25 * nb, .inl S)), (ct, .inl (cI, nb, .inl C)), (hd, .inl (cZ, nk, .inl O)), (lv, .inl (cI, nk, .inl L)), (wd, .inl (cI, 4 * nk, .inl Wd))]
set_option maxHeartbeats 800000 in
set_option maxRecDepth 100000 in
theorem c_clearWords (l : Launch) (D : va_G) (cI cZ cJ : ClassId) (t : Nat) (st : Nat) (ct : Nat) (hd : Nat) (lv : Nat) (wd : Nat) (num : Int32) (lc : Nat) (lvs : Nat) (nb : Nat) (nk : Nat) (key : Int32) (S : Nat → Nat → Int32) (C : Nat → Int32) (O : Nat → Int32) (L : Nat → Int32) (Wd : Nat → Nat → Int32) (n : Nat) (hT : TP lc lvs nb nk) (hn : n < nk) : KV l yX3_clearWords wsX3_clearWords ({ frames := 1, cells := 0, slots := 0, locals := 23 }) D (kty cI cZ cJ) [.ref t, .int (nI n)] (wT cI cZ cJ t st ct hd lv wd num lc lvs nb nk key S C O L Wd) (fun (_ : Unit) => True) (fun _ : Unit => (wT cI cZ cJ t st ct hd lv wd num lc lvs nb nk key S C O L (setRow Wd n (zerK (Wd n) 4)))) 0 0 := by
  refine k_headV (cc := cX3_clearWords) (maxL := 3) (ret := none) (by decide) rfl (Nat.le_of_ble_eq_true rfl) ?_
  intro p e s m below meth c A ls args Q hx hb hr hml hts hown hlk hnm hA hK hP hD hS hl hQ
  have hq := hT.bd
  have hl : lv_has ls 3 [(0, .ref t), (1, .int (nI n))] := hl
  refine lv_iconst (v := nI 0) hx hb dX3_clearWords_0 (by decide) ?_
  refine lv_istore_n (lv' := [(2, .int (nI 0)), (0, .ref t), (1, .int (nI n))]) hx hb dX3_clearWords_1 rfl hl (by decide) rfl (fun ls hl => ?_)
  have hE1 : (wT cI cZ cJ t st ct hd lv wd num lc lvs nb nk key S C O L Wd) = (wT cI cZ cJ t st ct hd lv wd num lc lvs nb nk key S C O L (setRow Wd n (zerK (Wd n) 0))) := by rw [zerK_0, setRow_id]
  rw [hE1] at hP hD
  have L1 : ∀ (nf k : Nat) (hvL1 : k ≤ 4) (hFL1 : 4 - k < nf) (H : Heap) (locs : List Loc) (ls : Array Slot), va_P D vwCl (wT cI cZ cJ t st ct hd lv wd num lc lvs nb nk key S C O L (setRow Wd n (zerK (Wd n) k))) H → va_D A (wT cI cZ cJ t st ct hd lv wd num lc lvs nb nk key S C O L (setRow Wd n (zerK (Wd n) k))) → va_S A s.heap H locs → lv_has ls 3 [(0, .ref t), (1, .int (nI n)), (2, .int (nI k))] → W p l e ({ frames := 1, cells := 0, slots := 0, locals := 23 } : Room) s m args below meth c H locs 0 0 Q (F0 m 2 ls []) := by
    intro nf
    induction nf with
    | zero => intro k  hvL1 hFL1; omega
    | succ nf ihL1 =>
      intro k  hvL1 hFL1  H locs ls hP hD hS hl
      refine lv_iload_n hx hb dX3_clearWords_2 rfl (lv_at hl 2 rfl) ?_
      refine lv_iconst (v := nI 4) hx hb dX3_clearWords_3 (by decide) ?_
      refine k_icmp_ge (tgt := 20) hx hb (by omega) (by omega) dX3_clearWords_4 (by decide) (fun c1 => ?_) (fun c1 => ?_)
      · skip
        obtain rfl : k = 4 := by omega
        exact k_retv () hx hb hr hK hS hlk dX3_clearWords_20 hP hD (trivial) hQ
      · skip
        refine lv_aload_n hx hb dX3_clearWords_7 rfl (lv_at hl 0 rfl) ?_
        refine lv_iload_n hx hb dX3_clearWords_8 rfl (lv_at hl 1 rfl) ?_
        refine lv_iload_n hx hb dX3_clearWords_9 rfl (lv_at hl 2 rfl) ?_
        refine lv_iconst (v := nI 0) hx hb dX3_clearWords_10 (by decide) ?_
        refine k_vv (As := [.int (nI n), .int (nI k), .int (nI 0)]) (rest := []) (w2 := fun u : Unit => (wT cI cZ cJ t st ct hd lv wd num lc lvs nb nk key S C O L (setRow (setRow Wd n (zerK (Wd n) k)) n (upd ((setRow Wd n (zerK (Wd n) k)) n) k (nI 0))))) ⟨hx, hb, hml, hown, hts⟩ (c_setWord l D cI cZ cJ t st ct hd lv wd num lc lvs nb nk key S C O L (setRow Wd n (zerK (Wd n) k)) n k (nI 0) hT hn (by omega)) (cwV 3 hts gX3_clearWords_X3_setWord rfl rfl rfl (by decide +kernel) ⟨Nat.le_of_ble_eq_true rfl, Nat.le_of_ble_eq_true rfl⟩) hP hD hK hS hA [0, 1, 2, 3, 4, 5] [] [0, 1, 2, 3, 4, 5] rfl rfl (by decide) (fun u => rfl) rfl rfl (q0 := 0) rfl rfl hl.1 rfl (Nat.le_of_ble_eq_true rfl) dX3_clearWords_11 ⟨Nat.le_of_ble_eq_true rfl, Nat.le_of_ble_eq_true rfl⟩ (fun u H locs hu2 hP hD hS => ?_)
        have hE3 : (wT cI cZ cJ t st ct hd lv wd num lc lvs nb nk key S C O L (setRow (setRow Wd n (zerK (Wd n) k)) n (upd ((setRow Wd n (zerK (Wd n) k)) n) k (nI 0)))) = (wT cI cZ cJ t st ct hd lv wd num lc lvs nb nk key S C O L (setRow Wd n (zerK (Wd n) (k + 1)))) := by rw [setRow_s, setRow_2, show upd (zerK (Wd n) k) k (nI 0) = zerK (Wd n) (k + 1) from zerK_s]
        rw [hE3] at hP hD
        refine lv_iinc (v := nI (k + 1)) (lv' := [(2, .int (nI (k + 1))), (0, .ref t), (1, .int (nI n))]) hx hb dX3_clearWords_14 hl (k := 2) rfl (nI_add k 1) (by decide) rfl (fun ls hl => ?_)
        refine lv_goto (tgt := 2) hx hb dX3_clearWords_17 (by decide) ?_
        exact ihL1 (k + 1)  (by omega) (by omega)  _ _ _ hP hD hS (lv_sub hl [1, 2, 0] rfl)
  exact L1 (4 + 1) 0  (by omega) (by omega)  _ _ _ hP hD hS (lv_sub hl [1, 2, 0] rfl)

set_option maxHeartbeats 800000 in
set_option maxRecDepth 100000 in
theorem c_settle (l : Launch) (D : va_G) (cI cZ cJ : ClassId) (t : Nat) (st : Nat) (ct : Nat) (hd : Nat) (lv : Nat) (wd : Nat) (num : Int32) (lc : Nat) (lvs : Nat) (nb : Nat) (nk : Nat) (key : Int32) (S : Nat → Nat → Int32) (C : Nat → Int32) (O : Nat → Int32) (L : Nat → Int32) (Wd : Nat → Nat → Int32) (n l0 : Nat) (hT : TP lc lvs nb nk) (hn : n < nk) (hl0 : l0 < lc) (hLn : L n = nI l0) : KV l yX3_settle wsX3_settle ({ frames := 2, cells := 0, slots := 0, locals := 47 }) D (kty cI cZ cJ) [.ref t, .int (nI n)] (wT cI cZ cJ t st ct hd lv wd num lc lvs nb nk key S C O L Wd) (fun (_ : Unit) => True) (fun _ : Unit => (wT cI cZ cJ t st ct hd lv wd num lc lvs nb nk key (stS lc lvs l0 n (L n) (Wd n) S) C (stO lc lvs l0 n S O) L Wd)) 0 0 := by
  refine k_headV (cc := cX3_settle) (maxL := 5) (ret := none) (by decide) rfl (Nat.le_of_ble_eq_true rfl) ?_
  intro p e s m below meth c A ls args Q hx hb hr hml hts hown hlk hnm hA hK hP hD hS hl hQ
  have hq := hT.bd
  have hl : lv_has ls 5 [(0, .ref t), (1, .int (nI n))] := hl
  refine lv_iconst (v := nI 0) hx hb dX3_settle_0 (by decide) ?_
  refine lv_istore_n (lv' := [(2, .int (nI 0)), (0, .ref t), (1, .int (nI n))]) hx hb dX3_settle_1 rfl hl (by decide) rfl (fun ls hl => ?_)
  have L1 : ∀ (nf up : Nat) (hvL1 : up ≤ lvs) (hFL1 : lvs - up < nf) (hf : ∀ j, j < 4 * up → ¬ S (pathB lc l0 (j / 4)) (6 * (j % 4)) = 0) (H : Heap) (locs : List Loc) (ls : Array Slot), va_P D vwCl (wT cI cZ cJ t st ct hd lv wd num lc lvs nb nk key S C O L Wd) H → va_D A (wT cI cZ cJ t st ct hd lv wd num lc lvs nb nk key S C O L Wd) → va_S A s.heap H locs → lv_has ls 5 [(0, .ref t), (1, .int (nI n)), (2, .int (nI up))] → W p l e ({ frames := 2, cells := 0, slots := 0, locals := 47 } : Room) s m args below meth c H locs 0 0 Q (F0 m 2 ls []) := by
    intro nf
    induction nf with
    | zero => intro up  hvL1 hFL1; omega
    | succ nf ihL1 =>
      intro up  hvL1 hFL1 hf H locs ls hP hD hS hl
      refine lv_iload_n hx hb dX3_settle_2 rfl (lv_at hl 2 rfl) ?_
      refine lv_aload_n hx hb dX3_settle_3 rfl (lv_at hl 0 rfl) ?_
      refine va_get (D := D) (ci := 3) (v := .int (nI lvs)) (C := RX3) (T := TX3) (N := 11) hx hb hts (by decide +kernel) hown hK hP 0 rfl rfl 2 (by decide) (hts (.fieldLink RX3 18 "VeiledFiles$Tree" "levels" "I") (by decide +kernel)) (fun _ h9 => h9) rfl dX3_settle_4 ?_
      refine k_icmp_ge (tgt := 66) hx hb (by omega) (by omega) dX3_settle_7 (by decide) (fun c1 => ?_) (fun c1 => ?_)
      · skip
        obtain rfl : lvs = up := by omega
        have hst := st_n (n := n) (lf := L n) (wd := Wd n) (O := O) hf
        have hE1 : (wT cI cZ cJ t st ct hd lv wd num lc lvs nb nk key S C O L Wd) = (wT cI cZ cJ t st ct hd lv wd num lc lvs nb nk key (stS lc lvs l0 n (L n) (Wd n) S) C O L Wd) := by rw [hst.1]
        rw [hE1] at hP hD
        have hE2 : (wT cI cZ cJ t st ct hd lv wd num lc lvs nb nk key (stS lc lvs l0 n (L n) (Wd n) S) C O L Wd) = (wT cI cZ cJ t st ct hd lv wd num lc lvs nb nk key (stS lc lvs l0 n (L n) (Wd n) S) C (stO lc lvs l0 n S O) L Wd) := by rw [hst.2]
        rw [hE2] at hP hD
        exact k_retv () hx hb hr hK hS hlk dX3_settle_66 hP hD (trivial) hQ
      · skip
        refine lv_aload_n hx hb dX3_settle_10 rfl (lv_at hl 0 rfl) ?_
        refine lv_aload_n hx hb dX3_settle_11 rfl (lv_at hl 0 rfl) ?_
        refine va_get (D := D) (ci := 3) (v := .ref lv) (C := RX3) (T := TX3) (N := 11) hx hb hts (by decide +kernel) hown hK hP 0 rfl rfl 8 (by decide) (hts (.fieldLink RX3 38 "VeiledFiles$Tree" "leaves" "[I") (by decide +kernel)) (fun _ h9 => h9) rfl dX3_settle_12 ?_
        refine lv_iload_n hx hb dX3_settle_15 rfl (lv_at hl 1 rfl) ?_
        refine k_iald hx hb hK hP 4 0 rfl rfl n (by omega) (by omega) (v := nI l0) (hLn) dX3_settle_16 ?_
        refine lv_iload_n hx hb dX3_settle_17 rfl (lv_at hl 2 rfl) ?_
        refine k_vi (As := [.int (nI l0), .int (nI up)]) (rest := []) (w2 := fun u : Unit => (wT cI cZ cJ t st ct hd lv wd num lc lvs nb nk key S C O L Wd)) ⟨hx, hb, hml, hown, hts⟩ (c_bucketOver l D cI cZ cJ t st ct hd lv wd num lc lvs nb nk key S C O L Wd l0 up hT hl0 c1) (cwV 2 hts gX3_settle_X3_bucketOver rfl rfl rfl (by decide +kernel) ⟨Nat.le_of_ble_eq_true rfl, Nat.le_of_ble_eq_true rfl⟩) hP hD hK hS hA [0, 1, 2, 3, 4, 5] [] [0, 1, 2, 3, 4, 5] rfl rfl (by decide) (fun u => rfl) rfl rfl (q0 := 0) rfl rfl hl.1 rfl (Nat.le_of_ble_eq_true rfl) dX3_settle_18 ⟨Nat.le_of_ble_eq_true rfl, Nat.le_of_ble_eq_true rfl⟩ (fun r u H locs hu3 hP hD hS => ?_)
        refine k_t1 (show r = nI (pathB lc l0 up) from hu3) ?_
        have hpl := pathB_lt (up := up) hT hl0
        refine lv_istore_n (lv' := [(3, .int (nI (pathB lc l0 up))), (0, .ref t), (1, .int (nI n)), (2, .int (nI up))]) hx hb dX3_settle_21 rfl hl (by decide) rfl (fun ls hl => ?_)
        refine lv_iconst (v := nI 0) hx hb dX3_settle_22 (by decide) ?_
        refine lv_istore (lv' := [(4, .int (nI 0)), (3, .int (nI (pathB lc l0 up))), (0, .ref t), (1, .int (nI n)), (2, .int (nI up))]) hx hb dX3_settle_23 hl (by decide) rfl (fun ls hl => ?_)
        have L2 : ∀ (nf sl : Nat) (hvL2 : sl ≤ 4) (hFL2 : 4 - sl < nf) (hf2 : ∀ j, j < 4 * up + sl → ¬ S (pathB lc l0 (j / 4)) (6 * (j % 4)) = 0) (H : Heap) (locs : List Loc) (ls : Array Slot), va_P D vwCl (wT cI cZ cJ t st ct hd lv wd num lc lvs nb nk key S C O L Wd) H → va_D A (wT cI cZ cJ t st ct hd lv wd num lc lvs nb nk key S C O L Wd) → va_S A s.heap H locs → lv_has ls 5 [(0, .ref t), (1, .int (nI n)), (2, .int (nI up)), (3, .int (nI (pathB lc l0 up))), (4, .int (nI sl))] → W p l e ({ frames := 2, cells := 0, slots := 0, locals := 47 } : Room) s m args below meth c H locs 0 0 Q (F0 m 25 ls []) := by
          intro nf
          induction nf with
          | zero => intro sl  hvL2 hFL2; omega
          | succ nf ihL2 =>
            intro sl  hvL2 hFL2 hf2 H locs ls hP hD hS hl
            refine lv_iload hx hb dX3_settle_25 (lv_at hl 4 rfl) ?_
            refine lv_iconst (v := nI 4) hx hb dX3_settle_27 (by decide) ?_
            refine k_icmp_ge (tgt := 60) hx hb (by omega) (by omega) dX3_settle_28 (by decide) (fun c2 => ?_) (fun c2 => ?_)
            · skip
              obtain rfl : sl = 4 := by omega
              refine lv_iinc (v := nI (up + 1)) (lv' := [(2, .int (nI (up + 1))), (0, .ref t), (1, .int (nI n)), (3, .int (nI (pathB lc l0 up))), (4, .int (nI 4))]) hx hb dX3_settle_60 hl (k := 2) rfl (nI_add up 1) (by decide) rfl (fun ls hl => ?_)
              refine lv_goto (tgt := 2) hx hb dX3_settle_63 (by decide) ?_
              exact ihL1 (up + 1)  (by omega) (by omega) hf2 _ _ _ hP hD hS (lv_sub hl [1, 2, 0] rfl)
            · skip
              refine lv_aload_n hx hb dX3_settle_31 rfl (lv_at hl 0 rfl) ?_
              refine va_get (D := D) (ci := 3) (v := .ref st) (C := RX3) (T := TX3) (N := 11) hx hb hts (by decide +kernel) hown hK hP 0 rfl rfl 5 (by decide) (hts (.fieldLink RX3 27 "VeiledFiles$Tree" "store" "[I") (by decide +kernel)) (fun _ h9 => h9) rfl dX3_settle_32 ?_
              refine lv_iload_n hx hb dX3_settle_35 rfl (lv_at hl 3 rfl) ?_
              refine lv_iload hx hb dX3_settle_36 (lv_at hl 4 rfl) ?_
              refine k_si (As := [.int (nI (pathB lc l0 up)), .int (nI sl)]) (rest := [.ref st]) (w2 := fun u : Unit => (wT cI cZ cJ t st ct hd lv wd num lc lvs nb nk key S C O L Wd)) ⟨hx, hb, hml, hown, hts⟩ (c_slotStart l D cI cZ cJ  (pathB lc l0 up) sl) (va_cwS 2 hts gX3_settle_X3_slotStart rfl rfl rfl (by decide +kernel) ⟨Nat.le_of_ble_eq_true rfl, Nat.le_of_ble_eq_true rfl⟩) hP hD hK hS hA [] [0, 1, 2, 3, 4, 5] [0, 1, 2, 3, 4, 5] rfl rfl (by decide) (fun u => rfl) rfl hl.1 rfl (Nat.le_of_ble_eq_true rfl) dX3_settle_38 ⟨Nat.le_of_ble_eq_true rfl, Nat.le_of_ble_eq_true rfl⟩ (fun r u H locs hu4 hP hD hS => ?_)
              refine k_t1 (show r = nI (25 * pathB lc l0 up + 6 * sl) from hu4) ?_
              refine k_iald hx hb hK hP 1 0 rfl rfl (25 * pathB lc l0 up + 6 * sl) (by omega) (by omega) (v := S (pathB lc l0 up) (6 * sl)) (fl25_eq (b := pathB lc l0 up) (i := 6 * sl) (by omega) (by omega)) dX3_settle_41 ?_
              refine lv_if_ne (tgt := 54) hx hb dX3_settle_42 (by decide) (fun c3 => ?_) (fun c3 => ?_)
              · skip
                refine lv_iinc (v := nI (sl + 1)) (lv' := [(4, .int (nI (sl + 1))), (0, .ref t), (1, .int (nI n)), (2, .int (nI up)), (3, .int (nI (pathB lc l0 up)))]) hx hb dX3_settle_54 hl (k := 4) rfl (nI_add sl 1) (by decide) rfl (fun ls hl => ?_)
                refine lv_goto (tgt := 25) hx hb dX3_settle_57 (by decide) ?_
                exact ihL2 (sl + 1)  (by omega) (by omega) (st_hf hf2 c2 c3) _ _ _ hP hD hS (lv_sub hl [1, 2, 3, 4, 0] rfl)
              · skip
                refine lv_aload_n hx hb dX3_settle_45 rfl (lv_at hl 0 rfl) ?_
                refine lv_iload_n hx hb dX3_settle_46 rfl (lv_at hl 1 rfl) ?_
                refine lv_iload_n hx hb dX3_settle_47 rfl (lv_at hl 3 rfl) ?_
                refine lv_iload hx hb dX3_settle_48 (lv_at hl 4 rfl) ?_
                refine k_vv (As := [.int (nI n), .int (nI (pathB lc l0 up)), .int (nI sl)]) (rest := []) (w2 := fun u : Unit => (wT cI cZ cJ t st ct hd lv wd num lc lvs nb nk key (setRow S (pathB lc l0 up) (putR (S (pathB lc l0 up)) sl n (L n) (Wd n))) C (upd O n 0) L Wd)) ⟨hx, hb, hml, hown, hts⟩ (c_place l D cI cZ cJ t st ct hd lv wd num lc lvs nb nk key S C O L Wd n (pathB lc l0 up) sl hT hn hpl c2) (cwV 3 hts gX3_settle_X3_place rfl rfl rfl (by decide +kernel) ⟨Nat.le_of_ble_eq_true rfl, Nat.le_of_ble_eq_true rfl⟩) hP hD hK hS hA [0, 1, 2, 3, 4, 5] [] [0, 1, 2, 3, 4, 5] rfl rfl (by decide) (fun u => rfl) rfl rfl (q0 := 0) rfl rfl hl.1 rfl (Nat.le_of_ble_eq_true rfl) dX3_settle_50 ⟨Nat.le_of_ble_eq_true rfl, Nat.le_of_ble_eq_true rfl⟩ (fun u H locs hu5 hP hD hS => ?_)
                have hst := st_y (n := n) (lf := L n) (wd := Wd n) (O := O) c1 c2 c3 hf2
                have hE6 : (wT cI cZ cJ t st ct hd lv wd num lc lvs nb nk key (setRow S (pathB lc l0 up) (putR (S (pathB lc l0 up)) sl n (L n) (Wd n))) C (upd O n 0) L Wd) = (wT cI cZ cJ t st ct hd lv wd num lc lvs nb nk key (stS lc lvs l0 n (L n) (Wd n) S) C (upd O n 0) L Wd) := by rw [hst.1]
                rw [hE6] at hP hD
                have hE7 : (wT cI cZ cJ t st ct hd lv wd num lc lvs nb nk key (stS lc lvs l0 n (L n) (Wd n) S) C (upd O n 0) L Wd) = (wT cI cZ cJ t st ct hd lv wd num lc lvs nb nk key (stS lc lvs l0 n (L n) (Wd n) S) C (stO lc lvs l0 n S O) L Wd) := by rw [hst.2]
                rw [hE7] at hP hD
                exact k_retv () hx hb hr hK hS hlk dX3_settle_53 hP hD (trivial) hQ
        exact L2 (4 + 1) 0  (by omega) (by omega) hf _ _ _ hP hD hS (lv_sub hl [2, 3, 4, 1, 0] rfl)
  exact L1 (lvs + 1) 0  (by omega) (by omega) (fun j hj => absurd hj (by omega)) _ _ _ hP hD hS (lv_sub hl [1, 2, 0] rfl)

set_option maxHeartbeats 800000 in
set_option maxRecDepth 100000 in
theorem c_settleAll (l : Launch) (D : va_G) (cI cZ cJ : ClassId) (t : Nat) (st : Nat) (ct : Nat) (hd : Nat) (lv : Nat) (wd : Nat) (num : Int32) (lc : Nat) (lvs : Nat) (nb : Nat) (nk : Nat) (key : Int32) (S : Nat → Nat → Int32) (C : Nat → Int32) (O : Nat → Int32) (L : Nat → Int32) (Wd : Nat → Nat → Int32)  (hT : TP lc lvs nb nk) (hL : ∀ n, n < nk → ∃ l0, l0 < lc ∧ L n = nI l0) : KV l yX3_settleAll wsX3_settleAll ({ frames := 3, cells := 0, slots := 0, locals := 71 }) D (kty cI cZ cJ) [.ref t] (wT cI cZ cJ t st ct hd lv wd num lc lvs nb nk key S C O L Wd) (fun (_ : Unit) => True) (fun _ : Unit => (wT cI cZ cJ t st ct hd lv wd num lc lvs nb nk key (seK key num C (saN lc lvs L Wd S O nk).1 nb) C ((saN lc lvs L Wd S O nk).2) L Wd)) 0 0 := by
  refine k_headV (cc := cX3_settleAll) (maxL := 2) (ret := none) (by decide) rfl (Nat.le_of_ble_eq_true rfl) ?_
  intro p e s m below meth c A ls args Q hx hb hr hml hts hown hlk hnm hA hK hP hD hS hl hQ
  have hq := hT.bd
  have hl : lv_has ls 2 [(0, .ref t)] := hl
  refine lv_iconst (v := nI 0) hx hb dX3_settleAll_0 (by decide) ?_
  refine lv_istore_n (lv' := [(1, .int (nI 0)), (0, .ref t)]) hx hb dX3_settleAll_1 rfl hl (by decide) rfl (fun ls hl => ?_)
  have L1 : ∀ (nf n : Nat) (hvL1 : n ≤ nk) (hFL1 : nk - n < nf) (H : Heap) (locs : List Loc) (ls : Array Slot), va_P D vwCl (wT cI cZ cJ t st ct hd lv wd num lc lvs nb nk key ((saN lc lvs L Wd S O n).1) C ((saN lc lvs L Wd S O n).2) L Wd) H → va_D A (wT cI cZ cJ t st ct hd lv wd num lc lvs nb nk key ((saN lc lvs L Wd S O n).1) C ((saN lc lvs L Wd S O n).2) L Wd) → va_S A s.heap H locs → lv_has ls 2 [(0, .ref t), (1, .int (nI n))] → W p l e ({ frames := 3, cells := 0, slots := 0, locals := 71 } : Room) s m args below meth c H locs 0 0 Q (F0 m 2 ls []) := by
    intro nf
    induction nf with
    | zero => intro n  hvL1 hFL1; omega
    | succ nf ihL1 =>
      intro n  hvL1 hFL1  H locs ls hP hD hS hl
      refine lv_iload_n hx hb dX3_settleAll_2 rfl (lv_at hl 1 rfl) ?_
      refine lv_aload_n hx hb dX3_settleAll_3 rfl (lv_at hl 0 rfl) ?_
      refine va_get (D := D) (ci := 3) (v := .int (nI nk)) (C := RX3) (T := TX3) (N := 11) hx hb hts (by decide +kernel) hown hK hP 0 rfl rfl 4 (by decide) (hts (.fieldLink RX3 24 "VeiledFiles$Tree" "blocks" "I") (by decide +kernel)) (fun _ h9 => h9) rfl dX3_settleAll_4 ?_
      refine k_icmp_ge (tgt := 21) hx hb (by omega) (by omega) dX3_settleAll_7 (by decide) (fun c1 => ?_) (fun c1 => ?_)
      · skip
        obtain rfl : nk = n := by omega
        refine lv_iconst (v := nI 0) hx hb dX3_settleAll_21 (by decide) ?_
        refine lv_istore_n (lv' := [(1, .int (nI 0)), (0, .ref t)]) hx hb dX3_settleAll_22 rfl hl (by decide) rfl (fun ls hl => ?_)
        have hE1 : (wT cI cZ cJ t st ct hd lv wd num lc lvs nb nk key ((saN lc lvs L Wd S O nk).1) C ((saN lc lvs L Wd S O nk).2) L Wd) = (wT cI cZ cJ t st ct hd lv wd num lc lvs nb nk key (seK key num C (saN lc lvs L Wd S O nk).1 0) C ((saN lc lvs L Wd S O nk).2) L Wd) := by rw [seK_0]
        rw [hE1] at hP hD
        have L2 : ∀ (nf k : Nat) (hvL2 : k ≤ nb) (hFL2 : nb - k < nf) (H : Heap) (locs : List Loc) (ls : Array Slot), va_P D vwCl (wT cI cZ cJ t st ct hd lv wd num lc lvs nb nk key (seK key num C (saN lc lvs L Wd S O nk).1 k) C ((saN lc lvs L Wd S O nk).2) L Wd) H → va_D A (wT cI cZ cJ t st ct hd lv wd num lc lvs nb nk key (seK key num C (saN lc lvs L Wd S O nk).1 k) C ((saN lc lvs L Wd S O nk).2) L Wd) → va_S A s.heap H locs → lv_has ls 2 [(0, .ref t), (1, .int (nI k))] → W p l e ({ frames := 3, cells := 0, slots := 0, locals := 71 } : Room) s m args below meth c H locs 0 0 Q (F0 m 23 ls []) := by
          intro nf
          induction nf with
          | zero => intro k  hvL2 hFL2; omega
          | succ nf ihL2 =>
            intro k  hvL2 hFL2  H locs ls hP hD hS hl
            refine lv_iload_n hx hb dX3_settleAll_23 rfl (lv_at hl 1 rfl) ?_
            refine lv_aload_n hx hb dX3_settleAll_24 rfl (lv_at hl 0 rfl) ?_
            refine va_get (D := D) (ci := 3) (v := .int (nI nb)) (C := RX3) (T := TX3) (N := 11) hx hb hts (by decide +kernel) hown hK hP 0 rfl rfl 3 (by decide) (hts (.fieldLink RX3 21 "VeiledFiles$Tree" "buckets" "I") (by decide +kernel)) (fun _ h9 => h9) rfl dX3_settleAll_25 ?_
            refine k_icmp_ge (tgt := 42) hx hb (by omega) (by omega) dX3_settleAll_28 (by decide) (fun c2 => ?_) (fun c2 => ?_)
            · skip
              obtain rfl : nb = k := by omega
              exact k_retv () hx hb hr hK hS hlk dX3_settleAll_42 hP hD (trivial) hQ
            · skip
              refine lv_aload_n hx hb dX3_settleAll_31 rfl (lv_at hl 0 rfl) ?_
              refine lv_iload_n hx hb dX3_settleAll_32 rfl (lv_at hl 1 rfl) ?_
              refine k_vv (As := [.int (nI k)]) (rest := []) (w2 := fun u : Unit => (wT cI cZ cJ t st ct hd lv wd num lc lvs nb nk key (setRow (seK key num C (saN lc lvs L Wd S O nk).1 k) k (sealR key num (C k) k ((seK key num C (saN lc lvs L Wd S O nk).1 k) k))) C ((saN lc lvs L Wd S O nk).2) L Wd)) ⟨hx, hb, hml, hown, hts⟩ (c_seal l D cI cZ cJ t st ct hd lv wd num lc lvs nb nk key (seK key num C (saN lc lvs L Wd S O nk).1 k) C ((saN lc lvs L Wd S O nk).2) L Wd k hT c2) (cwV 1 hts gX3_settleAll_X3_seal rfl rfl rfl (by decide +kernel) ⟨Nat.le_of_ble_eq_true rfl, Nat.le_of_ble_eq_true rfl⟩) hP hD hK hS hA [0, 1, 2, 3, 4, 5] [] [0, 1, 2, 3, 4, 5] rfl rfl (by decide) (fun u => rfl) rfl rfl (q0 := 0) rfl rfl hl.1 rfl (Nat.le_of_ble_eq_true rfl) dX3_settleAll_33 ⟨Nat.le_of_ble_eq_true rfl, Nat.le_of_ble_eq_true rfl⟩ (fun u H locs hu2 hP hD hS => ?_)
              have hE3 : (wT cI cZ cJ t st ct hd lv wd num lc lvs nb nk key (setRow (seK key num C (saN lc lvs L Wd S O nk).1 k) k (sealR key num (C k) k ((seK key num C (saN lc lvs L Wd S O nk).1 k) k))) C ((saN lc lvs L Wd S O nk).2) L Wd) = (wT cI cZ cJ t st ct hd lv wd num lc lvs nb nk key (seK key num C (saN lc lvs L Wd S O nk).1 (k + 1)) C ((saN lc lvs L Wd S O nk).2) L Wd) := by rw [seK_at, seK_s]
              rw [hE3] at hP hD
              refine lv_iinc (v := nI (k + 1)) (lv' := [(1, .int (nI (k + 1))), (0, .ref t)]) hx hb dX3_settleAll_36 hl (k := 1) rfl (nI_add k 1) (by decide) rfl (fun ls hl => ?_)
              refine lv_goto (tgt := 23) hx hb dX3_settleAll_39 (by decide) ?_
              exact ihL2 (k + 1)  (by omega) (by omega)  _ _ _ hP hD hS (lv_sub hl [1, 0] rfl)
        exact L2 (nb + 1) 0  (by omega) (by omega)  _ _ _ hP hD hS (lv_sub hl [1, 0] rfl)
      · skip
        obtain ⟨l0, hl0, hLn⟩ := hL n c1
        have hcl : (L n).toNatClampNeg = l0 := by rw [hLn]; exact nI_clamp (by omega)
        refine lv_aload_n hx hb dX3_settleAll_10 rfl (lv_at hl 0 rfl) ?_
        refine lv_iload_n hx hb dX3_settleAll_11 rfl (lv_at hl 1 rfl) ?_
        refine k_vv (As := [.int (nI n)]) (rest := []) (w2 := fun u : Unit => (wT cI cZ cJ t st ct hd lv wd num lc lvs nb nk key (stS lc lvs l0 n (L n) (Wd n) (saN lc lvs L Wd S O n).1) C (stO lc lvs l0 n (saN lc lvs L Wd S O n).1 (saN lc lvs L Wd S O n).2) L Wd)) ⟨hx, hb, hml, hown, hts⟩ (c_settle l D cI cZ cJ t st ct hd lv wd num lc lvs nb nk key ((saN lc lvs L Wd S O n).1) C ((saN lc lvs L Wd S O n).2) L Wd n l0 hT c1 hl0 hLn) (cwV 1 hts gX3_settleAll_X3_settle rfl rfl rfl (by decide +kernel) ⟨Nat.le_of_ble_eq_true rfl, Nat.le_of_ble_eq_true rfl⟩) hP hD hK hS hA [0, 1, 2, 3, 4, 5] [] [0, 1, 2, 3, 4, 5] rfl rfl (by decide) (fun u => rfl) rfl rfl (q0 := 0) rfl rfl hl.1 rfl (Nat.le_of_ble_eq_true rfl) dX3_settleAll_12 ⟨Nat.le_of_ble_eq_true rfl, Nat.le_of_ble_eq_true rfl⟩ (fun u H locs hu4 hP hD hS => ?_)
        have hE5 : (wT cI cZ cJ t st ct hd lv wd num lc lvs nb nk key (stS lc lvs l0 n (L n) (Wd n) (saN lc lvs L Wd S O n).1) C (stO lc lvs l0 n (saN lc lvs L Wd S O n).1 (saN lc lvs L Wd S O n).2) L Wd) = (wT cI cZ cJ t st ct hd lv wd num lc lvs nb nk key ((saN lc lvs L Wd S O (n + 1)).1) C (stO lc lvs l0 n (saN lc lvs L Wd S O n).1 (saN lc lvs L Wd S O n).2) L Wd) := by rw [← hcl]; rfl
        rw [hE5] at hP hD
        have hE6 : (wT cI cZ cJ t st ct hd lv wd num lc lvs nb nk key ((saN lc lvs L Wd S O (n + 1)).1) C (stO lc lvs l0 n (saN lc lvs L Wd S O n).1 (saN lc lvs L Wd S O n).2) L Wd) = (wT cI cZ cJ t st ct hd lv wd num lc lvs nb nk key ((saN lc lvs L Wd S O (n + 1)).1) C ((saN lc lvs L Wd S O (n + 1)).2) L Wd) := by rw [← hcl]; rfl
        rw [hE6] at hP hD
        refine lv_iinc (v := nI (n + 1)) (lv' := [(1, .int (nI (n + 1))), (0, .ref t)]) hx hb dX3_settleAll_15 hl (k := 1) rfl (nI_add n 1) (by decide) rfl (fun ls hl => ?_)
        refine lv_goto (tgt := 2) hx hb dX3_settleAll_18 (by decide) ?_
        exact ihL1 (n + 1)  (by omega) (by omega)  _ _ _ hP hD hS (lv_sub hl [1, 0] rfl)
  exact L1 (nk + 1) 0  (by omega) (by omega)  _ _ _ hP hD hS (lv_sub hl [1, 0] rfl)

set_option maxHeartbeats 800000 in
set_option maxRecDepth 100000 in
theorem c_fill (l : Launch) (D : va_G) (cI cZ cJ : ClassId) (a : Nat) (n : Nat) (f : Nat → Int32) (v : Int32) (hn : n < 2147483648) : KV l yJ7_fill_53178 wsJ7_fill_53178 ({ frames := 0, cells := 0, slots := 0, locals := 0 }) D (kty cI cZ cJ) [.ref a, .int v] (wA1 cI cZ cJ a n f) (fun (_ : Unit) => True) (fun _ : Unit => (wA1 cI cZ cJ a n (fiK f v n))) 0 0 := by
  refine k_headV (cc := cJ7_fill_53178) (maxL := 4) (ret := none) (by decide) rfl (Nat.le_of_ble_eq_true rfl) ?_
  intro p e s m below meth c A ls args Q hx hb hr hml hts hown hlk hnm hA hK hP hD hS hl hQ
  have hl : lv_has ls 4 [(0, .ref a), (1, .int v)] := hl
  refine lv_iconst (v := nI 0) hx hb dJ7_fill_53178_0 (by decide) ?_
  refine lv_istore_n (lv' := [(2, .int (nI 0)), (0, .ref a), (1, .int v)]) hx hb dJ7_fill_53178_1 rfl hl (by decide) rfl (fun ls hl => ?_)
  refine lv_aload_n hx hb dJ7_fill_53178_2 rfl (lv_at hl 1 rfl) ?_
  refine va_alen hx hb hK hP 0 0 rfl rfl (v := nI n) rfl dJ7_fill_53178_3 ?_
  refine lv_istore_n (lv' := [(3, .int (nI n)), (2, .int (nI 0)), (0, .ref a), (1, .int v)]) hx hb dJ7_fill_53178_4 rfl hl (by decide) rfl (fun ls hl => ?_)
  have hE1 : (wA1 cI cZ cJ a n f) = (wA1 cI cZ cJ a n (fiK f v 0)) := by rw [fiK_0]
  rw [hE1] at hP hD
  have L1 : ∀ (nf k : Nat) (hvL1 : k ≤ n) (hFL1 : n - k < nf) (H : Heap) (locs : List Loc) (ls : Array Slot), va_P D vwCl (wA1 cI cZ cJ a n (fiK f v k)) H → va_D A (wA1 cI cZ cJ a n (fiK f v k)) → va_S A s.heap H locs → lv_has ls 4 [(0, .ref a), (1, .int v), (2, .int (nI k)), (3, .int (nI n))] → W p l e ({ frames := 0, cells := 0, slots := 0, locals := 0 } : Room) s m args below meth c H locs 0 0 Q (F0 m 5 ls []) := by
    intro nf
    induction nf with
    | zero => intro k  hvL1 hFL1; omega
    | succ nf ihL1 =>
      intro k  hvL1 hFL1  H locs ls hP hD hS hl
      refine lv_iload_n hx hb dJ7_fill_53178_5 rfl (lv_at hl 2 rfl) ?_
      refine lv_iload_n hx hb dJ7_fill_53178_6 rfl (lv_at hl 3 rfl) ?_
      refine k_icmp_ge (tgt := 20) hx hb (by omega) (by omega) dJ7_fill_53178_7 (by decide) (fun c1 => ?_) (fun c1 => ?_)
      · skip
        obtain rfl : n = k := by omega
        exact k_retv () hx hb hr hK hS hlk dJ7_fill_53178_20 hP hD (trivial) hQ
      · skip
        refine lv_aload_n hx hb dJ7_fill_53178_10 rfl (lv_at hl 0 rfl) ?_
        refine lv_iload_n hx hb dJ7_fill_53178_11 rfl (lv_at hl 2 rfl) ?_
        refine lv_iload_n hx hb dJ7_fill_53178_12 rfl (lv_at hl 1 rfl) ?_
        refine k_iast hx hb hK hP hD hS 0 0 rfl rfl k (by omega) (by omega) (g := (fiK f v (k + 1))) (fiK_s) dJ7_fill_53178_13 (fun H locs hP hD hS => ?_)
        have hP : va_P D vwCl (wA1 cI cZ cJ a n (fiK f v (k + 1))) _ := hP
        have hD : va_D A (wA1 cI cZ cJ a n (fiK f v (k + 1))) := hD
        refine lv_iinc (v := nI (k + 1)) (lv' := [(2, .int (nI (k + 1))), (0, .ref a), (1, .int v), (3, .int (nI n))]) hx hb dJ7_fill_53178_14 hl (k := 2) rfl (nI_add k 1) (by decide) rfl (fun ls hl => ?_)
        refine lv_goto (tgt := 5) hx hb dJ7_fill_53178_17 (by decide) ?_
        exact ihL1 (k + 1)  (by omega) (by omega)  _ _ _ hP hD hS (lv_sub hl [1, 2, 0, 3] rfl)
  exact L1 (n + 1) 0  (by omega) (by omega)  _ _ _ hP hD hS (lv_sub hl [2, 3, 1, 0] rfl)

set_option maxHeartbeats 800000 in
set_option maxRecDepth 100000 in
theorem c_empty (l : Launch) (D : va_G) (cI cZ cJ : ClassId) (t : Nat) (st : Nat) (ct : Nat) (hd : Nat) (lv : Nat) (wd : Nat) (num : Int32) (lc : Nat) (lvs : Nat) (nb : Nat) (nk : Nat) (key : Int32) (S : Nat → Nat → Int32) (C : Nat → Int32) (O : Nat → Int32) (L : Nat → Int32) (Wd : Nat → Nat → Int32) (k0 : Int32) (hT : TP lc lvs nb nk)  : KV l yX3_empty wsX3_empty ({ frames := 1, cells := 0, slots := 0, locals := 23 }) D (kty cI cZ cJ) [.ref t, .int k0] (wT cI cZ cJ t st ct hd lv wd num lc lvs nb nk key S C O L Wd) (fun (_ : Unit) => True) (fun _ : Unit => (wT cI cZ cJ t st ct hd lv wd num lc lvs nb nk k0 (fun _ => zrow) (fun _ => 1) (fun _ => 1) L (fun _ => zrow))) 0 0 := by
  refine k_headV (cc := cX3_empty) (maxL := 3) (ret := none) (by decide) rfl (Nat.le_of_ble_eq_true rfl) ?_
  intro p e s m below meth c A ls args Q hx hb hr hml hts hown hlk hnm hA hK hP hD hS hl hQ
  have hq := hT.bd
  have hl : lv_has ls 3 [(0, .ref t), (1, .int k0)] := hl
  have hP : va_P D vwCl (wTr cI cZ cJ t st ct hd lv wd num lc lvs nb nk key (fl25 S) C O L (fl4 Wd)) s.heap := hP
  have hD : va_D A (wTr cI cZ cJ t st ct hd lv wd num lc lvs nb nk key (fl25 S) C O L (fl4 Wd)) := hD
  refine lv_aload_n hx hb dX3_empty_0 rfl (lv_at hl 0 rfl) ?_
  refine lv_iload_n hx hb dX3_empty_1 rfl (lv_at hl 1 rfl) ?_
  refine va_put (D := D) (ci := 3) (v := .int k0) (ty := .int) (C := RX3) (T := TX3) (N := 11) hx hb hts (by decide +kernel) tyX3 tyX3_ok nmX3 hown hK hP hD hS 0 rfl rfl 10 (by decide) (hts (.fieldLink RX3 44 "VeiledFiles$Tree" "key" "I") (by decide +kernel)) (fun _ h9 => h9) rfl (by decide +kernel) rfl rfl (Nat.le_of_ble_eq_true rfl) dX3_empty_2 (fun H locs hP hD hS => ?_)
  have hP : va_P D vwCl (wTr cI cZ cJ t st ct hd lv wd num lc lvs nb nk k0 (fl25 S) C O L (fl4 Wd)) _ := hP
  have hD : va_D A (wTr cI cZ cJ t st ct hd lv wd num lc lvs nb nk k0 (fl25 S) C O L (fl4 Wd)) := hD
  refine lv_aload_n hx hb dX3_empty_5 rfl (lv_at hl 0 rfl) ?_
  refine va_get (D := D) (ci := 3) (v := .ref st) (C := RX3) (T := TX3) (N := 11) hx hb hts (by decide +kernel) hown hK hP 0 rfl rfl 5 (by decide) (hts (.fieldLink RX3 27 "VeiledFiles$Tree" "store" "[I") (by decide +kernel)) (fun _ h9 => h9) rfl dX3_empty_6 ?_
  refine lv_iconst (v := nI 0) hx hb dX3_empty_9 (by decide) ?_
  refine k_sv (As := [.ref st, .int (nI 0)]) (rest := []) (w2 := fun u : Unit => (wTr cI cZ cJ t st ct hd lv wd num lc lvs nb nk k0 (fiK (fl25 S) (nI 0) (25 * nb)) C O L (fl4 Wd))) ⟨hx, hb, hml, hown, hts⟩ (c_fill l D cI cZ cJ st (25 * nb) (fl25 S) (nI 0) (by omega)) (va_cwS 2 hts gX3_empty_J7_fill_53178 rfl rfl rfl (by decide +kernel) ⟨Nat.le_of_ble_eq_true rfl, Nat.le_of_ble_eq_true rfl⟩) hP hD hK hS hA [1] [0, 2, 3, 4, 5] [0, 5, 1, 2, 3, 4] rfl rfl (by decide) (fun u => rfl) rfl hl.1 rfl (Nat.le_of_ble_eq_true rfl) dX3_empty_10 ⟨Nat.le_of_ble_eq_true rfl, Nat.le_of_ble_eq_true rfl⟩ (fun u H locs hu1 hP hD hS => ?_)
  have hP : va_P D vwCl (wTr cI cZ cJ t st ct hd lv wd num lc lvs nb nk k0 (fl25 (fun _ => zrow)) C O L (fl4 Wd)) H := k_extP (q0 := 1) hP rfl (fun j hj => fiK_lt hj)
  have hD : va_D A (wTr cI cZ cJ t st ct hd lv wd num lc lvs nb nk k0 (fl25 (fun _ => zrow)) C O L (fl4 Wd)) := hD.set (p := 1) rfl
  refine lv_aload_n hx hb dX3_empty_13 rfl (lv_at hl 0 rfl) ?_
  refine va_get (D := D) (ci := 3) (v := .ref ct) (C := RX3) (T := TX3) (N := 11) hx hb hts (by decide +kernel) hown hK hP 0 rfl rfl 6 (by decide) (hts (.fieldLink RX3 31 "VeiledFiles$Tree" "counters" "[I") (by decide +kernel)) (fun _ h9 => h9) rfl dX3_empty_14 ?_
  refine lv_iconst (v := nI 1) hx hb dX3_empty_17 (by decide) ?_
  refine k_sv (As := [.ref ct, .int (nI 1)]) (rest := []) (w2 := fun u : Unit => (wTr cI cZ cJ t st ct hd lv wd num lc lvs nb nk k0 (fl25 (fun _ => zrow)) (fiK C (nI 1) nb) O L (fl4 Wd))) ⟨hx, hb, hml, hown, hts⟩ (c_fill l D cI cZ cJ ct nb C (nI 1) (by omega)) (va_cwS 2 hts gX3_empty_J7_fill_53178 rfl rfl rfl (by decide +kernel) ⟨Nat.le_of_ble_eq_true rfl, Nat.le_of_ble_eq_true rfl⟩) hP hD hK hS hA [2] [0, 1, 3, 4, 5] [0, 1, 5, 2, 3, 4] rfl rfl (by decide) (fun u => rfl) rfl hl.1 rfl (Nat.le_of_ble_eq_true rfl) dX3_empty_18 ⟨Nat.le_of_ble_eq_true rfl, Nat.le_of_ble_eq_true rfl⟩ (fun u H locs hu2 hP hD hS => ?_)
  have hP : va_P D vwCl (wTr cI cZ cJ t st ct hd lv wd num lc lvs nb nk k0 (fl25 (fun _ => zrow)) (fun _ => 1) O L (fl4 Wd)) H := k_extP (q0 := 2) hP rfl (fun j hj => fiK_lt hj)
  have hD : va_D A (wTr cI cZ cJ t st ct hd lv wd num lc lvs nb nk k0 (fl25 (fun _ => zrow)) (fun _ => 1) O L (fl4 Wd)) := hD.set (p := 2) rfl
  refine lv_aload_n hx hb dX3_empty_21 rfl (lv_at hl 0 rfl) ?_
  refine va_get (D := D) (ci := 3) (v := .ref wd) (C := RX3) (T := TX3) (N := 11) hx hb hts (by decide +kernel) hown hK hP 0 rfl rfl 9 (by decide) (hts (.fieldLink RX3 41 "VeiledFiles$Tree" "words" "[I") (by decide +kernel)) (fun _ h9 => h9) rfl dX3_empty_22 ?_
  refine lv_iconst (v := nI 0) hx hb dX3_empty_25 (by decide) ?_
  refine k_sv (As := [.ref wd, .int (nI 0)]) (rest := []) (w2 := fun u : Unit => (wTr cI cZ cJ t st ct hd lv wd num lc lvs nb nk k0 (fl25 (fun _ => zrow)) (fun _ => 1) O L (fiK (fl4 Wd) (nI 0) (4 * nk)))) ⟨hx, hb, hml, hown, hts⟩ (c_fill l D cI cZ cJ wd (4 * nk) (fl4 Wd) (nI 0) (by omega)) (va_cwS 2 hts gX3_empty_J7_fill_53178 rfl rfl rfl (by decide +kernel) ⟨Nat.le_of_ble_eq_true rfl, Nat.le_of_ble_eq_true rfl⟩) hP hD hK hS hA [5] [0, 1, 2, 3, 4] [0, 1, 2, 3, 4, 5] rfl rfl (by decide) (fun u => rfl) rfl hl.1 rfl (Nat.le_of_ble_eq_true rfl) dX3_empty_26 ⟨Nat.le_of_ble_eq_true rfl, Nat.le_of_ble_eq_true rfl⟩ (fun u H locs hu3 hP hD hS => ?_)
  have hP : va_P D vwCl (wTr cI cZ cJ t st ct hd lv wd num lc lvs nb nk k0 (fl25 (fun _ => zrow)) (fun _ => 1) O L (fl4 (fun _ => zrow))) H := k_extP (q0 := 5) hP rfl (fun j hj => fiK_lt hj)
  have hD : va_D A (wTr cI cZ cJ t st ct hd lv wd num lc lvs nb nk k0 (fl25 (fun _ => zrow)) (fun _ => 1) O L (fl4 (fun _ => zrow))) := hD.set (p := 5) rfl
  refine lv_iconst (v := nI 0) hx hb dX3_empty_29 (by decide) ?_
  refine lv_istore_n (lv' := [(2, .int (nI 0)), (0, .ref t), (1, .int k0)]) hx hb dX3_empty_30 rfl hl (by decide) rfl (fun ls hl => ?_)
  have hE4 : (wTr cI cZ cJ t st ct hd lv wd num lc lvs nb nk k0 (fl25 (fun _ => zrow)) (fun _ => 1) O L (fl4 (fun _ => zrow))) = (wTr cI cZ cJ t st ct hd lv wd num lc lvs nb nk k0 (fl25 (fun _ => zrow)) (fun _ => 1) (fiK O 1 0) L (fl4 (fun _ => zrow))) := by rw [fiK_0]
  rw [hE4] at hP hD
  have L1 : ∀ (nf k : Nat) (hvL1 : k ≤ nk) (hFL1 : nk - k < nf) (H : Heap) (locs : List Loc) (ls : Array Slot), va_P D vwCl (wTr cI cZ cJ t st ct hd lv wd num lc lvs nb nk k0 (fl25 (fun _ => zrow)) (fun _ => 1) (fiK O 1 k) L (fl4 (fun _ => zrow))) H → va_D A (wTr cI cZ cJ t st ct hd lv wd num lc lvs nb nk k0 (fl25 (fun _ => zrow)) (fun _ => 1) (fiK O 1 k) L (fl4 (fun _ => zrow))) → va_S A s.heap H locs → lv_has ls 3 [(0, .ref t), (1, .int k0), (2, .int (nI k))] → W p l e ({ frames := 1, cells := 0, slots := 0, locals := 23 } : Room) s m args below meth c H locs 0 0 Q (F0 m 31 ls []) := by
    intro nf
    induction nf with
    | zero => intro k  hvL1 hFL1; omega
    | succ nf ihL1 =>
      intro k  hvL1 hFL1  H locs ls hP hD hS hl
      refine lv_iload_n hx hb dX3_empty_31 rfl (lv_at hl 2 rfl) ?_
      refine lv_aload_n hx hb dX3_empty_32 rfl (lv_at hl 0 rfl) ?_
      refine va_get (D := D) (ci := 3) (v := .int (nI nk)) (C := RX3) (T := TX3) (N := 11) hx hb hts (by decide +kernel) hown hK hP 0 rfl rfl 4 (by decide) (hts (.fieldLink RX3 24 "VeiledFiles$Tree" "blocks" "I") (by decide +kernel)) (fun _ h9 => h9) rfl dX3_empty_33 ?_
      refine k_icmp_ge (tgt := 52) hx hb (by omega) (by omega) dX3_empty_36 (by decide) (fun c1 => ?_) (fun c1 => ?_)
      · skip
        obtain rfl : nk = k := by omega
        have hP : va_P D vwCl (wTr cI cZ cJ t st ct hd lv wd num lc lvs nb nk k0 (fl25 (fun _ => zrow)) (fun _ => 1) (fun _ => 1) L (fl4 (fun _ => zrow))) H := k_extP (q0 := 3) hP rfl (fun j hj => fiK_lt hj)
        have hD : va_D A (wTr cI cZ cJ t st ct hd lv wd num lc lvs nb nk k0 (fl25 (fun _ => zrow)) (fun _ => 1) (fun _ => 1) L (fl4 (fun _ => zrow))) := hD.set (p := 3) rfl
        exact k_retv () hx hb hr hK hS hlk dX3_empty_52 hP hD (trivial) hQ
      · skip
        refine lv_aload_n hx hb dX3_empty_39 rfl (lv_at hl 0 rfl) ?_
        refine va_get (D := D) (ci := 3) (v := .ref hd) (C := RX3) (T := TX3) (N := 11) hx hb hts (by decide +kernel) hown hK hP 0 rfl rfl 7 (by decide) (hts (.fieldLink RX3 34 "VeiledFiles$Tree" "held" "[Z") (by decide +kernel)) (fun _ h9 => h9) rfl dX3_empty_40 ?_
        refine lv_iload_n hx hb dX3_empty_43 rfl (lv_at hl 2 rfl) ?_
        refine lv_iconst (v := nI 1) hx hb dX3_empty_44 (by decide) ?_
        refine k_zast hx hb hK hP hD hS 3 1 rfl rfl k (by omega) (by omega) (g := (fiK O 1 (k + 1))) (fiK_s) (by first | rfl | decide) dX3_empty_45 (fun H locs hP hD hS => ?_)
        have hP : va_P D vwCl (wTr cI cZ cJ t st ct hd lv wd num lc lvs nb nk k0 (fl25 (fun _ => zrow)) (fun _ => 1) (fiK O 1 (k + 1)) L (fl4 (fun _ => zrow))) _ := hP
        have hD : va_D A (wTr cI cZ cJ t st ct hd lv wd num lc lvs nb nk k0 (fl25 (fun _ => zrow)) (fun _ => 1) (fiK O 1 (k + 1)) L (fl4 (fun _ => zrow))) := hD
        refine lv_iinc (v := nI (k + 1)) (lv' := [(2, .int (nI (k + 1))), (0, .ref t), (1, .int k0)]) hx hb dX3_empty_46 hl (k := 2) rfl (nI_add k 1) (by decide) rfl (fun ls hl => ?_)
        refine lv_goto (tgt := 31) hx hb dX3_empty_49 (by decide) ?_
        exact ihL1 (k + 1)  (by omega) (by omega)  _ _ _ hP hD hS (lv_sub hl [1, 2, 0] rfl)
  exact L1 (nk + 1) 0  (by omega) (by omega)  _ _ _ hP hD hS (lv_sub hl [1, 2, 0] rfl)

set_option maxHeartbeats 800000 in
set_option maxRecDepth 100000 in
theorem c_partAt (l : Launch) (D : va_G) (cI cZ cJ : ClassId)  (f i : Nat) (hi : i < 1000000) : KI l yX0_partAt wsX0_partAt ({ frames := 0, cells := 0, slots := 0, locals := 0 }) D (kty cI cZ cJ) [.int (nI f), .int (nI i)] (wN cI cZ cJ ) (fun r (_ : Unit) => r = nI (6 * f + i / 4)) (fun _ : Unit => (wN cI cZ cJ )) 0 0 := by
  refine k_headI (cc := cX0_partAt) (maxL := 2) (ret := (some .int)) (by decide) rfl (Nat.le_of_ble_eq_true rfl) ?_
  intro p e s m below meth c A ls args Q hx hb hr hml hts hown hlk hnm hA hK hP hD hS hl hQ
  have hl : lv_has ls 2 [(0, .int (nI f)), (1, .int (nI i))] := hl
  refine lv_iload_n hx hb dX0_partAt_0 rfl (lv_at hl 0 rfl) ?_
  refine lv_bipush (v := nI 6) hx hb dX0_partAt_1 (by decide) ?_
  refine lv_imul hx hb dX0_partAt_3 ?_
  refine k_t1 (show (nI f) * (nI 6) = nI (f * 6) from pk_mul _ _) ?_
  refine lv_iload_n hx hb dX0_partAt_4 rfl (lv_at hl 1 rfl) ?_
  refine lv_iconst (v := nI 4) hx hb dX0_partAt_5 (by decide) ?_
  refine lv_idiv hx hb dX0_partAt_6 (by decide) ?_
  refine k_t1 (show (nI i) / (nI 4) = nI (i / 4) from pk_div (by omega) (by omega) (by omega)) ?_
  refine lv_iadd hx hb dX0_partAt_7 ?_
  refine k_t1 (show (nI (f * 6)) + (nI (i / 4)) = nI (f * 6 + (i / 4)) from nI_add _ _) ?_
  refine k_t1 (show nI (f * 6 + (i / 4)) = nI (6 * f + i / 4) from congrArg nI (by omega)) ?_
  exact k_reti () hx hb hr hK hS hlk dX0_partAt_8 hP hD (rfl) hQ

set_option maxHeartbeats 800000 in
set_option maxRecDepth 100000 in
theorem c_lengthOf_y (l : Launch) (D : va_G) (cI cZ cJ : ClassId) (bk : Nat) (nm : Nat) (ln : Nat) (pt : Nat) (tk : Nat) (NM : Nat → Int64) (TH : Nat → Int32) (SZ : Nat → Nat) (PT : Nat → Nat) (TK : Nat → Int32) (f : Nat) (hf : f < 8) (ht : ¬ TH f = 0) : KI l yX0_lengthOf wsX0_lengthOf ({ frames := 0, cells := 0, slots := 0, locals := 0 }) D (kty cI cZ cJ) [.ref bk, .int (nI f)] (wB cI cZ cJ bk nm ln pt tk NM TH SZ PT TK) (fun r (_ : Unit) => r = nI (SZ f)) (fun _ : Unit => (wB cI cZ cJ bk nm ln pt tk NM TH SZ PT TK)) 0 0 := by
  refine k_headI (cc := cX0_lengthOf) (maxL := 2) (ret := (some .int)) (by decide) rfl (Nat.le_of_ble_eq_true rfl) ?_
  intro p e s m below meth c A ls args Q hx hb hr hml hts hown hlk hnm hA hK hP hD hS hl hQ
  have hl : lv_has ls 2 [(0, .ref bk), (1, .int (nI f))] := hl
  refine lv_iload_n hx hb dX0_lengthOf_0 rfl (lv_at hl 1 rfl) ?_
  refine lv_if_lt (tgt := 10) hx hb dX0_lengthOf_1 (by decide) (fun c1 => ?_) (fun c1 => ?_)
  · skip
    exact absurd c1 (nI_pos (by omega))
  · skip
    refine lv_iload_n hx hb dX0_lengthOf_4 rfl (lv_at hl 1 rfl) ?_
    refine lv_bipush (v := nI 8) hx hb dX0_lengthOf_5 (by decide) ?_
    refine k_icmp_lt (tgt := 14) hx hb (by omega) (by omega) dX0_lengthOf_7 (by decide) (fun c2 => ?_) (fun c2 => ?_)
    · skip
      refine lv_aload_n hx hb dX0_lengthOf_14 rfl (lv_at hl 0 rfl) ?_
      refine va_get (D := D) (ci := 0) (v := .ref ln) (C := RX0) (T := TX0) (N := 4) hx hb hts (by decide +kernel) hown hK hP 0 rfl rfl 1 (by decide) (hts (.fieldLink RX0 15 "VeiledFiles$Book" "lengths" "[I") (by decide +kernel)) (fun _ h9 => h9) rfl dX0_lengthOf_15 ?_
      refine lv_iload_n hx hb dX0_lengthOf_18 rfl (lv_at hl 1 rfl) ?_
      refine k_iald hx hb hK hP 2 0 rfl rfl f (by omega) (by omega) (v := nI (SZ f)) (lenF_y ht) dX0_lengthOf_19 ?_
      exact k_reti () hx hb hr hK hS hlk dX0_lengthOf_20 hP hD (rfl) hQ
    · skip
      omega

set_option maxHeartbeats 800000 in
set_option maxRecDepth 100000 in
theorem c_lengthOf_n (l : Launch) (D : va_G) (cI cZ cJ : ClassId) (bk : Nat) (nm : Nat) (ln : Nat) (pt : Nat) (tk : Nat) (NM : Nat → Int64) (TH : Nat → Int32) (SZ : Nat → Nat) (PT : Nat → Nat) (TK : Nat → Int32) (x : Int32) (hf : notF TH x) : KI l yX0_lengthOf wsX0_lengthOf ({ frames := 0, cells := 0, slots := 0, locals := 0 }) D (kty cI cZ cJ) [.ref bk, .int x] (wB cI cZ cJ bk nm ln pt tk NM TH SZ PT TK) (fun r (_ : Unit) => r = -1) (fun _ : Unit => (wB cI cZ cJ bk nm ln pt tk NM TH SZ PT TK)) 0 0 := by
  refine k_headI (cc := cX0_lengthOf) (maxL := 2) (ret := (some .int)) (by decide) rfl (Nat.le_of_ble_eq_true rfl) ?_
  intro p e s m below meth c A ls args Q hx hb hr hml hts hown hlk hnm hA hK hP hD hS hl hQ
  have hl : lv_has ls 2 [(0, .ref bk), (1, .int x)] := hl
  refine lv_iload_n hx hb dX0_lengthOf_0 rfl (lv_at hl 1 rfl) ?_
  refine lv_if_lt (tgt := 10) hx hb dX0_lengthOf_1 (by decide) (fun c1 => ?_) (fun c1 => ?_)
  · skip
    refine lv_iconst (v := -1) hx hb dX0_lengthOf_10 (by decide) ?_
    refine lv_goto (tgt := 20) hx hb dX0_lengthOf_11 (by decide) ?_
    exact k_reti () hx hb hr hK hS hlk dX0_lengthOf_20 hP hD (rfl) hQ
  · skip
    refine lv_iload_n hx hb dX0_lengthOf_4 rfl (lv_at hl 1 rfl) ?_
    refine lv_bipush (v := nI 8) hx hb dX0_lengthOf_5 (by decide) ?_
    refine lv_icmp_lt (tgt := 14) hx hb dX0_lengthOf_7 (by decide) (fun c2 => ?_) (fun c2 => ?_)
    · skip
      rcases hf with hf | ⟨f, hf, rfl, ht⟩
      · skip
        exact absurd hf (by simp [noB, c1, Int32.not_le.mpr c2])
      · skip
        refine lv_aload_n hx hb dX0_lengthOf_14 rfl (lv_at hl 0 rfl) ?_
        refine va_get (D := D) (ci := 0) (v := .ref ln) (C := RX0) (T := TX0) (N := 4) hx hb hts (by decide +kernel) hown hK hP 0 rfl rfl 1 (by decide) (hts (.fieldLink RX0 15 "VeiledFiles$Book" "lengths" "[I") (by decide +kernel)) (fun _ h9 => h9) rfl dX0_lengthOf_15 ?_
        refine lv_iload_n hx hb dX0_lengthOf_18 rfl (lv_at hl 1 rfl) ?_
        refine k_iald hx hb hK hP 2 0 rfl rfl f (by omega) (by omega) (v := -1) (lenF_n ht) dX0_lengthOf_19 ?_
        exact k_reti () hx hb hr hK hS hlk dX0_lengthOf_20 hP hD (rfl) hQ
    · skip
      refine lv_iconst (v := -1) hx hb dX0_lengthOf_10 (by decide) ?_
      refine lv_goto (tgt := 20) hx hb dX0_lengthOf_11 (by decide) ?_
      exact k_reti () hx hb hr hK hS hlk dX0_lengthOf_20 hP hD (rfl) hQ

set_option maxHeartbeats 800000 in
set_option maxRecDepth 100000 in
theorem c_leastFreeNumber (l : Launch) (D : va_G) (cI cZ cJ : ClassId) (bk : Nat) (nm : Nat) (ln : Nat) (pt : Nat) (tk : Nat) (NM : Nat → Int64) (TH : Nat → Int32) (SZ : Nat → Nat) (PT : Nat → Nat) (TK : Nat → Int32)  (hSZ : ∀ f, f < 8 → SZ f ≤ 24) : KI l yX0_leastFreeNumber wsX0_leastFreeNumber ({ frames := 0, cells := 0, slots := 0, locals := 0 }) D (kty cI cZ cJ) [.ref bk] (wB cI cZ cJ bk nm ln pt tk NM TH SZ PT TK) (fun r (_ : Unit) => r = idx8 8 (frQ TH 8)) (fun _ : Unit => (wB cI cZ cJ bk nm ln pt tk NM TH SZ PT TK)) 0 0 := by
  refine k_headI (cc := cX0_leastFreeNumber) (maxL := 2) (ret := (some .int)) (by decide) rfl (Nat.le_of_ble_eq_true rfl) ?_
  intro p e s m below meth c A ls args Q hx hb hr hml hts hown hlk hnm hA hK hP hD hS hl hQ
  have hl : lv_has ls 2 [(0, .ref bk)] := hl
  refine lv_iconst (v := nI 0) hx hb dX0_leastFreeNumber_0 (by decide) ?_
  refine lv_istore_n (lv' := [(1, .int (nI 0)), (0, .ref bk)]) hx hb dX0_leastFreeNumber_1 rfl hl (by decide) rfl (fun ls hl => ?_)
  have L1 : ∀ (nf q : Nat) (hvL1 : q ≤ 8) (hFL1 : 8 - q < nf) (hq : ∀ j, j < q → ¬ TH j = 0) (H : Heap) (locs : List Loc) (ls : Array Slot), va_P D vwCl (wB cI cZ cJ bk nm ln pt tk NM TH SZ PT TK) H → va_D A (wB cI cZ cJ bk nm ln pt tk NM TH SZ PT TK) → va_S A s.heap H locs → lv_has ls 2 [(0, .ref bk), (1, .int (nI q))] → W p l e ({ frames := 0, cells := 0, slots := 0, locals := 0 } : Room) s m args below meth c H locs 0 0 Q (F0 m 2 ls []) := by
    intro nf
    induction nf with
    | zero => intro q  hvL1 hFL1; omega
    | succ nf ihL1 =>
      intro q  hvL1 hFL1 hq H locs ls hP hD hS hl
      refine lv_iload_n hx hb dX0_leastFreeNumber_2 rfl (lv_at hl 1 rfl) ?_
      refine lv_bipush (v := nI 8) hx hb dX0_leastFreeNumber_3 (by decide) ?_
      refine k_icmp_ge (tgt := 26) hx hb (by omega) (by omega) dX0_leastFreeNumber_5 (by decide) (fun c1 => ?_) (fun c1 => ?_)
      · skip
        obtain rfl : q = 8 := by omega
        refine lv_iconst (v := -1) hx hb dX0_leastFreeNumber_26 (by decide) ?_
        exact k_reti () hx hb hr hK hS hlk dX0_leastFreeNumber_27 hP hD (by rw [frQ_no hq]; rfl) hQ
      · skip
        refine lv_aload_n hx hb dX0_leastFreeNumber_8 rfl (lv_at hl 0 rfl) ?_
        refine va_get (D := D) (ci := 0) (v := .ref ln) (C := RX0) (T := TX0) (N := 4) hx hb hts (by decide +kernel) hown hK hP 0 rfl rfl 1 (by decide) (hts (.fieldLink RX0 15 "VeiledFiles$Book" "lengths" "[I") (by decide +kernel)) (fun _ h9 => h9) rfl dX0_leastFreeNumber_9 ?_
        refine lv_iload_n hx hb dX0_leastFreeNumber_12 rfl (lv_at hl 1 rfl) ?_
        refine k_iald hx hb hK hP 2 0 rfl rfl q (by omega) (by omega) (v := (lenF TH SZ) q) (rfl) dX0_leastFreeNumber_13 ?_
        refine lv_iconst (v := -1) hx hb dX0_leastFreeNumber_14 (by decide) ?_
        refine lv_icmp_ne (tgt := 20) hx hb dX0_leastFreeNumber_15 (by decide) (fun c2 => ?_) (fun c2 => ?_)
        · skip
          refine lv_iinc (v := nI (q + 1)) (lv' := [(1, .int (nI (q + 1))), (0, .ref bk)]) hx hb dX0_leastFreeNumber_20 hl (k := 1) rfl (nI_add q 1) (by decide) rfl (fun ls hl => ?_)
          refine lv_goto (tgt := 2) hx hb dX0_leastFreeNumber_23 (by decide) ?_
          exact ihL1 (q + 1)  (by omega) (by omega) (fun j hj => by rcases Nat.lt_succ_iff_lt_or_eq.mp hj with h | rfl; exact hq j h; exact fun z => c2 (lenF_n z)) _ _ _ hP hD hS (lv_sub hl [1, 0] rfl)
        · skip
          refine lv_iload_n hx hb dX0_leastFreeNumber_18 rfl (lv_at hl 1 rfl) ?_
          exact k_reti () hx hb hr hK hS hlk dX0_leastFreeNumber_19 hP hD (by rw [frQ_at c1 ((lenF_0 (by have := hSZ q c1; omega)).mp c2) hq]; simp [idx8, c1]) hQ
  exact L1 (8 + 1) 0  (by omega) (by omega) (fun j hj => absurd hj (by omega)) _ _ _ hP hD hS (lv_sub hl [1, 0] rfl)

set_option maxHeartbeats 800000 in
set_option maxRecDepth 100000 in
theorem c_leastFreeBlock (l : Launch) (D : va_G) (cI cZ cJ : ClassId) (bk : Nat) (nm : Nat) (ln : Nat) (pt : Nat) (tk : Nat) (NM : Nat → Int64) (TH : Nat → Int32) (SZ : Nat → Nat) (PT : Nat → Nat) (TK : Nat → Int32)   : KI l yX0_leastFreeBlock wsX0_leastFreeBlock ({ frames := 0, cells := 0, slots := 0, locals := 0 }) D (kty cI cZ cJ) [.ref bk] (wB cI cZ cJ bk nm ln pt tk NM TH SZ PT TK) (fun r (_ : Unit) => r = idx8 64 (frQ TK 64)) (fun _ : Unit => (wB cI cZ cJ bk nm ln pt tk NM TH SZ PT TK)) 0 0 := by
  refine k_headI (cc := cX0_leastFreeBlock) (maxL := 2) (ret := (some .int)) (by decide) rfl (Nat.le_of_ble_eq_true rfl) ?_
  intro p e s m below meth c A ls args Q hx hb hr hml hts hown hlk hnm hA hK hP hD hS hl hQ
  have hl : lv_has ls 2 [(0, .ref bk)] := hl
  refine lv_iconst (v := nI 0) hx hb dX0_leastFreeBlock_0 (by decide) ?_
  refine lv_istore_n (lv' := [(1, .int (nI 0)), (0, .ref bk)]) hx hb dX0_leastFreeBlock_1 rfl hl (by decide) rfl (fun ls hl => ?_)
  have L1 : ∀ (nf q : Nat) (hvL1 : q ≤ 64) (hFL1 : 64 - q < nf) (hq : ∀ j, j < q → ¬ TK j = 0) (H : Heap) (locs : List Loc) (ls : Array Slot), va_P D vwCl (wB cI cZ cJ bk nm ln pt tk NM TH SZ PT TK) H → va_D A (wB cI cZ cJ bk nm ln pt tk NM TH SZ PT TK) → va_S A s.heap H locs → lv_has ls 2 [(0, .ref bk), (1, .int (nI q))] → W p l e ({ frames := 0, cells := 0, slots := 0, locals := 0 } : Room) s m args below meth c H locs 0 0 Q (F0 m 2 ls []) := by
    intro nf
    induction nf with
    | zero => intro q  hvL1 hFL1; omega
    | succ nf ihL1 =>
      intro q  hvL1 hFL1 hq H locs ls hP hD hS hl
      refine lv_iload_n hx hb dX0_leastFreeBlock_2 rfl (lv_at hl 1 rfl) ?_
      refine lv_bipush (v := nI 64) hx hb dX0_leastFreeBlock_3 (by decide) ?_
      refine k_icmp_ge (tgt := 25) hx hb (by omega) (by omega) dX0_leastFreeBlock_5 (by decide) (fun c1 => ?_) (fun c1 => ?_)
      · skip
        obtain rfl : q = 64 := by omega
        refine lv_iconst (v := -1) hx hb dX0_leastFreeBlock_25 (by decide) ?_
        exact k_reti () hx hb hr hK hS hlk dX0_leastFreeBlock_26 hP hD (by rw [frQ_no hq]; rfl) hQ
      · skip
        refine lv_aload_n hx hb dX0_leastFreeBlock_8 rfl (lv_at hl 0 rfl) ?_
        refine va_get (D := D) (ci := 0) (v := .ref tk) (C := RX0) (T := TX0) (N := 4) hx hb hts (by decide +kernel) hown hK hP 0 rfl rfl 3 (by decide) (hts (.fieldLink RX0 22 "VeiledFiles$Book" "taken" "[Z") (by decide +kernel)) (fun _ h9 => h9) rfl dX0_leastFreeBlock_9 ?_
        refine lv_iload_n hx hb dX0_leastFreeBlock_12 rfl (lv_at hl 1 rfl) ?_
        refine k_zald hx hb hK hP 4 1 rfl rfl q (by omega) (by omega) (v := TK q) (rfl) dX0_leastFreeBlock_13 ?_
        refine lv_if_ne (tgt := 19) hx hb dX0_leastFreeBlock_14 (by decide) (fun c2 => ?_) (fun c2 => ?_)
        · skip
          refine lv_iinc (v := nI (q + 1)) (lv' := [(1, .int (nI (q + 1))), (0, .ref bk)]) hx hb dX0_leastFreeBlock_19 hl (k := 1) rfl (nI_add q 1) (by decide) rfl (fun ls hl => ?_)
          refine lv_goto (tgt := 2) hx hb dX0_leastFreeBlock_22 (by decide) ?_
          exact ihL1 (q + 1)  (by omega) (by omega) (fun j hj => by rcases Nat.lt_succ_iff_lt_or_eq.mp hj with h | rfl; exact hq j h; exact c2) _ _ _ hP hD hS (lv_sub hl [1, 0] rfl)
        · skip
          refine lv_iload_n hx hb dX0_leastFreeBlock_17 rfl (lv_at hl 1 rfl) ?_
          exact k_reti () hx hb hr hK hS hlk dX0_leastFreeBlock_18 hP hD (by rw [frQ_at c1 (c2) hq]; simp [idx8, c1]) hQ
  exact L1 (64 + 1) 0  (by omega) (by omega) (fun j hj => absurd hj (by omega)) _ _ _ hP hD hS (lv_sub hl [1, 0] rfl)

set_option maxHeartbeats 800000 in
set_option maxRecDepth 100000 in
theorem c_numberOf (l : Launch) (D : va_G) (cI cZ cJ : ClassId) (bk : Nat) (nm : Nat) (ln : Nat) (pt : Nat) (tk : Nat) (NM : Nat → Int64) (TH : Nat → Int32) (SZ : Nat → Nat) (PT : Nat → Nat) (TK : Nat → Int32) (x : Int64) (hSZ : ∀ f, f < 8 → SZ f ≤ 24) : KI l yX0_numberOf wsX0_numberOf ({ frames := 0, cells := 0, slots := 0, locals := 0 }) D (kty cI cZ cJ) [.ref bk, .long x] (wB cI cZ cJ bk nm ln pt tk NM TH SZ PT TK) (fun r (_ : Unit) => r = idx8 8 (nmQ TH NM x)) (fun _ : Unit => (wB cI cZ cJ bk nm ln pt tk NM TH SZ PT TK)) 0 0 := by
  refine k_headI (cc := cX0_numberOf) (maxL := 4) (ret := (some .int)) (by decide) rfl (Nat.le_of_ble_eq_true rfl) ?_
  intro p e s m below meth c A ls args Q hx hb hr hml hts hown hlk hnm hA hK hP hD hS hl hQ
  have hl : lv_has ls 4 [(0, .ref bk), (1, .long x)] := hl
  refine lv_iconst (v := nI 0) hx hb dX0_numberOf_0 (by decide) ?_
  refine lv_istore_n (lv' := [(3, .int (nI 0)), (0, .ref bk), (1, .long x)]) hx hb dX0_numberOf_1 rfl hl (by decide) rfl (fun ls hl => ?_)
  have L1 : ∀ (nf q : Nat) (hvL1 : q ≤ 8) (hFL1 : 8 - q < nf) (hq : ∀ j, j < q → ¬ (¬ TH j = 0 ∧ NM j = x)) (H : Heap) (locs : List Loc) (ls : Array Slot), va_P D vwCl (wB cI cZ cJ bk nm ln pt tk NM TH SZ PT TK) H → va_D A (wB cI cZ cJ bk nm ln pt tk NM TH SZ PT TK) → va_S A s.heap H locs → lv_has ls 4 [(0, .ref bk), (1, .long x), (3, .int (nI q))] → W p l e ({ frames := 0, cells := 0, slots := 0, locals := 0 } : Room) s m args below meth c H locs 0 0 Q (F0 m 2 ls []) := by
    intro nf
    induction nf with
    | zero => intro q  hvL1 hFL1; omega
    | succ nf ihL1 =>
      intro q  hvL1 hFL1 hq H locs ls hP hD hS hl
      refine lv_iload_n hx hb dX0_numberOf_2 rfl (lv_at hl 2 rfl) ?_
      refine lv_bipush (v := nI 8) hx hb dX0_numberOf_3 (by decide) ?_
      refine k_icmp_ge (tgt := 37) hx hb (by omega) (by omega) dX0_numberOf_5 (by decide) (fun c1 => ?_) (fun c1 => ?_)
      · skip
        obtain rfl : q = 8 := by omega
        refine lv_iconst (v := -1) hx hb dX0_numberOf_37 (by decide) ?_
        exact k_reti () hx hb hr hK hS hlk dX0_numberOf_38 hP hD (by rw [nmQ_no hq]; rfl) hQ
      · skip
        refine lv_aload_n hx hb dX0_numberOf_8 rfl (lv_at hl 0 rfl) ?_
        refine va_get (D := D) (ci := 0) (v := .ref ln) (C := RX0) (T := TX0) (N := 4) hx hb hts (by decide +kernel) hown hK hP 0 rfl rfl 1 (by decide) (hts (.fieldLink RX0 15 "VeiledFiles$Book" "lengths" "[I") (by decide +kernel)) (fun _ h9 => h9) rfl dX0_numberOf_9 ?_
        refine lv_iload_n hx hb dX0_numberOf_12 rfl (lv_at hl 2 rfl) ?_
        refine k_iald hx hb hK hP 2 0 rfl rfl q (by omega) (by omega) (v := (lenF TH SZ) q) (rfl) dX0_numberOf_13 ?_
        refine lv_iconst (v := -1) hx hb dX0_numberOf_14 (by decide) ?_
        refine lv_icmp_eq (tgt := 31) hx hb dX0_numberOf_15 (by decide) (fun c2 => ?_) (fun c2 => ?_)
        · skip
          refine lv_iinc (v := nI (q + 1)) (lv' := [(3, .int (nI (q + 1))), (0, .ref bk), (1, .long x)]) hx hb dX0_numberOf_31 hl (k := 2) rfl (nI_add q 1) (by decide) rfl (fun ls hl => ?_)
          refine lv_goto (tgt := 2) hx hb dX0_numberOf_34 (by decide) ?_
          exact ihL1 (q + 1)  (by omega) (by omega) (fun j hj => by rcases Nat.lt_succ_iff_lt_or_eq.mp hj with h | rfl; exact hq j h; exact fun z => z.1 ((lenF_0 (by have := hSZ j c1; omega)).mp c2)) _ _ _ hP hD hS (lv_sub hl [1, 2, 0] rfl)
        · skip
          refine lv_aload_n hx hb dX0_numberOf_18 rfl (lv_at hl 0 rfl) ?_
          refine va_get (D := D) (ci := 0) (v := .ref nm) (C := RX0) (T := TX0) (N := 4) hx hb hts (by decide +kernel) hown hK hP 0 rfl rfl 0 (by decide) (hts (.fieldLink RX0 11 "VeiledFiles$Book" "names" "[J") (by decide +kernel)) (fun _ h9 => h9) rfl dX0_numberOf_19 ?_
          refine lv_iload_n hx hb dX0_numberOf_22 rfl (lv_at hl 2 rfl) ?_
          refine k_lald hx hb hK hP 1 2 rfl rfl q (by omega) (by omega) (v := NM q) (rfl) dX0_numberOf_23 ?_
          refine lv_lload_n hx hb dX0_numberOf_24 rfl (lv_at hl 1 rfl) ?_
          refine W.lcmp hx hb dX0_numberOf_25 ?_
          refine lv_if_ne (tgt := 31) hx hb dX0_numberOf_26 (by decide) (fun c3 => ?_) (fun c3 => ?_)
          · skip
            refine lv_iinc (v := nI (q + 1)) (lv' := [(3, .int (nI (q + 1))), (0, .ref bk), (1, .long x)]) hx hb dX0_numberOf_31 hl (k := 2) rfl (nI_add q 1) (by decide) rfl (fun ls hl => ?_)
            refine lv_goto (tgt := 2) hx hb dX0_numberOf_34 (by decide) ?_
            exact ihL1 (q + 1)  (by omega) (by omega) (fun j hj => by rcases Nat.lt_succ_iff_lt_or_eq.mp hj with h | rfl; exact hq j h; exact fun z => c3 (lg_cmp_0.mpr z.2)) _ _ _ hP hD hS (lv_sub hl [1, 2, 0] rfl)
          · skip
            refine lv_iload_n hx hb dX0_numberOf_29 rfl (lv_at hl 2 rfl) ?_
            exact k_reti () hx hb hr hK hS hlk dX0_numberOf_30 hP hD (by rw [nmQ_at c1 ⟨fun z => c2 (lenF_n z), lg_cmp_0.mp c3⟩ hq]; simp [idx8, c1]) hQ
  exact L1 (8 + 1) 0  (by omega) (by omega) (fun j hj => absurd hj (by omega)) _ _ _ hP hD hS (lv_sub hl [1, 2, 0] rfl)

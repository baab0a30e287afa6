/-! the dice, the trail, the book -/
def dstep (G : Int32) : Int32 :=
  let a := G ^^^ (G <<< ((13 : Int32) &&& 31))
  let b := a ^^^ ush a 17
  b ^^^ (b <<< ((5 : Int32) &&& 31))
def drw (n : Nat) (G : Int32) : Nat := (dstep G).toBitVec.toNat / 2 ^ (32 - n)
theorem ush_nI (x : Int32) {k : Nat} (hk : k < 32) : ush x (nI k) = nI (x.toBitVec.toNat / 2 ^ k) := by
  have h : ∀ n : Nat, n < 32 → (((nI n).toUInt32 &&& Int32.toUInt32 31).toBitVec % 32).toNat = n := by decide +kernel
  have e := pk_ushr x (nI k) k (h k hk)
  have hlt : x.toBitVec.toNat / 2 ^ k < 2 ^ 32 := Nat.lt_of_le_of_lt (Nat.div_le_self _ _) x.toBitVec.isLt
  apply Int32.toBitVec_inj.mp
  apply BitVec.eq_of_toNat_eq
  rw [pk_tn hlt]
  exact e
theorem drw_lt {n : Nat} (G : Int32) (hn : n ≤ 32) : drw n G < 2 ^ n := by
  unfold drw
  rw [Nat.div_lt_iff_lt_mul (Nat.two_pow_pos _), ← Nat.pow_add, show n + (32 - n) = 32 by omega]
  exact (dstep G).toBitVec.isLt
theorem lg_cmp_0 {x y : Int64} : lg_cmp x y = 0 ↔ x = y := by
  unfold lg_cmp
  by_cases h1 : y < x
  · simp only [if_pos h1]
    constructor
    · intro h; exact absurd h (by decide)
    · intro h; subst h; exact absurd h1 (Int64.lt_irrefl)
  · by_cases h2 : x = y
    · simp [h1, h2]
    · simp [h1, h2]
/-- the trail's answer -/
def trF (ML DL : Nat → Int32) (cn : Nat) (k what : Int32) : Int32 :=
  if noB 64 k = true ∨ nI cn ≤ k then -1 else if what = 0 then ML ((cn - 1 - k.toNatClampNeg) % 64) else if what = 1 then DL ((cn - 1 - k.toNatClampNeg) % 64) else -1
def upN (g : Nat → Nat) (k v : Nat) : Nat → Nat := fun j => if j = k then v else g j
def nIf (g : Nat → Nat) : Nat → Int32 := fun k => nI (g k)
/-- the lengths of the class: NONE for a free number -/
def lenF (TH : Nat → Int32) (SZ : Nat → Nat) : Nat → Int32 := fun f => if TH f = 0 then -1 else nI (SZ f)
theorem lenF_y {TH : Nat → Int32} {SZ : Nat → Nat} {f : Nat} (h : ¬ TH f = 0) : lenF TH SZ f = nI (SZ f) := by simp [lenF, h]
theorem lenF_n {TH : Nat → Int32} {SZ : Nat → Nat} {f : Nat} (h : TH f = 0) : lenF TH SZ f = -1 := by simp [lenF, h]
theorem nI_m1 {n : Nat} (h : n < 2147483648) : ¬ nI n = -1 := by
  intro q
  have h1 := nI_pos (n := n) h
  rw [q] at h1
  exact h1 (by decide)
theorem lenF_0 {TH : Nat → Int32} {SZ : Nat → Nat} {f : Nat} (h : SZ f < 2147483648) : lenF TH SZ f = -1 ↔ TH f = 0 := by
  by_cases hf : TH f = 0
  · simp [lenF, hf]
  · rw [lenF_y hf]; exact ⟨fun q => absurd q (nI_m1 h), fun q => absurd q hf⟩
theorem upN_s {g : Nat → Nat} {k v : Nat} : upN g k v k = v := by simp [upN]
theorem upN_n {g : Nat → Nat} {k v j : Nat} (h : j ≠ k) : upN g k v j = g j := by simp [upN, h]
theorem nIf_up {g : Nat → Nat} {k v : Nat} : upd (nIf g) k (nI v) = nIf (upN g k v) := by
  funext j
  by_cases h : j = k
  · subst h; simp [upd, nIf, upN]
  · simp [upd, nIf, upN, h]
theorem lenF_add {TH : Nat → Int32} {SZ : Nat → Nat} {f : Nat} : upd (lenF TH SZ) f (nI 0) = lenF (upd TH f 1) (upN SZ f 0) := by
  funext j
  by_cases h : j = f
  · subst h; simp [upd, lenF, upN]
  · simp [upd, lenF, upN, h]
theorem lenF_inc {TH : Nat → Int32} {SZ : Nat → Nat} {f : Nat} (hf : ¬ TH f = 0) : upd (lenF TH SZ) f (nI (SZ f + 1)) = lenF TH (upN SZ f (SZ f + 1)) := by
  funext j
  by_cases h : j = f
  · subst h; simp [upd, lenF, upN, hf]
  · simp [upd, lenF, upN, h]
theorem lenF_drop {TH : Nat → Int32} {SZ : Nat → Nat} {f : Nat} : upd (lenF TH SZ) f (-1) = lenF (upd TH f 0) SZ := by
  funext j
  by_cases h : j = f
  · subst h; simp [upd, lenF]
  · simp [upd, lenF, h]
/-- no file -/
def notF (TH : Nat → Int32) (x : Int32) : Prop := noB 8 x = true ∨ ∃ f, f < 8 ∧ x = nI f ∧ TH f = 0
/-- a number or NONE -/
def idx8 (n q : Nat) : Int32 := if q < n then nI q else -1
def nmQ (TH : Nat → Int32) (NM : Nat → Int64) (x : Int64) : Nat := ff (fun f => !decide (TH f = 0) && decide (NM f = x)) 8
def frQ (TH : Nat → Int32) (n : Nat) : Nat := ff (fun f => decide (TH f = 0)) n
theorem frQ_at {TH : Nat → Int32} {n q : Nat} (hq : q < n) (h0 : TH q = 0) (hlt : ∀ j, j < q → ¬ TH j = 0) : frQ TH n = q := ff_at hq (by simpa using h0) (fun j hj => by simpa using hlt j hj)
theorem frQ_no {TH : Nat → Int32} {n : Nat} (hlt : ∀ j, j < n → ¬ TH j = 0) : frQ TH n = n := ff_no (fun j hj => by simpa using hlt j hj)
theorem nmQ_at {TH : Nat → Int32} {NM : Nat → Int64} {x : Int64} {q : Nat} (hq : q < 8) (h0 : ¬ TH q = 0 ∧ NM q = x) (hlt : ∀ j, j < q → ¬ (¬ TH j = 0 ∧ NM j = x)) : nmQ TH NM x = q :=
  ff_at hq (by simpa using h0) (fun j hj => by have := hlt j hj; simpa using this)
theorem nmQ_no {TH : Nat → Int32} {NM : Nat → Int64} {x : Int64} (hlt : ∀ j, j < 8 → ¬ (¬ TH j = 0 ∧ NM j = x)) : nmQ TH NM x = 8 :=
  ff_no (fun j hj => by have := hlt j hj; simpa using this)
/-- the first p parts of a file freed -/
def drK (PT : Nat → Nat) (f : Nat) (TK : Nat → Int32) : Nat → Nat → Int32
  | 0 => TK
  | p + 1 => upd (drK PT f TK p) (PT (6 * f + p)) 0
def cf0 (TK : Nat → Int32) : Nat → Nat
  | 0 => 0
  | k + 1 => cf0 TK k + if TK k = 0 then 1 else 0
theorem cf0_le (O : Nat → Int32) : ∀ k, cf0 O k ≤ k
  | 0 => Nat.le_refl 0
  | k + 1 => by have := cf0_le O k; by_cases h : O k = 0 <;> simp [cf0, h] <;> omega
theorem trF_n1 {ML DL : Nat → Int32} {cn : Nat} {k what : Int32} (h : noB 64 k = true) : trF ML DL cn k what = -1 := by simp [trF, h]
theorem trF_n2 {ML DL : Nat → Int32} {cn : Nat} {k what : Int32} (h : nI cn ≤ k) : trF ML DL cn k what = -1 := by simp [trF, h]
theorem trF_y {ML DL : Nat → Int32} {cn k : Nat} {what : Int32} (hk : k < 64) (hc : k < cn) (hn : cn < 2147483648) : trF ML DL cn (nI k) what = if what = 0 then ML ((cn - 1 - k) % 64) else if what = 1 then DL ((cn - 1 - k) % 64) else -1 := by
  have h1 : ¬ (noB 64 (nI k) = true ∨ nI cn ≤ nI k) := by
    rw [noB_nI hk (by decide)]
    rintro (h | h)
    · cases h
    · exact nI_ge hc hn h
  rw [trF, if_neg h1, nI_clamp (show k < 2 ^ 31 by omega)]
abbrev wDi (cI cZ cJ : ClassId) (di : Nat) (G : Int32) : va_W := [(di, .inr (1, [.int G]))]
abbrev wTl (cI cZ cJ : ClassId) (tr : Nat) (ml : Nat) (dl : Nat) (ML : Nat → Int32) (DL : Nat → Int32) (cn : Nat) : va_W := [(tr, .inr (2, [.ref ml, .ref dl, .int (nI cn)])), (ml, .inl (cI, 64, .inl ML)), (dl, .inl (cI, 64, .inl DL))]
abbrev wB (cI cZ cJ : ClassId) (bk : Nat) (nm : Nat) (ln : Nat) (pt : Nat) (tk : Nat) (NM : Nat → Int64) (TH : Nat → Int32) (SZ : Nat → Nat) (PT : Nat → Nat) (TK : Nat → Int32) : va_W := [(bk, .inr (0, [.ref nm, .ref ln, .ref pt, .ref tk])), (nm, .inl (cJ, 8, .inr (.inl NM))), (ln, .inl (cI, 8, .inl (lenF TH SZ))), (pt, .inl (cI, 48, .inl (nIf PT))), (tk, .inl (cZ, 64, .inl TK))]
set_option maxHeartbeats 800000 in
set_option maxRecDepth 100000 in
theorem c_begin_0 (l : Launch) (D : va_G) (cI cZ cJ : ClassId) (di : Nat) (G : Int32) (x : Int32) (hx0 : x = 0) : KV l yX1_begin wsX1_begin ({ frames := 0, cells := 0, slots := 0, locals := 0 }) D (kty cI cZ cJ) [.ref di, .int x] (wDi cI cZ cJ di G) (fun (_ : Unit) => True) (fun _ : Unit => (wDi cI cZ cJ di 1)) 0 0 := by
  refine k_headV (cc := cX1_begin) (maxL := 2) (ret := none) (by decide) rfl (Nat.le_of_ble_eq_true rfl) ?_
  intro p e s m below meth c A ls args Q hx hb hr hml hts hown hlk hnm hA hK hP hD hS hl hQ
  have hl : lv_has ls 2 [(0, .ref di), (1, .int x)] := hl
  refine lv_aload_n hx hb dX1_begin_0 rfl (lv_at hl 0 rfl) ?_
  refine lv_iload_n hx hb dX1_begin_1 rfl (lv_at hl 1 rfl) ?_
  refine lv_if_ne (tgt := 9) hx hb dX1_begin_2 (by decide) (fun c1 => ?_) (fun c1 => ?_)
  · skip
    exact absurd hx0 c1
  · skip
    refine lv_iconst (v := nI 1) hx hb dX1_begin_5 (by decide) ?_
    refine lv_goto (tgt := 10) hx hb dX1_begin_6 (by decide) ?_
    refine va_put (D := D) (ci := 1) (v := .int (nI 1)) (ty := .int) (C := RX1) (T := TX1) (N := 1) hx hb hts (by decide +kernel) tyX1 tyX1_ok nmX1 hown hK hP hD hS 0 rfl rfl 0 (by decide) (hts (.fieldLink RX1 7 "VeiledFiles$Dice" "word" "I") (by decide +kernel)) (fun _ h9 => h9) rfl (by decide +kernel) rfl rfl (Nat.le_of_ble_eq_true rfl) dX1_begin_10 (fun H locs hP hD hS => ?_)
    have hP : va_P D vwCl (wDi cI cZ cJ di 1) _ := hP
    have hD : va_D A (wDi cI cZ cJ di 1) := hD
    exact k_retv () hx hb hr hK hS hlk dX1_begin_13 hP hD (trivial) hQ

set_option maxHeartbeats 800000 in
set_option maxRecDepth 100000 in
theorem c_begin_x (l : Launch) (D : va_G) (cI cZ cJ : ClassId) (di : Nat) (G : Int32) (x : Int32) (hx0 : ¬ x = 0) : KV l yX1_begin wsX1_begin ({ frames := 0, cells := 0, slots := 0, locals := 0 }) D (kty cI cZ cJ) [.ref di, .int x] (wDi cI cZ cJ di G) (fun (_ : Unit) => True) (fun _ : Unit => (wDi cI cZ cJ di x)) 0 0 := by
  refine k_headV (cc := cX1_begin) (maxL := 2) (ret := none) (by decide) rfl (Nat.le_of_ble_eq_true rfl) ?_
  intro p e s m below meth c A ls args Q hx hb hr hml hts hown hlk hnm hA hK hP hD hS hl hQ
  have hl : lv_has ls 2 [(0, .ref di), (1, .int x)] := hl
  refine lv_aload_n hx hb dX1_begin_0 rfl (lv_at hl 0 rfl) ?_
  refine lv_iload_n hx hb dX1_begin_1 rfl (lv_at hl 1 rfl) ?_
  refine lv_if_ne (tgt := 9) hx hb dX1_begin_2 (by decide) (fun c1 => ?_) (fun c1 => ?_)
  · skip
    refine lv_iload_n hx hb dX1_begin_9 rfl (lv_at hl 1 rfl) ?_
    refine va_put (D := D) (ci := 1) (v := .int x) (ty := .int) (C := RX1) (T := TX1) (N := 1) hx hb hts (by decide +kernel) tyX1 tyX1_ok nmX1 hown hK hP hD hS 0 rfl rfl 0 (by decide) (hts (.fieldLink RX1 7 "VeiledFiles$Dice" "word" "I") (by decide +kernel)) (fun _ h9 => h9) rfl (by decide +kernel) rfl rfl (Nat.le_of_ble_eq_true rfl) dX1_begin_10 (fun H locs hP hD hS => ?_)
    have hP : va_P D vwCl (wDi cI cZ cJ di x) _ := hP
    have hD : va_D A (wDi cI cZ cJ di x) := hD
    exact k_retv () hx hb hr hK hS hlk dX1_begin_13 hP hD (trivial) hQ
  · skip
    exact absurd c1 hx0

set_option maxHeartbeats 800000 in
set_option maxRecDepth 100000 in
theorem c_draw (l : Launch) (D : va_G) (cI cZ cJ : ClassId) (di : Nat) (G : Int32) (n : Nat) (hn : 1 ≤ n ∧ n ≤ 31) : KI l yX1_draw wsX1_draw ({ frames := 0, cells := 0, slots := 0, locals := 0 }) D (kty cI cZ cJ) [.ref di, .int (nI n)] (wDi cI cZ cJ di G) (fun r (_ : Unit) => r = nI (drw n G)) (fun _ : Unit => (wDi cI cZ cJ di (dstep G))) 0 0 := by
  refine k_headI (cc := cX1_draw) (maxL := 2) (ret := (some .int)) (by decide) rfl (Nat.le_of_ble_eq_true rfl) ?_
  intro p e s m below meth c A ls args Q hx hb hr hml hts hown hlk hnm hA hK hP hD hS hl hQ
  have hl : lv_has ls 2 [(0, .ref di), (1, .int (nI n))] := hl
  refine lv_aload_n hx hb dX1_draw_0 rfl (lv_at hl 0 rfl) ?_
  refine lv_dup hx hb dX1_draw_1 rfl ?_
  refine va_get (D := D) (ci := 1) (v := .int G) (C := RX1) (T := TX1) (N := 1) hx hb hts (by decide +kernel) hown hK hP 0 rfl rfl 0 (by decide) (hts (.fieldLink RX1 7 "VeiledFiles$Dice" "word" "I") (by decide +kernel)) (fun _ h9 => h9) rfl dX1_draw_2 ?_
  refine lv_aload_n hx hb dX1_draw_5 rfl (lv_at hl 0 rfl) ?_
  refine va_get (D := D) (ci := 1) (v := .int G) (C := RX1) (T := TX1) (N := 1) hx hb hts (by decide +kernel) hown hK hP 0 rfl rfl 0 (by decide) (hts (.fieldLink RX1 7 "VeiledFiles$Dice" "word" "I") (by decide +kernel)) (fun _ h9 => h9) rfl dX1_draw_6 ?_
  refine lv_bipush (v := nI 13) hx hb dX1_draw_9 (by decide) ?_
  refine lv_ishl hx hb dX1_draw_11 ?_
  refine lv_ixor hx hb dX1_draw_12 ?_
  refine va_put (D := D) (ci := 1) (v := .int (G ^^^ (G <<< ((nI 13) &&& 31)))) (ty := .int) (C := RX1) (T := TX1) (N := 1) hx hb hts (by decide +kernel) tyX1 tyX1_ok nmX1 hown hK hP hD hS 0 rfl rfl 0 (by decide) (hts (.fieldLink RX1 7 "VeiledFiles$Dice" "word" "I") (by decide +kernel)) (fun _ h9 => h9) rfl (by decide +kernel) rfl rfl (Nat.le_of_ble_eq_true rfl) dX1_draw_13 (fun H locs hP hD hS => ?_)
  have hP : va_P D vwCl (wDi cI cZ cJ di (G ^^^ (G <<< ((nI 13) &&& 31)))) _ := hP
  have hD : va_D A (wDi cI cZ cJ di (G ^^^ (G <<< ((nI 13) &&& 31)))) := hD
  refine lv_aload_n hx hb dX1_draw_16 rfl (lv_at hl 0 rfl) ?_
  refine lv_dup hx hb dX1_draw_17 rfl ?_
  refine va_get (D := D) (ci := 1) (v := .int (G ^^^ (G <<< ((nI 13) &&& 31)))) (C := RX1) (T := TX1) (N := 1) hx hb hts (by decide +kernel) hown hK hP 0 rfl rfl 0 (by decide) (hts (.fieldLink RX1 7 "VeiledFiles$Dice" "word" "I") (by decide +kernel)) (fun _ h9 => h9) rfl dX1_draw_18 ?_
  refine lv_aload_n hx hb dX1_draw_21 rfl (lv_at hl 0 rfl) ?_
  refine va_get (D := D) (ci := 1) (v := .int (G ^^^ (G <<< ((nI 13) &&& 31)))) (C := RX1) (T := TX1) (N := 1) hx hb hts (by decide +kernel) hown hK hP 0 rfl rfl 0 (by decide) (hts (.fieldLink RX1 7 "VeiledFiles$Dice" "word" "I") (by decide +kernel)) (fun _ h9 => h9) rfl dX1_draw_22 ?_
  refine lv_bipush (v := nI 17) hx hb dX1_draw_25 (by decide) ?_
  refine lv_iushr (v := ush (G ^^^ (G <<< ((nI 13) &&& 31))) (nI 17)) hx hb dX1_draw_27 rfl ?_
  refine lv_ixor hx hb dX1_draw_28 ?_
  refine va_put (D := D) (ci := 1) (v := .int ((G ^^^ (G <<< ((nI 13) &&& 31))) ^^^ (ush (G ^^^ (G <<< ((nI 13) &&& 31))) (nI 17)))) (ty := .int) (C := RX1) (T := TX1) (N := 1) hx hb hts (by decide +kernel) tyX1 tyX1_ok nmX1 hown hK hP hD hS 0 rfl rfl 0 (by decide) (hts (.fieldLink RX1 7 "VeiledFiles$Dice" "word" "I") (by decide +kernel)) (fun _ h9 => h9) rfl (by decide +kernel) rfl rfl (Nat.le_of_ble_eq_true rfl) dX1_draw_29 (fun H locs hP hD hS => ?_)
  have hP : va_P D vwCl (wDi cI cZ cJ di ((G ^^^ (G <<< ((nI 13) &&& 31))) ^^^ (ush (G ^^^ (G <<< ((nI 13) &&& 31))) (nI 17)))) _ := hP
  have hD : va_D A (wDi cI cZ cJ di ((G ^^^ (G <<< ((nI 13) &&& 31))) ^^^ (ush (G ^^^ (G <<< ((nI 13) &&& 31))) (nI 17)))) := hD
  refine lv_aload_n hx hb dX1_draw_32 rfl (lv_at hl 0 rfl) ?_
  refine lv_dup hx hb dX1_draw_33 rfl ?_
  refine va_get (D := D) (ci := 1) (v := .int ((G ^^^ (G <<< ((nI 13) &&& 31))) ^^^ (ush (G ^^^ (G <<< ((nI 13) &&& 31))) (nI 17)))) (C := RX1) (T := TX1) (N := 1) hx hb hts (by decide +kernel) hown hK hP 0 rfl rfl 0 (by decide) (hts (.fieldLink RX1 7 "VeiledFiles$Dice" "word" "I") (by decide +kernel)) (fun _ h9 => h9) rfl dX1_draw_34 ?_
  refine lv_aload_n hx hb dX1_draw_37 rfl (lv_at hl 0 rfl) ?_
  refine va_get (D := D) (ci := 1) (v := .int ((G ^^^ (G <<< ((nI 13) &&& 31))) ^^^ (ush (G ^^^ (G <<< ((nI 13) &&& 31))) (nI 17)))) (C := RX1) (T := TX1) (N := 1) hx hb hts (by decide +kernel) hown hK hP 0 rfl rfl 0 (by decide) (hts (.fieldLink RX1 7 "VeiledFiles$Dice" "word" "I") (by decide +kernel)) (fun _ h9 => h9) rfl dX1_draw_38 ?_
  refine lv_iconst (v := nI 5) hx hb dX1_draw_41 (by decide) ?_
  refine lv_ishl hx hb dX1_draw_42 ?_
  refine lv_ixor hx hb dX1_draw_43 ?_
  refine va_put (D := D) (ci := 1) (v := .int (((G ^^^ (G <<< ((nI 13) &&& 31))) ^^^ (ush (G ^^^ (G <<< ((nI 13) &&& 31))) (nI 17))) ^^^ (((G ^^^ (G <<< ((nI 13) &&& 31))) ^^^ (ush (G ^^^ (G <<< ((nI 13) &&& 31))) (nI 17))) <<< ((nI 5) &&& 31)))) (ty := .int) (C := RX1) (T := TX1) (N := 1) hx hb hts (by decide +kernel) tyX1 tyX1_ok nmX1 hown hK hP hD hS 0 rfl rfl 0 (by decide) (hts (.fieldLink RX1 7 "VeiledFiles$Dice" "word" "I") (by decide +kernel)) (fun _ h9 => h9) rfl (by decide +kernel) rfl rfl (Nat.le_of_ble_eq_true rfl) dX1_draw_44 (fun H locs hP hD hS => ?_)
  have hP : va_P D vwCl (wDi cI cZ cJ di (((G ^^^ (G <<< ((nI 13) &&& 31))) ^^^ (ush (G ^^^ (G <<< ((nI 13) &&& 31))) (nI 17))) ^^^ (((G ^^^ (G <<< ((nI 13) &&& 31))) ^^^ (ush (G ^^^ (G <<< ((nI 13) &&& 31))) (nI 17))) <<< ((nI 5) &&& 31)))) _ := hP
  have hD : va_D A (wDi cI cZ cJ di (((G ^^^ (G <<< ((nI 13) &&& 31))) ^^^ (ush (G ^^^ (G <<< ((nI 13) &&& 31))) (nI 17))) ^^^ (((G ^^^ (G <<< ((nI 13) &&& 31))) ^^^ (ush (G ^^^ (G <<< ((nI 13) &&& 31))) (nI 17))) <<< ((nI 5) &&& 31)))) := hD
  have hE1 : (wDi cI cZ cJ di (((G ^^^ (G <<< ((nI 13) &&& 31))) ^^^ (ush (G ^^^ (G <<< ((nI 13) &&& 31))) (nI 17))) ^^^ (((G ^^^ (G <<< ((nI 13) &&& 31))) ^^^ (ush (G ^^^ (G <<< ((nI 13) &&& 31))) (nI 17))) <<< ((nI 5) &&& 31)))) = (wDi cI cZ cJ di (dstep G)) := rfl
  rw [hE1] at hP hD
  refine lv_aload_n hx hb dX1_draw_47 rfl (lv_at hl 0 rfl) ?_
  refine va_get (D := D) (ci := 1) (v := .int (dstep G)) (C := RX1) (T := TX1) (N := 1) hx hb hts (by decide +kernel) hown hK hP 0 rfl rfl 0 (by decide) (hts (.fieldLink RX1 7 "VeiledFiles$Dice" "word" "I") (by decide +kernel)) (fun _ h9 => h9) rfl dX1_draw_48 ?_
  refine lv_bipush (v := nI 32) hx hb dX1_draw_51 (by decide) ?_
  refine lv_iload_n hx hb dX1_draw_53 rfl (lv_at hl 1 rfl) ?_
  refine lv_isub hx hb dX1_draw_54 ?_
  refine k_t1 (show (nI 32) - (nI n) = nI (32 - n) from pk_sub (by omega)) ?_
  refine lv_iushr (v := ush (dstep G) (nI (32 - n))) hx hb dX1_draw_55 rfl ?_
  refine k_t1 (show ush (dstep G) (nI (32 - n)) = nI (drw n G) from ush_nI _ (by omega)) ?_
  exact k_reti () hx hb hr hK hS hlk dX1_draw_56 hP hD (rfl) hQ

set_option maxHeartbeats 800000 in
set_option maxRecDepth 100000 in
theorem c_tr_empty (l : Launch) (D : va_G) (cI cZ cJ : ClassId) (tr : Nat) (ml : Nat) (dl : Nat) (ML : Nat → Int32) (DL : Nat → Int32) (cn : Nat)   : KV l yX2_empty wsX2_empty ({ frames := 0, cells := 0, slots := 0, locals := 0 }) D (kty cI cZ cJ) [.ref tr] (wTl cI cZ cJ tr ml dl ML DL cn) (fun (_ : Unit) => True) (fun _ : Unit => (wTl cI cZ cJ tr ml dl ML DL 0)) 0 0 := by
  refine k_headV (cc := cX2_empty) (maxL := 1) (ret := none) (by decide) rfl (Nat.le_of_ble_eq_true rfl) ?_
  intro p e s m below meth c A ls args Q hx hb hr hml hts hown hlk hnm hA hK hP hD hS hl hQ
  have hl : lv_has ls 1 [(0, .ref tr)] := hl
  refine lv_aload_n hx hb dX2_empty_0 rfl (lv_at hl 0 rfl) ?_
  refine lv_iconst (v := nI 0) hx hb dX2_empty_1 (by decide) ?_
  refine va_put (D := D) (ci := 2) (v := .int (nI 0)) (ty := .int) (C := RX2) (T := TX2) (N := 3) hx hb hts (by decide +kernel) tyX2 tyX2_ok nmX2 hown hK hP hD hS 0 rfl rfl 2 (by decide) (hts (.fieldLink RX2 18 "VeiledFiles$Trail" "count" "I") (by decide +kernel)) (fun _ h9 => h9) rfl (by decide +kernel) rfl rfl (Nat.le_of_ble_eq_true rfl) dX2_empty_2 (fun H locs hP hD hS => ?_)
  have hP : va_P D vwCl (wTl cI cZ cJ tr ml dl ML DL 0) _ := hP
  have hD : va_D A (wTl cI cZ cJ tr ml dl ML DL 0) := hD
  exact k_retv () hx hb hr hK hS hlk dX2_empty_5 hP hD (trivial) hQ

set_option maxHeartbeats 800000 in
set_option maxRecDepth 100000 in
theorem c_tr_add (l : Launch) (D : va_G) (cI cZ cJ : ClassId) (tr : Nat) (ml : Nat) (dl : Nat) (ML : Nat → Int32) (DL : Nat → Int32) (cn : Nat) (v : Int32) (hc : cn < 1000000) : KV l yX2_add wsX2_add ({ frames := 0, cells := 0, slots := 0, locals := 0 }) D (kty cI cZ cJ) [.ref tr, .int v] (wTl cI cZ cJ tr ml dl ML DL cn) (fun (_ : Unit) => True) (fun _ : Unit => (wTl cI cZ cJ tr ml dl (upd ML (cn % 64) v) (upd DL (cn % 64) (-1)) (cn + 1))) 0 0 := by
  refine k_headV (cc := cX2_add) (maxL := 2) (ret := none) (by decide) rfl (Nat.le_of_ble_eq_true rfl) ?_
  intro p e s m below meth c A ls args Q hx hb hr hml hts hown hlk hnm hA hK hP hD hS hl hQ
  have hl : lv_has ls 2 [(0, .ref tr), (1, .int v)] := hl
  refine lv_aload_n hx hb dX2_add_0 rfl (lv_at hl 0 rfl) ?_
  refine va_get (D := D) (ci := 2) (v := .ref ml) (C := RX2) (T := TX2) (N := 3) hx hb hts (by decide +kernel) hown hK hP 0 rfl rfl 0 (by decide) (hts (.fieldLink RX2 11 "VeiledFiles$Trail" "mapLeaf" "[I") (by decide +kernel)) (fun _ h9 => h9) rfl dX2_add_1 ?_
  refine lv_aload_n hx hb dX2_add_4 rfl (lv_at hl 0 rfl) ?_
  refine va_get (D := D) (ci := 2) (v := .int (nI cn)) (C := RX2) (T := TX2) (N := 3) hx hb hts (by decide +kernel) hown hK hP 0 rfl rfl 2 (by decide) (hts (.fieldLink RX2 18 "VeiledFiles$Trail" "count" "I") (by decide +kernel)) (fun _ h9 => h9) rfl dX2_add_5 ?_
  refine lv_bipush (v := nI 64) hx hb dX2_add_8 (by decide) ?_
  refine lv_irem hx hb dX2_add_10 (by decide) ?_
  refine k_t1 (show (nI cn) - (nI cn) / (nI 64) * (nI 64) = nI (cn % 64) from pk_rem (by omega) (by omega) (by omega)) ?_
  refine lv_iload_n hx hb dX2_add_11 rfl (lv_at hl 1 rfl) ?_
  refine k_iast hx hb hK hP hD hS 1 0 rfl rfl (cn % 64) (by omega) (by omega) (g := (upd ML (cn % 64) v)) (rfl) dX2_add_12 (fun H locs hP hD hS => ?_)
  have hP : va_P D vwCl (wTl cI cZ cJ tr ml dl (upd ML (cn % 64) v) DL cn) _ := hP
  have hD : va_D A (wTl cI cZ cJ tr ml dl (upd ML (cn % 64) v) DL cn) := hD
  refine lv_aload_n hx hb dX2_add_13 rfl (lv_at hl 0 rfl) ?_
  refine va_get (D := D) (ci := 2) (v := .ref dl) (C := RX2) (T := TX2) (N := 3) hx hb hts (by decide +kernel) hown hK hP 0 rfl rfl 1 (by decide) (hts (.fieldLink RX2 15 "VeiledFiles$Trail" "dataLeaf" "[I") (by decide +kernel)) (fun _ h9 => h9) rfl dX2_add_14 ?_
  refine lv_aload_n hx hb dX2_add_17 rfl (lv_at hl 0 rfl) ?_
  refine va_get (D := D) (ci := 2) (v := .int (nI cn)) (C := RX2) (T := TX2) (N := 3) hx hb hts (by decide +kernel) hown hK hP 0 rfl rfl 2 (by decide) (hts (.fieldLink RX2 18 "VeiledFiles$Trail" "count" "I") (by decide +kernel)) (fun _ h9 => h9) rfl dX2_add_18 ?_
  refine lv_bipush (v := nI 64) hx hb dX2_add_21 (by decide) ?_
  refine lv_irem hx hb dX2_add_23 (by decide) ?_
  refine k_t1 (show (nI cn) - (nI cn) / (nI 64) * (nI 64) = nI (cn % 64) from pk_rem (by omega) (by omega) (by omega)) ?_
  refine lv_iconst (v := -1) hx hb dX2_add_24 (by decide) ?_
  refine k_iast hx hb hK hP hD hS 2 0 rfl rfl (cn % 64) (by omega) (by omega) (g := (upd DL (cn % 64) (-1))) (rfl) dX2_add_25 (fun H locs hP hD hS => ?_)
  have hP : va_P D vwCl (wTl cI cZ cJ tr ml dl (upd ML (cn % 64) v) (upd DL (cn % 64) (-1)) cn) _ := hP
  have hD : va_D A (wTl cI cZ cJ tr ml dl (upd ML (cn % 64) v) (upd DL (cn % 64) (-1)) cn) := hD
  refine lv_aload_n hx hb dX2_add_26 rfl (lv_at hl 0 rfl) ?_
  refine lv_dup hx hb dX2_add_27 rfl ?_
  refine va_get (D := D) (ci := 2) (v := .int (nI cn)) (C := RX2) (T := TX2) (N := 3) hx hb hts (by decide +kernel) hown hK hP 0 rfl rfl 2 (by decide) (hts (.fieldLink RX2 18 "VeiledFiles$Trail" "count" "I") (by decide +kernel)) (fun _ h9 => h9) rfl dX2_add_28 ?_
  refine lv_iconst (v := nI 1) hx hb dX2_add_31 (by decide) ?_
  refine lv_iadd hx hb dX2_add_32 ?_
  refine k_t1 (show (nI cn) + (nI 1) = nI (cn + 1) from nI_add _ _) ?_
  refine va_put (D := D) (ci := 2) (v := .int (nI (cn + 1))) (ty := .int) (C := RX2) (T := TX2) (N := 3) hx hb hts (by decide +kernel) tyX2 tyX2_ok nmX2 hown hK hP hD hS 0 rfl rfl 2 (by decide) (hts (.fieldLink RX2 18 "VeiledFiles$Trail" "count" "I") (by decide +kernel)) (fun _ h9 => h9) rfl (by decide +kernel) rfl rfl (Nat.le_of_ble_eq_true rfl) dX2_add_33 (fun H locs hP hD hS => ?_)
  have hP : va_P D vwCl (wTl cI cZ cJ tr ml dl (upd ML (cn % 64) v) (upd DL (cn % 64) (-1)) (cn + 1)) _ := hP
  have hD : va_D A (wTl cI cZ cJ tr ml dl (upd ML (cn % 64) v) (upd DL (cn % 64) (-1)) (cn + 1)) := hD
  exact k_retv () hx hb hr hK hS hlk dX2_add_36 hP hD (trivial) hQ

set_option maxHeartbeats 800000 in
set_option maxRecDepth 100000 in
theorem c_tr_set (l : Launch) (D : va_G) (cI cZ cJ : ClassId) (tr : Nat) (ml : Nat) (dl : Nat) (ML : Nat → Int32) (DL : Nat → Int32) (cn : Nat) (v : Int32) (hc : 0 < cn ∧ cn < 1000000) : KV l yX2_setDataLeaf wsX2_setDataLeaf ({ frames := 0, cells := 0, slots := 0, locals := 0 }) D (kty cI cZ cJ) [.ref tr, .int v] (wTl cI cZ cJ tr ml dl ML DL cn) (fun (_ : Unit) => True) (fun _ : Unit => (wTl cI cZ cJ tr ml dl ML (upd DL ((cn - 1) % 64) v) cn)) 0 0 := by
  refine k_headV (cc := cX2_setDataLeaf) (maxL := 2) (ret := none) (by decide) rfl (Nat.le_of_ble_eq_true rfl) ?_
  intro p e s m below meth c A ls args Q hx hb hr hml hts hown hlk hnm hA hK hP hD hS hl hQ
  have hl : lv_has ls 2 [(0, .ref tr), (1, .int v)] := hl
  refine lv_aload_n hx hb dX2_setDataLeaf_0 rfl (lv_at hl 0 rfl) ?_
  refine va_get (D := D) (ci := 2) (v := .int (nI cn)) (C := RX2) (T := TX2) (N := 3) hx hb hts (by decide +kernel) hown hK hP 0 rfl rfl 2 (by decide) (hts (.fieldLink RX2 18 "VeiledFiles$Trail" "count" "I") (by decide +kernel)) (fun _ h9 => h9) rfl dX2_setDataLeaf_1 ?_
  refine lv_if_le (tgt := 22) hx hb dX2_setDataLeaf_4 (by decide) (fun c1 => ?_) (fun c1 => ?_)
  · skip
    exact absurd c1 (nI_nle hc.1 (by omega))
  · skip
    refine lv_aload_n hx hb dX2_setDataLeaf_7 rfl (lv_at hl 0 rfl) ?_
    refine va_get (D := D) (ci := 2) (v := .ref dl) (C := RX2) (T := TX2) (N := 3) hx hb hts (by decide +kernel) hown hK hP 0 rfl rfl 1 (by decide) (hts (.fieldLink RX2 15 "VeiledFiles$Trail" "dataLeaf" "[I") (by decide +kernel)) (fun _ h9 => h9) rfl dX2_setDataLeaf_8 ?_
    refine lv_aload_n hx hb dX2_setDataLeaf_11 rfl (lv_at hl 0 rfl) ?_
    refine va_get (D := D) (ci := 2) (v := .int (nI cn)) (C := RX2) (T := TX2) (N := 3) hx hb hts (by decide +kernel) hown hK hP 0 rfl rfl 2 (by decide) (hts (.fieldLink RX2 18 "VeiledFiles$Trail" "count" "I") (by decide +kernel)) (fun _ h9 => h9) rfl dX2_setDataLeaf_12 ?_
    refine lv_iconst (v := nI 1) hx hb dX2_setDataLeaf_15 (by decide) ?_
    refine lv_isub hx hb dX2_setDataLeaf_16 ?_
    refine k_t1 (show (nI cn) - (nI 1) = nI (cn - 1) from pk_sub (by omega)) ?_
    refine lv_bipush (v := nI 64) hx hb dX2_setDataLeaf_17 (by decide) ?_
    refine lv_irem hx hb dX2_setDataLeaf_19 (by decide) ?_
    refine k_t1 (show (nI (cn - 1)) - (nI (cn - 1)) / (nI 64) * (nI 64) = nI ((cn - 1) % 64) from pk_rem (by omega) (by omega) (by omega)) ?_
    refine lv_iload_n hx hb dX2_setDataLeaf_20 rfl (lv_at hl 1 rfl) ?_
    refine k_iast hx hb hK hP hD hS 2 0 rfl rfl ((cn - 1) % 64) (by omega) (by omega) (g := (upd DL ((cn - 1) % 64) v)) (rfl) dX2_setDataLeaf_21 (fun H locs hP hD hS => ?_)
    have hP : va_P D vwCl (wTl cI cZ cJ tr ml dl ML (upd DL ((cn - 1) % 64) v) cn) _ := hP
    have hD : va_D A (wTl cI cZ cJ tr ml dl ML (upd DL ((cn - 1) % 64) v) cn) := hD
    exact k_retv () hx hb hr hK hS hlk dX2_setDataLeaf_22 hP hD (trivial) hQ

set_option maxHeartbeats 800000 in
set_option maxRecDepth 100000 in
theorem c_tr_count (l : Launch) (D : va_G) (cI cZ cJ : ClassId) (tr : Nat) (ml : Nat) (dl : Nat) (ML : Nat → Int32) (DL : Nat → Int32) (cn : Nat)   : KI l yX2_countAll wsX2_countAll ({ frames := 0, cells := 0, slots := 0, locals := 0 }) D (kty cI cZ cJ) [.ref tr] (wTl cI cZ cJ tr ml dl ML DL cn) (fun r (_ : Unit) => r = nI cn) (fun _ : Unit => (wTl cI cZ cJ tr ml dl ML DL cn)) 0 0 := by
  refine k_headI (cc := cX2_countAll) (maxL := 1) (ret := (some .int)) (by decide) rfl (Nat.le_of_ble_eq_true rfl) ?_
  intro p e s m below meth c A ls args Q hx hb hr hml hts hown hlk hnm hA hK hP hD hS hl hQ
  have hl : lv_has ls 1 [(0, .ref tr)] := hl
  refine lv_aload_n hx hb dX2_countAll_0 rfl (lv_at hl 0 rfl) ?_
  refine va_get (D := D) (ci := 2) (v := .int (nI cn)) (C := RX2) (T := TX2) (N := 3) hx hb hts (by decide +kernel) hown hK hP 0 rfl rfl 2 (by decide) (hts (.fieldLink RX2 18 "VeiledFiles$Trail" "count" "I") (by decide +kernel)) (fun _ h9 => h9) rfl dX2_countAll_1 ?_
  exact k_reti () hx hb hr hK hS hlk dX2_countAll_4 hP hD (rfl) hQ

set_option maxHeartbeats 800000 in
set_option maxRecDepth 100000 in
theorem c_tr_leafOf (l : Launch) (D : va_G) (cI cZ cJ : ClassId) (tr : Nat) (ml : Nat) (dl : Nat) (ML : Nat → Int32) (DL : Nat → Int32) (cn : Nat) (k what : Int32) (hc : cn < 1000000) : KI l yX2_leafOf wsX2_leafOf ({ frames := 0, cells := 0, slots := 0, locals := 0 }) D (kty cI cZ cJ) [.ref tr, .int k, .int what] (wTl cI cZ cJ tr ml dl ML DL cn) (fun r (_ : Unit) => r = trF ML DL cn k what) (fun _ : Unit => (wTl cI cZ cJ tr ml dl ML DL cn)) 0 0 := by
  refine k_headI (cc := cX2_leafOf) (maxL := 4) (ret := (some .int)) (by decide) rfl (Nat.le_of_ble_eq_true rfl) ?_
  intro p e s m below meth c A ls args Q hx hb hr hml hts hown hlk hnm hA hK hP hD hS hl hQ
  have hl : lv_has ls 4 [(0, .ref tr), (1, .int k), (2, .int what)] := hl
  refine lv_iload_n hx hb dX2_leafOf_0 rfl (lv_at hl 1 rfl) ?_
  refine lv_if_lt (tgt := 18) hx hb dX2_leafOf_1 (by decide) (fun c1 => ?_) (fun c1 => ?_)
  · skip
    refine lv_iconst (v := -1) hx hb dX2_leafOf_18 (by decide) ?_
    exact k_reti () hx hb hr hK hS hlk dX2_leafOf_19 hP hD (by exact (trF_n1 (noB_lt c1)).symm) hQ
  · skip
    refine lv_iload_n hx hb dX2_leafOf_4 rfl (lv_at hl 1 rfl) ?_
    refine lv_bipush (v := nI 64) hx hb dX2_leafOf_5 (by decide) ?_
    refine lv_icmp_ge (tgt := 18) hx hb dX2_leafOf_7 (by decide) (fun c2 => ?_) (fun c2 => ?_)
    · skip
      refine lv_iconst (v := -1) hx hb dX2_leafOf_18 (by decide) ?_
      exact k_reti () hx hb hr hK hS hlk dX2_leafOf_19 hP hD (by exact (trF_n1 (noB_ge c2)).symm) hQ
    · skip
      refine lv_iload_n hx hb dX2_leafOf_10 rfl (lv_at hl 1 rfl) ?_
      refine lv_aload_n hx hb dX2_leafOf_11 rfl (lv_at hl 0 rfl) ?_
      refine va_get (D := D) (ci := 2) (v := .int (nI cn)) (C := RX2) (T := TX2) (N := 3) hx hb hts (by decide +kernel) hown hK hP 0 rfl rfl 2 (by decide) (hts (.fieldLink RX2 18 "VeiledFiles$Trail" "count" "I") (by decide +kernel)) (fun _ h9 => h9) rfl dX2_leafOf_12 ?_
      refine lv_icmp_lt (tgt := 20) hx hb dX2_leafOf_15 (by decide) (fun c3 => ?_) (fun c3 => ?_)
      · skip
        obtain ⟨k0, hk0, rfl⟩ := noB_false (by decide) c1 c2
        have hkc : k0 < cn := (nI_ltI (by omega) (by omega)).mp c3
        have hty := trF_y (ML := ML) (DL := DL) (what := what) hk0 hkc (by omega)
        refine lv_aload_n hx hb dX2_leafOf_20 rfl (lv_at hl 0 rfl) ?_
        refine va_get (D := D) (ci := 2) (v := .int (nI cn)) (C := RX2) (T := TX2) (N := 3) hx hb hts (by decide +kernel) hown hK hP 0 rfl rfl 2 (by decide) (hts (.fieldLink RX2 18 "VeiledFiles$Trail" "count" "I") (by decide +kernel)) (fun _ h9 => h9) rfl dX2_leafOf_21 ?_
        refine lv_iconst (v := nI 1) hx hb dX2_leafOf_24 (by decide) ?_
        refine lv_isub hx hb dX2_leafOf_25 ?_
        refine k_t1 (show (nI cn) - (nI 1) = nI (cn - 1) from pk_sub (by omega)) ?_
        refine lv_iload_n hx hb dX2_leafOf_26 rfl (lv_at hl 1 rfl) ?_
        refine lv_isub hx hb dX2_leafOf_27 ?_
        refine k_t1 (show (nI (cn - 1)) - (nI k0) = nI ((cn - 1) - k0) from pk_sub (by omega)) ?_
        refine lv_bipush (v := nI 64) hx hb dX2_leafOf_28 (by decide) ?_
        refine lv_irem hx hb dX2_leafOf_30 (by decide) ?_
        refine k_t1 (show (nI ((cn - 1) - k0)) - (nI ((cn - 1) - k0)) / (nI 64) * (nI 64) = nI (((cn - 1) - k0) % 64) from pk_rem (by omega) (by omega) (by omega)) ?_
        refine lv_istore_n (lv' := [(3, .int (nI (((cn - 1) - k0) % 64))), (0, .ref tr), (1, .int (nI k0)), (2, .int what)]) hx hb dX2_leafOf_31 rfl hl (by decide) rfl (fun ls hl => ?_)
        refine lv_iload_n hx hb dX2_leafOf_32 rfl (lv_at hl 3 rfl) ?_
        refine lv_if_ne (tgt := 43) hx hb dX2_leafOf_33 (by decide) (fun c4 => ?_) (fun c4 => ?_)
        · skip
          refine lv_iload_n hx hb dX2_leafOf_43 rfl (lv_at hl 3 rfl) ?_
          refine lv_iconst (v := nI 1) hx hb dX2_leafOf_44 (by decide) ?_
          refine lv_icmp_ne (tgt := 57) hx hb dX2_leafOf_45 (by decide) (fun c5 => ?_) (fun c5 => ?_)
          · skip
            refine lv_iconst (v := -1) hx hb dX2_leafOf_57 (by decide) ?_
            exact k_reti () hx hb hr hK hS hlk dX2_leafOf_58 hP hD (by rw [hty, if_neg c4, if_neg (show ¬ what = 1 from c5)]) hQ
          · skip
            refine lv_aload_n hx hb dX2_leafOf_48 rfl (lv_at hl 1 rfl) ?_
            refine va_get (D := D) (ci := 2) (v := .ref dl) (C := RX2) (T := TX2) (N := 3) hx hb hts (by decide +kernel) hown hK hP 0 rfl rfl 1 (by decide) (hts (.fieldLink RX2 15 "VeiledFiles$Trail" "dataLeaf" "[I") (by decide +kernel)) (fun _ h9 => h9) rfl dX2_leafOf_49 ?_
            refine lv_iload_n hx hb dX2_leafOf_52 rfl (lv_at hl 0 rfl) ?_
            refine k_iald hx hb hK hP 2 0 rfl rfl (((cn - 1) - k0) % 64) (by omega) (by omega) (v := DL (((cn - 1) - k0) % 64)) (rfl) dX2_leafOf_53 ?_
            refine lv_goto (tgt := 58) hx hb dX2_leafOf_54 (by decide) ?_
            exact k_reti () hx hb hr hK hS hlk dX2_leafOf_58 hP hD (by rw [hty, if_neg c4, if_pos (show what = 1 from c5)]) hQ
        · skip
          refine lv_aload_n hx hb dX2_leafOf_36 rfl (lv_at hl 1 rfl) ?_
          refine va_get (D := D) (ci := 2) (v := .ref ml) (C := RX2) (T := TX2) (N := 3) hx hb hts (by decide +kernel) hown hK hP 0 rfl rfl 0 (by decide) (hts (.fieldLink RX2 11 "VeiledFiles$Trail" "mapLeaf" "[I") (by decide +kernel)) (fun _ h9 => h9) rfl dX2_leafOf_37 ?_
          refine lv_iload_n hx hb dX2_leafOf_40 rfl (lv_at hl 0 rfl) ?_
          refine k_iald hx hb hK hP 1 0 rfl rfl (((cn - 1) - k0) % 64) (by omega) (by omega) (v := ML (((cn - 1) - k0) % 64)) (rfl) dX2_leafOf_41 ?_
          exact k_reti () hx hb hr hK hS hlk dX2_leafOf_42 hP hD (by rw [hty, if_pos c4]) hQ
      · skip
        refine lv_iconst (v := -1) hx hb dX2_leafOf_18 (by decide) ?_
        exact k_reti () hx hb hr hK hS hlk dX2_leafOf_19 hP hD (by exact (trF_n2 (Int32.not_lt.mp c3)).symm) hQ

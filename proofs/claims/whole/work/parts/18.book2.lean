/-- create -/
def adOk (TH : Nat → Int32) (NM : Nat → Int64) (x : Int64) : Bool := decide (frQ TH 8 < 8) && !decide (nmQ TH NM x < 8)
def adTH (TH : Nat → Int32) (NM : Nat → Int64) (x : Int64) : Nat → Int32 := if adOk TH NM x = true then upd TH (frQ TH 8) 1 else TH
def adNM (TH : Nat → Int32) (NM : Nat → Int64) (x : Int64) : Nat → Int64 := if adOk TH NM x = true then vp_updL NM (frQ TH 8) x else NM
def adSZ (TH : Nat → Int32) (NM : Nat → Int64) (SZ : Nat → Nat) (x : Int64) : Nat → Nat := if adOk TH NM x = true then upN SZ (frQ TH 8) 0 else SZ
def adR (TH : Nat → Int32) (NM : Nat → Int64) (x : Int64) : Int32 := if adOk TH NM x = true then nI (frQ TH 8) else -1
theorem idx8_y {n q : Nat} (h : q < n) : idx8 n q = nI q := by simp [idx8, h]
theorem idx8_n {n q : Nat} (h : ¬ q < n) : idx8 n q = -1 := by simp [idx8, h]
/-- no word to read there -/
def badR (TH : Nat → Int32) (SZ : Nat → Nat) (x i : Int32) : Prop := i < 0 ∨ notF TH x ∨ ∃ f, f < 8 ∧ x = nI f ∧ ¬ TH f = 0 ∧ nI (SZ f) ≤ i
/-- no word to write there -/
def badW (TH : Nat → Int32) (SZ : Nat → Nat) (x i : Int32) : Prop := i < 0 ∨ notF TH x ∨ ∃ f, f < 8 ∧ x = nI f ∧ ¬ TH f = 0 ∧ (nI (SZ f) < i ∨ nI 24 ≤ i)
theorem drK_s {PT : Nat → Nat} {f p : Nat} {TK : Nat → Int32} : upd (drK PT f TK p) (PT (6 * f + p)) (nI 0) = drK PT f TK (p + 1) := rfl
abbrev wBr (cI cZ cJ : ClassId) (bk : Nat) (nm : Nat) (ln : Nat) (pt : Nat) (tk : Nat) (NM : Nat → Int64) (LN : Nat → Int32) (PT : Nat → Nat) (TK : Nat → Int32) : va_W := [(bk, .inr (0, [.ref nm, .ref ln, .ref pt, .ref tk])), (nm, .inl (cJ, 8, .inr (.inl NM))), (ln, .inl (cI, 8, .inl LN)), (pt, .inl (cI, 48, .inl (nIf PT))), (tk, .inl (cZ, 64, .inl TK))]
set_option maxHeartbeats 800000 in
set_option maxRecDepth 100000 in
theorem c_add (l : Launch) (D : va_G) (cI cZ cJ : ClassId) (bk : Nat) (nm : Nat) (ln : Nat) (pt : Nat) (tk : Nat) (NM : Nat → Int64) (TH : Nat → Int32) (SZ : Nat → Nat) (PT : Nat → Nat) (TK : Nat → Int32) (x : Int64) (hSZ : ∀ f, f < 8 → SZ f ≤ 24) : KI l yX0_add wsX0_add ({ frames := 1, cells := 0, slots := 0, locals := 23 }) D (kty cI cZ cJ) [.ref bk, .long x] (wB cI cZ cJ bk nm ln pt tk NM TH SZ PT TK) (fun r (_ : Unit) => r = adR TH NM x) (fun _ : Unit => (wB cI cZ cJ bk nm ln pt tk (adNM TH NM x) (adTH TH NM x) (adSZ TH NM SZ x) PT TK)) 0 0 := by
  refine k_headI (cc := cX0_add) (maxL := 4) (ret := (some .int)) (by decide) rfl (Nat.le_of_ble_eq_true rfl) ?_
  intro p e s m below meth c A ls args Q hx hb hr hml hts hown hlk hnm hA hK hP hD hS hl hQ
  have hl : lv_has ls 4 [(0, .ref bk), (1, .long x)] := hl
  refine lv_aload_n hx hb dX0_add_0 rfl (lv_at hl 0 rfl) ?_
  refine k_vi (As := []) (rest := []) (w2 := fun u : Unit => (wB cI cZ cJ bk nm ln pt tk NM TH SZ PT TK)) ⟨hx, hb, hml, hown, hts⟩ (c_leastFreeNumber l D cI cZ cJ bk nm ln pt tk NM TH SZ PT TK hSZ) (cwV 0 hts gX0_add_X0_leastFreeNumber rfl rfl rfl (by decide +kernel) ⟨Nat.le_of_ble_eq_true rfl, Nat.le_of_ble_eq_true rfl⟩) hP hD hK hS hA [0, 1, 2, 3, 4] [] [0, 1, 2, 3, 4] rfl rfl (by decide) (fun u => rfl) rfl rfl (q0 := 0) rfl rfl hl.1 rfl (Nat.le_of_ble_eq_true rfl) dX0_add_1 ⟨Nat.le_of_ble_eq_true rfl, Nat.le_of_ble_eq_true rfl⟩ (fun r u H locs hu1 hP hD hS => ?_)
  refine k_t1 (show r = idx8 8 (frQ TH 8) from hu1) ?_
  by_cases h1 : frQ TH 8 < 8
  · skip
    refine k_t1 (show idx8 8 (frQ TH 8) = nI (frQ TH 8) from idx8_y h1) ?_
    refine lv_istore_n (lv' := [(3, .int (nI (frQ TH 8))), (0, .ref bk), (1, .long x)]) hx hb dX0_add_4 rfl hl (by decide) rfl (fun ls hl => ?_)
    refine lv_iload_n hx hb dX0_add_5 rfl (lv_at hl 0 rfl) ?_
    refine lv_iconst (v := -1) hx hb dX0_add_6 (by decide) ?_
    refine lv_icmp_eq (tgt := 19) hx hb dX0_add_7 (by decide) (fun c1 => ?_) (fun c1 => ?_)
    · skip
      exact absurd c1 (nI_m1 (by omega))
    · skip
      refine lv_aload_n hx hb dX0_add_10 rfl (lv_at hl 1 rfl) ?_
      refine lv_lload_n hx hb dX0_add_11 rfl (lv_at hl 2 rfl) ?_
      refine k_vi (As := [.long x]) (rest := []) (w2 := fun u : Unit => (wB cI cZ cJ bk nm ln pt tk NM TH SZ PT TK)) ⟨hx, hb, hml, hown, hts⟩ (c_numberOf l D cI cZ cJ bk nm ln pt tk NM TH SZ PT TK x hSZ) (cwV 1 hts gX0_add_X0_numberOf rfl rfl rfl (by decide +kernel) ⟨Nat.le_of_ble_eq_true rfl, Nat.le_of_ble_eq_true rfl⟩) hP hD hK hS hA [0, 1, 2, 3, 4] [] [0, 1, 2, 3, 4] rfl rfl (by decide) (fun u => rfl) rfl rfl (q0 := 0) rfl rfl hl.1 rfl (Nat.le_of_ble_eq_true rfl) dX0_add_12 ⟨Nat.le_of_ble_eq_true rfl, Nat.le_of_ble_eq_true rfl⟩ (fun r u H locs hu2 hP hD hS => ?_)
      refine k_t1 (show r = idx8 8 (nmQ TH NM x) from hu2) ?_
      refine lv_iconst (v := -1) hx hb dX0_add_15 (by decide) ?_
      refine lv_icmp_eq (tgt := 21) hx hb dX0_add_16 (by decide) (fun c2 => ?_) (fun c2 => ?_)
      · skip
        have h2 : ¬ nmQ TH NM x < 8 := fun q => nI_m1 (n := nmQ TH NM x) (by omega) (by rw [← idx8_y q]; exact c2)
        have hok : adOk TH NM x = true := by simp [adOk, h1, h2]
        have hP : va_P D vwCl (wBr cI cZ cJ bk nm ln pt tk NM (lenF TH SZ) PT TK) _ := hP
        have hD : va_D A (wBr cI cZ cJ bk nm ln pt tk NM (lenF TH SZ) PT TK) := hD
        refine lv_aload_n hx hb dX0_add_21 rfl (lv_at hl 1 rfl) ?_
        refine va_get (D := D) (ci := 0) (v := .ref nm) (C := RX0) (T := TX0) (N := 4) hx hb hts (by decide +kernel) hown hK hP 0 rfl rfl 0 (by decide) (hts (.fieldLink RX0 11 "VeiledFiles$Book" "names" "[J") (by decide +kernel)) (fun _ h9 => h9) rfl dX0_add_22 ?_
        refine lv_iload_n hx hb dX0_add_25 rfl (lv_at hl 0 rfl) ?_
        refine lv_lload_n hx hb dX0_add_26 rfl (lv_at hl 2 rfl) ?_
        refine k_last hx hb hK hP hD hS 1 2 rfl rfl (frQ TH 8) (by omega) (by omega) (g := (vp_updL NM (frQ TH 8) x)) (rfl) dX0_add_27 (fun H locs hP hD hS => ?_)
        have hP : va_P D vwCl (wBr cI cZ cJ bk nm ln pt tk (vp_updL NM (frQ TH 8) x) (lenF TH SZ) PT TK) _ := hP
        have hD : va_D A (wBr cI cZ cJ bk nm ln pt tk (vp_updL NM (frQ TH 8) x) (lenF TH SZ) PT TK) := hD
        refine lv_aload_n hx hb dX0_add_28 rfl (lv_at hl 1 rfl) ?_
        refine va_get (D := D) (ci := 0) (v := .ref ln) (C := RX0) (T := TX0) (N := 4) hx hb hts (by decide +kernel) hown hK hP 0 rfl rfl 1 (by decide) (hts (.fieldLink RX0 15 "VeiledFiles$Book" "lengths" "[I") (by decide +kernel)) (fun _ h9 => h9) rfl dX0_add_29 ?_
        refine lv_iload_n hx hb dX0_add_32 rfl (lv_at hl 0 rfl) ?_
        refine lv_iconst (v := nI 0) hx hb dX0_add_33 (by decide) ?_
        refine k_iast hx hb hK hP hD hS 2 0 rfl rfl (frQ TH 8) (by omega) (by omega) (g := (upd (lenF TH SZ) (frQ TH 8) (nI 0))) (rfl) dX0_add_34 (fun H locs hP hD hS => ?_)
        have hP : va_P D vwCl (wBr cI cZ cJ bk nm ln pt tk (vp_updL NM (frQ TH 8) x) (upd (lenF TH SZ) (frQ TH 8) (nI 0)) PT TK) _ := hP
        have hD : va_D A (wBr cI cZ cJ bk nm ln pt tk (vp_updL NM (frQ TH 8) x) (upd (lenF TH SZ) (frQ TH 8) (nI 0)) PT TK) := hD
        have hE3 : (wBr cI cZ cJ bk nm ln pt tk (vp_updL NM (frQ TH 8) x) (upd (lenF TH SZ) (frQ TH 8) (nI 0)) PT TK) = (wBr cI cZ cJ bk nm ln pt tk (vp_updL NM (frQ TH 8) x) (lenF (upd TH (frQ TH 8) 1) (upN SZ (frQ TH 8) 0)) PT TK) := by rw [lenF_add]
        rw [hE3] at hP hD
        have hP : va_P D vwCl (wB cI cZ cJ bk nm ln pt tk (vp_updL NM (frQ TH 8) x) (upd TH (frQ TH 8) 1) (upN SZ (frQ TH 8) 0) PT TK) _ := hP
        have hD : va_D A (wB cI cZ cJ bk nm ln pt tk (vp_updL NM (frQ TH 8) x) (upd TH (frQ TH 8) 1) (upN SZ (frQ TH 8) 0) PT TK) := hD
        have hret : nI (frQ TH 8) = adR TH NM x := (if_pos hok).symm
        have hE4 : (wB cI cZ cJ bk nm ln pt tk (vp_updL NM (frQ TH 8) x) (upd TH (frQ TH 8) 1) (upN SZ (frQ TH 8) 0) PT TK) = (wB cI cZ cJ bk nm ln pt tk (adNM TH NM x) (upd TH (frQ TH 8) 1) (upN SZ (frQ TH 8) 0) PT TK) := by rw [show adNM TH NM x = vp_updL NM (frQ TH 8) x from if_pos hok]
        rw [hE4] at hP hD
        have hE5 : (wB cI cZ cJ bk nm ln pt tk (adNM TH NM x) (upd TH (frQ TH 8) 1) (upN SZ (frQ TH 8) 0) PT TK) = (wB cI cZ cJ bk nm ln pt tk (adNM TH NM x) (upd TH (frQ TH 8) 1) (adSZ TH NM SZ x) PT TK) := by rw [show adSZ TH NM SZ x = upN SZ (frQ TH 8) 0 from if_pos hok]
        rw [hE5] at hP hD
        have hE6 : (wB cI cZ cJ bk nm ln pt tk (adNM TH NM x) (upd TH (frQ TH 8) 1) (adSZ TH NM SZ x) PT TK) = (wB cI cZ cJ bk nm ln pt tk (adNM TH NM x) (adTH TH NM x) (adSZ TH NM SZ x) PT TK) := by rw [show adTH TH NM x = upd TH (frQ TH 8) 1 from if_pos hok]
        rw [hE6] at hP hD
        refine lv_iload_n hx hb dX0_add_35 rfl (lv_at hl 0 rfl) ?_
        exact k_reti () hx hb hr hK hS hlk dX0_add_36 hP hD (by exact hret) hQ
      · skip
        have h2 : nmQ TH NM x < 8 := Classical.byContradiction fun q => c2 (idx8_n q)
        have hok : ¬ adOk TH NM x = true := by simp [adOk, h2]
        have hret : (-1 : Int32) = adR TH NM x := (if_neg hok).symm
        have hE7 : (wB cI cZ cJ bk nm ln pt tk NM TH SZ PT TK) = (wB cI cZ cJ bk nm ln pt tk (adNM TH NM x) TH SZ PT TK) := by rw [show adNM TH NM x = NM from if_neg hok]
        rw [hE7] at hP hD
        have hE8 : (wB cI cZ cJ bk nm ln pt tk (adNM TH NM x) TH SZ PT TK) = (wB cI cZ cJ bk nm ln pt tk (adNM TH NM x) TH (adSZ TH NM SZ x) PT TK) := by rw [show adSZ TH NM SZ x = SZ from if_neg hok]
        rw [hE8] at hP hD
        have hE9 : (wB cI cZ cJ bk nm ln pt tk (adNM TH NM x) TH (adSZ TH NM SZ x) PT TK) = (wB cI cZ cJ bk nm ln pt tk (adNM TH NM x) (adTH TH NM x) (adSZ TH NM SZ x) PT TK) := by rw [show adTH TH NM x = TH from if_neg hok]
        rw [hE9] at hP hD
        refine lv_iconst (v := -1) hx hb dX0_add_19 (by decide) ?_
        exact k_reti () hx hb hr hK hS hlk dX0_add_20 hP hD (by exact hret) hQ
  · skip
    refine k_t1 (show idx8 8 (frQ TH 8) = (-1) from idx8_n h1) ?_
    refine lv_istore_n (lv' := [(3, .int (-1)), (0, .ref bk), (1, .long x)]) hx hb dX0_add_4 rfl hl (by decide) rfl (fun ls hl => ?_)
    refine lv_iload_n hx hb dX0_add_5 rfl (lv_at hl 0 rfl) ?_
    refine lv_iconst (v := -1) hx hb dX0_add_6 (by decide) ?_
    refine lv_icmp_eq (tgt := 19) hx hb dX0_add_7 (by decide) (fun c1 => ?_) (fun c1 => ?_)
    · skip
      have hok : ¬ adOk TH NM x = true := by simp [adOk, h1]
      have hret : (-1 : Int32) = adR TH NM x := (if_neg hok).symm
      have hE10 : (wB cI cZ cJ bk nm ln pt tk NM TH SZ PT TK) = (wB cI cZ cJ bk nm ln pt tk (adNM TH NM x) TH SZ PT TK) := by rw [show adNM TH NM x = NM from if_neg hok]
      rw [hE10] at hP hD
      have hE11 : (wB cI cZ cJ bk nm ln pt tk (adNM TH NM x) TH SZ PT TK) = (wB cI cZ cJ bk nm ln pt tk (adNM TH NM x) TH (adSZ TH NM SZ x) PT TK) := by rw [show adSZ TH NM SZ x = SZ from if_neg hok]
      rw [hE11] at hP hD
      have hE12 : (wB cI cZ cJ bk nm ln pt tk (adNM TH NM x) TH (adSZ TH NM SZ x) PT TK) = (wB cI cZ cJ bk nm ln pt tk (adNM TH NM x) (adTH TH NM x) (adSZ TH NM SZ x) PT TK) := by rw [show adTH TH NM x = TH from if_neg hok]
      rw [hE12] at hP hD
      refine lv_iconst (v := -1) hx hb dX0_add_19 (by decide) ?_
      exact k_reti () hx hb hr hK hS hlk dX0_add_20 hP hD (by exact hret) hQ
    · skip
      exact absurd rfl c1

set_option maxHeartbeats 800000 in
set_option maxRecDepth 100000 in
theorem c_drop_n (l : Launch) (D : va_G) (cI cZ cJ : ClassId) (bk : Nat) (nm : Nat) (ln : Nat) (pt : Nat) (tk : Nat) (NM : Nat → Int64) (TH : Nat → Int32) (SZ : Nat → Nat) (PT : Nat → Nat) (TK : Nat → Int32) (x : Int32) (hf : notF TH x) : KI l yX0_drop wsX0_drop ({ frames := 1, cells := 0, slots := 0, locals := 21 }) D (kty cI cZ cJ) [.ref bk, .int x] (wB cI cZ cJ bk nm ln pt tk NM TH SZ PT TK) (fun r (_ : Unit) => r = 0) (fun _ : Unit => (wB cI cZ cJ bk nm ln pt tk NM TH SZ PT TK)) 0 0 := by
  refine k_headI (cc := cX0_drop) (maxL := 3) (ret := (some .boolean)) (by decide) rfl (Nat.le_of_ble_eq_true rfl) ?_
  intro p e s m below meth c A ls args Q hx hb hr hml hts hown hlk hnm hA hK hP hD hS hl hQ
  have hl : lv_has ls 3 [(0, .ref bk), (1, .int x)] := hl
  refine lv_aload_n hx hb dX0_drop_0 rfl (lv_at hl 0 rfl) ?_
  refine lv_iload_n hx hb dX0_drop_1 rfl (lv_at hl 1 rfl) ?_
  refine k_vi (As := [.int x]) (rest := []) (w2 := fun u : Unit => (wB cI cZ cJ bk nm ln pt tk NM TH SZ PT TK)) ⟨hx, hb, hml, hown, hts⟩ (c_lengthOf_n l D cI cZ cJ bk nm ln pt tk NM TH SZ PT TK x hf) (cwV 1 hts gX0_drop_X0_lengthOf rfl rfl rfl (by decide +kernel) ⟨Nat.le_of_ble_eq_true rfl, Nat.le_of_ble_eq_true rfl⟩) hP hD hK hS hA [0, 1, 2, 3, 4] [] [0, 1, 2, 3, 4] rfl rfl (by decide) (fun u => rfl) rfl rfl (q0 := 0) rfl rfl hl.1 rfl (Nat.le_of_ble_eq_true rfl) dX0_drop_2 ⟨Nat.le_of_ble_eq_true rfl, Nat.le_of_ble_eq_true rfl⟩ (fun r u H locs hu1 hP hD hS => ?_)
  refine k_t1 (show r = -1 from hu1) ?_
  refine lv_iconst (v := -1) hx hb dX0_drop_5 (by decide) ?_
  refine lv_icmp_ne (tgt := 11) hx hb dX0_drop_6 (by decide) (fun c1 => ?_) (fun c1 => ?_)
  · skip
    exact absurd rfl c1
  · skip
    refine lv_iconst (v := nI 0) hx hb dX0_drop_9 (by decide) ?_
    exact k_retz () hx hb hr hK hS hlk dX0_drop_10 ((by first | exact Or.inl rfl | exact Or.inr rfl)) hP hD (rfl) hQ

set_option maxHeartbeats 800000 in
set_option maxRecDepth 100000 in
theorem c_drop_y (l : Launch) (D : va_G) (cI cZ cJ : ClassId) (bk : Nat) (nm : Nat) (ln : Nat) (pt : Nat) (tk : Nat) (NM : Nat → Int64) (TH : Nat → Int32) (SZ : Nat → Nat) (PT : Nat → Nat) (TK : Nat → Int32) (f : Nat) (hf : f < 8) (ht : ¬ TH f = 0) (hs : SZ f ≤ 24) (hPT : ∀ k, PT k < 64) : KI l yX0_drop wsX0_drop ({ frames := 1, cells := 0, slots := 0, locals := 21 }) D (kty cI cZ cJ) [.ref bk, .int (nI f)] (wB cI cZ cJ bk nm ln pt tk NM TH SZ PT TK) (fun r (_ : Unit) => r = 1) (fun _ : Unit => (wB cI cZ cJ bk nm ln pt tk NM (upd TH f 0) SZ PT (drK PT f TK ((SZ f + 3) / 4)))) 0 0 := by
  refine k_headI (cc := cX0_drop) (maxL := 3) (ret := (some .boolean)) (by decide) rfl (Nat.le_of_ble_eq_true rfl) ?_
  intro p e s m below meth c A ls args Q hx hb hr hml hts hown hlk hnm hA hK hP hD hS hl hQ
  have hl : lv_has ls 3 [(0, .ref bk), (1, .int (nI f))] := hl
  refine lv_aload_n hx hb dX0_drop_0 rfl (lv_at hl 0 rfl) ?_
  refine lv_iload_n hx hb dX0_drop_1 rfl (lv_at hl 1 rfl) ?_
  refine k_vi (As := [.int (nI f)]) (rest := []) (w2 := fun u : Unit => (wB cI cZ cJ bk nm ln pt tk NM TH SZ PT TK)) ⟨hx, hb, hml, hown, hts⟩ (c_lengthOf_y l D cI cZ cJ bk nm ln pt tk NM TH SZ PT TK f hf ht) (cwV 1 hts gX0_drop_X0_lengthOf rfl rfl rfl (by decide +kernel) ⟨Nat.le_of_ble_eq_true rfl, Nat.le_of_ble_eq_true rfl⟩) hP hD hK hS hA [0, 1, 2, 3, 4] [] [0, 1, 2, 3, 4] rfl rfl (by decide) (fun u => rfl) rfl rfl (q0 := 0) rfl rfl hl.1 rfl (Nat.le_of_ble_eq_true rfl) dX0_drop_2 ⟨Nat.le_of_ble_eq_true rfl, Nat.le_of_ble_eq_true rfl⟩ (fun r u H locs hu1 hP hD hS => ?_)
  refine k_t1 (show r = nI (SZ f) from hu1) ?_
  refine lv_iconst (v := -1) hx hb dX0_drop_5 (by decide) ?_
  refine lv_icmp_ne (tgt := 11) hx hb dX0_drop_6 (by decide) (fun c1 => ?_) (fun c1 => ?_)
  · skip
    refine lv_iconst (v := nI 0) hx hb dX0_drop_11 (by decide) ?_
    refine lv_istore_n (lv' := [(2, .int (nI 0)), (0, .ref bk), (1, .int (nI f))]) hx hb dX0_drop_12 rfl hl (by decide) rfl (fun ls hl => ?_)
    have L1 : ∀ (nf pp : Nat) (hvL1 : pp ≤ (SZ f + 3) / 4) (hFL1 : (SZ f + 3) / 4 - pp < nf) (H : Heap) (locs : List Loc) (ls : Array Slot), va_P D vwCl (wB cI cZ cJ bk nm ln pt tk NM TH SZ PT (drK PT f TK pp)) H → va_D A (wB cI cZ cJ bk nm ln pt tk NM TH SZ PT (drK PT f TK pp)) → va_S A s.heap H locs → lv_has ls 3 [(0, .ref bk), (1, .int (nI f)), (2, .int (nI (4 * pp)))] → W p l e ({ frames := 1, cells := 0, slots := 0, locals := 21 } : Room) s m args below meth c H locs 0 0 Q (F0 m 13 ls []) := by
      intro nf
      induction nf with
      | zero => intro pp  hvL1 hFL1; omega
      | succ nf ihL1 =>
        intro pp  hvL1 hFL1  H locs ls hP hD hS hl
        refine lv_iload_n hx hb dX0_drop_13 rfl (lv_at hl 2 rfl) ?_
        refine lv_aload_n hx hb dX0_drop_14 rfl (lv_at hl 0 rfl) ?_
        refine va_get (D := D) (ci := 0) (v := .ref ln) (C := RX0) (T := TX0) (N := 4) hx hb hts (by decide +kernel) hown hK hP 0 rfl rfl 1 (by decide) (hts (.fieldLink RX0 15 "VeiledFiles$Book" "lengths" "[I") (by decide +kernel)) (fun _ h9 => h9) rfl dX0_drop_15 ?_
        refine lv_iload_n hx hb dX0_drop_18 rfl (lv_at hl 1 rfl) ?_
        refine k_iald hx hb hK hP 2 0 rfl rfl f (by omega) (by omega) (v := nI (SZ f)) (lenF_y ht) dX0_drop_19 ?_
        refine k_icmp_ge (tgt := 45) hx hb (by omega) (by omega) dX0_drop_20 (by decide) (fun c2 => ?_) (fun c2 => ?_)
        · skip
          have hpe : pp = (SZ f + 3) / 4 := by omega
          rw [hpe] at hP hD
          have hP : va_P D vwCl (wBr cI cZ cJ bk nm ln pt tk NM (lenF TH SZ) PT (drK PT f TK ((SZ f + 3) / 4))) _ := hP
          have hD : va_D A (wBr cI cZ cJ bk nm ln pt tk NM (lenF TH SZ) PT (drK PT f TK ((SZ f + 3) / 4))) := hD
          refine lv_aload_n hx hb dX0_drop_45 rfl (lv_at hl 0 rfl) ?_
          refine va_get (D := D) (ci := 0) (v := .ref ln) (C := RX0) (T := TX0) (N := 4) hx hb hts (by decide +kernel) hown hK hP 0 rfl rfl 1 (by decide) (hts (.fieldLink RX0 15 "VeiledFiles$Book" "lengths" "[I") (by decide +kernel)) (fun _ h9 => h9) rfl dX0_drop_46 ?_
          refine lv_iload_n hx hb dX0_drop_49 rfl (lv_at hl 1 rfl) ?_
          refine lv_iconst (v := -1) hx hb dX0_drop_50 (by decide) ?_
          refine k_iast hx hb hK hP hD hS 2 0 rfl rfl f (by omega) (by omega) (g := (upd (lenF TH SZ) f (-1))) (rfl) dX0_drop_51 (fun H locs hP hD hS => ?_)
          have hP : va_P D vwCl (wBr cI cZ cJ bk nm ln pt tk NM (upd (lenF TH SZ) f (-1)) PT (drK PT f TK ((SZ f + 3) / 4))) _ := hP
          have hD : va_D A (wBr cI cZ cJ bk nm ln pt tk NM (upd (lenF TH SZ) f (-1)) PT (drK PT f TK ((SZ f + 3) / 4))) := hD
          have hE2 : (wBr cI cZ cJ bk nm ln pt tk NM (upd (lenF TH SZ) f (-1)) PT (drK PT f TK ((SZ f + 3) / 4))) = (wBr cI cZ cJ bk nm ln pt tk NM (lenF (upd TH f 0) SZ) PT (drK PT f TK ((SZ f + 3) / 4))) := by rw [lenF_drop]
          rw [hE2] at hP hD
          have hP : va_P D vwCl (wB cI cZ cJ bk nm ln pt tk NM (upd TH f 0) SZ PT (drK PT f TK ((SZ f + 3) / 4))) _ := hP
          have hD : va_D A (wB cI cZ cJ bk nm ln pt tk NM (upd TH f 0) SZ PT (drK PT f TK ((SZ f + 3) / 4))) := hD
          refine lv_iconst (v := nI 1) hx hb dX0_drop_52 (by decide) ?_
          exact k_retz () hx hb hr hK hS hlk dX0_drop_53 ((by first | exact Or.inl rfl | exact Or.inr rfl)) hP hD (rfl) hQ
        · skip
          refine lv_aload_n hx hb dX0_drop_23 rfl (lv_at hl 0 rfl) ?_
          refine va_get (D := D) (ci := 0) (v := .ref tk) (C := RX0) (T := TX0) (N := 4) hx hb hts (by decide +kernel) hown hK hP 0 rfl rfl 3 (by decide) (hts (.fieldLink RX0 22 "VeiledFiles$Book" "taken" "[Z") (by decide +kernel)) (fun _ h9 => h9) rfl dX0_drop_24 ?_
          refine lv_aload_n hx hb dX0_drop_27 rfl (lv_at hl 0 rfl) ?_
          refine va_get (D := D) (ci := 0) (v := .ref pt) (C := RX0) (T := TX0) (N := 4) hx hb hts (by decide +kernel) hown hK hP 0 rfl rfl 2 (by decide) (hts (.fieldLink RX0 19 "VeiledFiles$Book" "partBlocks" "[I") (by decide +kernel)) (fun _ h9 => h9) rfl dX0_drop_28 ?_
          refine lv_iload_n hx hb dX0_drop_31 rfl (lv_at hl 1 rfl) ?_
          refine lv_iload_n hx hb dX0_drop_32 rfl (lv_at hl 2 rfl) ?_
          refine k_si (As := [.int (nI f), .int (nI (4 * pp))]) (rest := [.ref pt, .ref tk]) (w2 := fun u : Unit => (wB cI cZ cJ bk nm ln pt tk NM TH SZ PT (drK PT f TK pp))) ⟨hx, hb, hml, hown, hts⟩ (c_partAt l D cI cZ cJ  f (4 * pp) (by omega)) (va_cwS 2 hts gX0_drop_X0_partAt rfl rfl rfl (by decide +kernel) ⟨Nat.le_of_ble_eq_true rfl, Nat.le_of_ble_eq_true rfl⟩) hP hD hK hS hA [] [0, 1, 2, 3, 4] [0, 1, 2, 3, 4] rfl rfl (by decide) (fun u => rfl) rfl hl.1 rfl (Nat.le_of_ble_eq_true rfl) dX0_drop_33 ⟨Nat.le_of_ble_eq_true rfl, Nat.le_of_ble_eq_true rfl⟩ (fun r u H locs hu3 hP hD hS => ?_)
          refine k_t1 (show r = nI (6 * f + 4 * pp / 4) from hu3) ?_
          refine k_t1 (show nI (6 * f + 4 * pp / 4) = nI (6 * f + pp) from congrArg nI (by omega)) ?_
          have hpt := hPT (6 * f + pp)
          refine k_iald hx hb hK hP 3 0 rfl rfl (6 * f + pp) (by omega) (by omega) (v := nI (PT (6 * f + pp))) (rfl) dX0_drop_36 ?_
          refine lv_iconst (v := nI 0) hx hb dX0_drop_37 (by decide) ?_
          refine k_zast hx hb hK hP hD hS 4 1 rfl rfl (PT (6 * f + pp)) (by omega) (by omega) (g := (drK PT f TK (pp + 1))) (drK_s) (by first | rfl | decide) dX0_drop_38 (fun H locs hP hD hS => ?_)
          have hP : va_P D vwCl (wB cI cZ cJ bk nm ln pt tk NM TH SZ PT (drK PT f TK (pp + 1))) _ := hP
          have hD : va_D A (wB cI cZ cJ bk nm ln pt tk NM TH SZ PT (drK PT f TK (pp + 1))) := hD
          refine lv_iinc (v := nI (4 * pp + 4)) (lv' := [(2, .int (nI (4 * pp + 4))), (0, .ref bk), (1, .int (nI f))]) hx hb dX0_drop_39 hl (k := 2) rfl (nI_add (4 * pp) 4) (by decide) rfl (fun ls hl => ?_)
          rw [show 4 * pp + 4 = 4 * (pp + 1) by omega] at hl
          refine lv_goto (tgt := 13) hx hb dX0_drop_42 (by decide) ?_
          exact ihL1 (pp + 1)  (by omega) (by omega)  _ _ _ hP hD hS (lv_sub hl [1, 2, 0] rfl)
    exact L1 ((SZ f + 3) / 4 + 1) 0  (by omega) (by omega)  _ _ _ hP hD hS (lv_sub hl [1, 2, 0] rfl)
  · skip
    exact absurd c1 (nI_m1 (by omega))

set_option maxHeartbeats 800000 in
set_option maxRecDepth 100000 in
theorem c_btr_y (l : Launch) (D : va_G) (cI cZ cJ : ClassId) (bk : Nat) (nm : Nat) (ln : Nat) (pt : Nat) (tk : Nat) (NM : Nat → Int64) (TH : Nat → Int32) (SZ : Nat → Nat) (PT : Nat → Nat) (TK : Nat → Int32) (f i : Nat) (hf : f < 8) (ht : ¬ TH f = 0) (hi : i < SZ f) (hs : SZ f ≤ 24) : KI l yX0_blockToRead wsX0_blockToRead ({ frames := 1, cells := 0, slots := 0, locals := 21 }) D (kty cI cZ cJ) [.ref bk, .int (nI f), .int (nI i)] (wB cI cZ cJ bk nm ln pt tk NM TH SZ PT TK) (fun r (_ : Unit) => r = nI (PT (6 * f + i / 4))) (fun _ : Unit => (wB cI cZ cJ bk nm ln pt tk NM TH SZ PT TK)) 0 0 := by
  refine k_headI (cc := cX0_blockToRead) (maxL := 3) (ret := (some .int)) (by decide) rfl (Nat.le_of_ble_eq_true rfl) ?_
  intro p e s m below meth c A ls args Q hx hb hr hml hts hown hlk hnm hA hK hP hD hS hl hQ
  have hl : lv_has ls 3 [(0, .ref bk), (1, .int (nI f)), (2, .int (nI i))] := hl
  refine lv_iload_n hx hb dX0_blockToRead_0 rfl (lv_at hl 2 rfl) ?_
  refine lv_if_lt (tgt := 13) hx hb dX0_blockToRead_1 (by decide) (fun c1 => ?_) (fun c1 => ?_)
  · skip
    exact absurd c1 (nI_pos (by omega))
  · skip
    refine lv_iload_n hx hb dX0_blockToRead_4 rfl (lv_at hl 2 rfl) ?_
    refine lv_aload_n hx hb dX0_blockToRead_5 rfl (lv_at hl 0 rfl) ?_
    refine lv_iload_n hx hb dX0_blockToRead_6 rfl (lv_at hl 1 rfl) ?_
    refine k_vi (As := [.int (nI f)]) (rest := [.int (nI i)]) (w2 := fun u : Unit => (wB cI cZ cJ bk nm ln pt tk NM TH SZ PT TK)) ⟨hx, hb, hml, hown, hts⟩ (c_lengthOf_y l D cI cZ cJ bk nm ln pt tk NM TH SZ PT TK f hf ht) (cwV 1 hts gX0_blockToRead_X0_lengthOf rfl rfl rfl (by decide +kernel) ⟨Nat.le_of_ble_eq_true rfl, Nat.le_of_ble_eq_true rfl⟩) hP hD hK hS hA [0, 1, 2, 3, 4] [] [0, 1, 2, 3, 4] rfl rfl (by decide) (fun u => rfl) rfl rfl (q0 := 0) rfl rfl hl.1 rfl (Nat.le_of_ble_eq_true rfl) dX0_blockToRead_7 ⟨Nat.le_of_ble_eq_true rfl, Nat.le_of_ble_eq_true rfl⟩ (fun r u H locs hu1 hP hD hS => ?_)
    refine k_t1 (show r = nI (SZ f) from hu1) ?_
    refine k_icmp_lt (tgt := 17) hx hb (by omega) (by omega) dX0_blockToRead_10 (by decide) (fun c2 => ?_) (fun c2 => ?_)
    · skip
      refine lv_aload_n hx hb dX0_blockToRead_17 rfl (lv_at hl 0 rfl) ?_
      refine va_get (D := D) (ci := 0) (v := .ref pt) (C := RX0) (T := TX0) (N := 4) hx hb hts (by decide +kernel) hown hK hP 0 rfl rfl 2 (by decide) (hts (.fieldLink RX0 19 "VeiledFiles$Book" "partBlocks" "[I") (by decide +kernel)) (fun _ h9 => h9) rfl dX0_blockToRead_18 ?_
      refine lv_iload_n hx hb dX0_blockToRead_21 rfl (lv_at hl 1 rfl) ?_
      refine lv_iload_n hx hb dX0_blockToRead_22 rfl (lv_at hl 2 rfl) ?_
      refine k_si (As := [.int (nI f), .int (nI i)]) (rest := [.ref pt]) (w2 := fun u : Unit => (wB cI cZ cJ bk nm ln pt tk NM TH SZ PT TK)) ⟨hx, hb, hml, hown, hts⟩ (c_partAt l D cI cZ cJ  f i (by omega)) (va_cwS 2 hts gX0_blockToRead_X0_partAt rfl rfl rfl (by decide +kernel) ⟨Nat.le_of_ble_eq_true rfl, Nat.le_of_ble_eq_true rfl⟩) hP hD hK hS hA [] [0, 1, 2, 3, 4] [0, 1, 2, 3, 4] rfl rfl (by decide) (fun u => rfl) rfl hl.1 rfl (Nat.le_of_ble_eq_true rfl) dX0_blockToRead_23 ⟨Nat.le_of_ble_eq_true rfl, Nat.le_of_ble_eq_true rfl⟩ (fun r u H locs hu2 hP hD hS => ?_)
      refine k_t1 (show r = nI (6 * f + i / 4) from hu2) ?_
      refine k_iald hx hb hK hP 3 0 rfl rfl (6 * f + i / 4) (by omega) (by omega) (v := (nIf PT) (6 * f + i / 4)) (rfl) dX0_blockToRead_26 ?_
      exact k_reti () hx hb hr hK hS hlk dX0_blockToRead_27 hP hD (rfl) hQ
    · skip
      omega

set_option maxHeartbeats 800000 in
set_option maxRecDepth 100000 in
theorem c_btr_n (l : Launch) (D : va_G) (cI cZ cJ : ClassId) (bk : Nat) (nm : Nat) (ln : Nat) (pt : Nat) (tk : Nat) (NM : Nat → Int64) (TH : Nat → Int32) (SZ : Nat → Nat) (PT : Nat → Nat) (TK : Nat → Int32) (x i : Int32) (hbad : badR TH SZ x i) (hSZ : ∀ f, f < 8 → SZ f ≤ 24) : KI l yX0_blockToRead wsX0_blockToRead ({ frames := 1, cells := 0, slots := 0, locals := 21 }) D (kty cI cZ cJ) [.ref bk, .int x, .int i] (wB cI cZ cJ bk nm ln pt tk NM TH SZ PT TK) (fun r (_ : Unit) => r = -1) (fun _ : Unit => (wB cI cZ cJ bk nm ln pt tk NM TH SZ PT TK)) 0 0 := by
  refine k_headI (cc := cX0_blockToRead) (maxL := 3) (ret := (some .int)) (by decide) rfl (Nat.le_of_ble_eq_true rfl) ?_
  intro p e s m below meth c A ls args Q hx hb hr hml hts hown hlk hnm hA hK hP hD hS hl hQ
  have hl : lv_has ls 3 [(0, .ref bk), (1, .int x), (2, .int i)] := hl
  refine lv_iload_n hx hb dX0_blockToRead_0 rfl (lv_at hl 2 rfl) ?_
  refine lv_if_lt (tgt := 13) hx hb dX0_blockToRead_1 (by decide) (fun c1 => ?_) (fun c1 => ?_)
  · skip
    refine lv_iconst (v := -1) hx hb dX0_blockToRead_13 (by decide) ?_
    refine lv_goto (tgt := 27) hx hb dX0_blockToRead_14 (by decide) ?_
    exact k_reti () hx hb hr hK hS hlk dX0_blockToRead_27 hP hD (rfl) hQ
  · skip
    refine lv_iload_n hx hb dX0_blockToRead_4 rfl (lv_at hl 2 rfl) ?_
    refine lv_aload_n hx hb dX0_blockToRead_5 rfl (lv_at hl 0 rfl) ?_
    refine lv_iload_n hx hb dX0_blockToRead_6 rfl (lv_at hl 1 rfl) ?_
    rcases hbad with hbad | hf | ⟨f, hf, rfl, ht, hi⟩
    · skip
      exact absurd hbad c1
    · skip
      refine k_vi (As := [.int x]) (rest := [.int i]) (w2 := fun u : Unit => (wB cI cZ cJ bk nm ln pt tk NM TH SZ PT TK)) ⟨hx, hb, hml, hown, hts⟩ (c_lengthOf_n l D cI cZ cJ bk nm ln pt tk NM TH SZ PT TK x hf) (cwV 1 hts gX0_blockToRead_X0_lengthOf rfl rfl rfl (by decide +kernel) ⟨Nat.le_of_ble_eq_true rfl, Nat.le_of_ble_eq_true rfl⟩) hP hD hK hS hA [0, 1, 2, 3, 4] [] [0, 1, 2, 3, 4] rfl rfl (by decide) (fun u => rfl) rfl rfl (q0 := 0) rfl rfl hl.1 rfl (Nat.le_of_ble_eq_true rfl) dX0_blockToRead_7 ⟨Nat.le_of_ble_eq_true rfl, Nat.le_of_ble_eq_true rfl⟩ (fun r u H locs hu1 hP hD hS => ?_)
      refine k_t1 (show r = -1 from hu1) ?_
      refine lv_icmp_lt (tgt := 17) hx hb dX0_blockToRead_10 (by decide) (fun c2 => ?_) (fun c2 => ?_)
      · skip
        exact absurd (Int32.lt_trans c2 (by decide)) c1
      · skip
        refine lv_iconst (v := -1) hx hb dX0_blockToRead_13 (by decide) ?_
        refine lv_goto (tgt := 27) hx hb dX0_blockToRead_14 (by decide) ?_
        exact k_reti () hx hb hr hK hS hlk dX0_blockToRead_27 hP hD (rfl) hQ
    · skip
      refine k_vi (As := [.int (nI f)]) (rest := [.int i]) (w2 := fun u : Unit => (wB cI cZ cJ bk nm ln pt tk NM TH SZ PT TK)) ⟨hx, hb, hml, hown, hts⟩ (c_lengthOf_y l D cI cZ cJ bk nm ln pt tk NM TH SZ PT TK f hf ht) (cwV 1 hts gX0_blockToRead_X0_lengthOf rfl rfl rfl (by decide +kernel) ⟨Nat.le_of_ble_eq_true rfl, Nat.le_of_ble_eq_true rfl⟩) hP hD hK hS hA [0, 1, 2, 3, 4] [] [0, 1, 2, 3, 4] rfl rfl (by decide) (fun u => rfl) rfl rfl (q0 := 0) rfl rfl hl.1 rfl (Nat.le_of_ble_eq_true rfl) dX0_blockToRead_7 ⟨Nat.le_of_ble_eq_true rfl, Nat.le_of_ble_eq_true rfl⟩ (fun r u H locs hu2 hP hD hS => ?_)
      refine k_t1 (show r = nI (SZ f) from hu2) ?_
      refine lv_icmp_lt (tgt := 17) hx hb dX0_blockToRead_10 (by decide) (fun c2 => ?_) (fun c2 => ?_)
      · skip
        exact absurd c2 (Int32.not_lt.mpr hi)
      · skip
        refine lv_iconst (v := -1) hx hb dX0_blockToRead_13 (by decide) ?_
        refine lv_goto (tgt := 27) hx hb dX0_blockToRead_14 (by decide) ?_
        exact k_reti () hx hb hr hK hS hlk dX0_blockToRead_27 hP hD (rfl) hQ

set_option maxHeartbeats 800000 in
set_option maxRecDepth 100000 in
theorem c_opens_y (l : Launch) (D : va_G) (cI cZ cJ : ClassId) (bk : Nat) (nm : Nat) (ln : Nat) (pt : Nat) (tk : Nat) (NM : Nat → Int64) (TH : Nat → Int32) (SZ : Nat → Nat) (PT : Nat → Nat) (TK : Nat → Int32) (f i : Nat) (hf : f < 8) (ht : ¬ TH f = 0) (hi : i = SZ f) (hm : i % 4 = 0) (hs : SZ f ≤ 24) : KI l yX0_opensPart wsX0_opensPart ({ frames := 1, cells := 0, slots := 0, locals := 21 }) D (kty cI cZ cJ) [.ref bk, .int (nI f), .int (nI i)] (wB cI cZ cJ bk nm ln pt tk NM TH SZ PT TK) (fun r (_ : Unit) => r = 1) (fun _ : Unit => (wB cI cZ cJ bk nm ln pt tk NM TH SZ PT TK)) 0 0 := by
  refine k_headI (cc := cX0_opensPart) (maxL := 3) (ret := (some .boolean)) (by decide) rfl (Nat.le_of_ble_eq_true rfl) ?_
  intro p e s m below meth c A ls args Q hx hb hr hml hts hown hlk hnm hA hK hP hD hS hl hQ
  have hl : lv_has ls 3 [(0, .ref bk), (1, .int (nI f)), (2, .int (nI i))] := hl
  refine lv_iload_n hx hb dX0_opensPart_0 rfl (lv_at hl 2 rfl) ?_
  refine lv_aload_n hx hb dX0_opensPart_1 rfl (lv_at hl 0 rfl) ?_
  refine lv_iload_n hx hb dX0_opensPart_2 rfl (lv_at hl 1 rfl) ?_
  refine k_vi (As := [.int (nI f)]) (rest := [.int (nI i)]) (w2 := fun u : Unit => (wB cI cZ cJ bk nm ln pt tk NM TH SZ PT TK)) ⟨hx, hb, hml, hown, hts⟩ (c_lengthOf_y l D cI cZ cJ bk nm ln pt tk NM TH SZ PT TK f hf ht) (cwV 1 hts gX0_opensPart_X0_lengthOf rfl rfl rfl (by decide +kernel) ⟨Nat.le_of_ble_eq_true rfl, Nat.le_of_ble_eq_true rfl⟩) hP hD hK hS hA [0, 1, 2, 3, 4] [] [0, 1, 2, 3, 4] rfl rfl (by decide) (fun u => rfl) rfl rfl (q0 := 0) rfl rfl hl.1 rfl (Nat.le_of_ble_eq_true rfl) dX0_opensPart_3 ⟨Nat.le_of_ble_eq_true rfl, Nat.le_of_ble_eq_true rfl⟩ (fun r u H locs hu1 hP hD hS => ?_)
  refine k_t1 (show r = nI (SZ f) from hu1) ?_
  refine k_icmp_ne (tgt := 19) hx hb (by omega) (by omega) dX0_opensPart_6 (by decide) (fun c1 => ?_) (fun c1 => ?_)
  · skip
    omega
  · skip
    refine lv_iload_n hx hb dX0_opensPart_9 rfl (lv_at hl 2 rfl) ?_
    refine lv_iconst (v := nI 4) hx hb dX0_opensPart_10 (by decide) ?_
    refine lv_irem hx hb dX0_opensPart_11 (by decide) ?_
    refine k_t1 (show (nI i) - (nI i) / (nI 4) * (nI 4) = nI (i % 4) from pk_rem (by omega) (by omega) (by omega)) ?_
    refine lv_if_ne (tgt := 19) hx hb dX0_opensPart_12 (by decide) (fun c2 => ?_) (fun c2 => ?_)
    · skip
      exact absurd (show nI (i % 4) = 0 by rw [hm]; rfl) c2
    · skip
      refine lv_iconst (v := nI 1) hx hb dX0_opensPart_15 (by decide) ?_
      refine lv_goto (tgt := 20) hx hb dX0_opensPart_16 (by decide) ?_
      exact k_retz () hx hb hr hK hS hlk dX0_opensPart_20 ((by first | exact Or.inl rfl | exact Or.inr rfl)) hP hD (rfl) hQ

set_option maxHeartbeats 800000 in
set_option maxRecDepth 100000 in
theorem c_opens_n (l : Launch) (D : va_G) (cI cZ cJ : ClassId) (bk : Nat) (nm : Nat) (ln : Nat) (pt : Nat) (tk : Nat) (NM : Nat → Int64) (TH : Nat → Int32) (SZ : Nat → Nat) (PT : Nat → Nat) (TK : Nat → Int32) (f i : Nat) (hf : f < 8) (ht : ¬ TH f = 0) (hi : ¬ (i = SZ f ∧ i % 4 = 0)) (hs : SZ f ≤ 24) (hi2 : i ≤ 24) : KI l yX0_opensPart wsX0_opensPart ({ frames := 1, cells := 0, slots := 0, locals := 21 }) D (kty cI cZ cJ) [.ref bk, .int (nI f), .int (nI i)] (wB cI cZ cJ bk nm ln pt tk NM TH SZ PT TK) (fun r (_ : Unit) => r = 0) (fun _ : Unit => (wB cI cZ cJ bk nm ln pt tk NM TH SZ PT TK)) 0 0 := by
  refine k_headI (cc := cX0_opensPart) (maxL := 3) (ret := (some .boolean)) (by decide) rfl (Nat.le_of_ble_eq_true rfl) ?_
  intro p e s m below meth c A ls args Q hx hb hr hml hts hown hlk hnm hA hK hP hD hS hl hQ
  have hl : lv_has ls 3 [(0, .ref bk), (1, .int (nI f)), (2, .int (nI i))] := hl
  refine lv_iload_n hx hb dX0_opensPart_0 rfl (lv_at hl 2 rfl) ?_
  refine lv_aload_n hx hb dX0_opensPart_1 rfl (lv_at hl 0 rfl) ?_
  refine lv_iload_n hx hb dX0_opensPart_2 rfl (lv_at hl 1 rfl) ?_
  refine k_vi (As := [.int (nI f)]) (rest := [.int (nI i)]) (w2 := fun u : Unit => (wB cI cZ cJ bk nm ln pt tk NM TH SZ PT TK)) ⟨hx, hb, hml, hown, hts⟩ (c_lengthOf_y l D cI cZ cJ bk nm ln pt tk NM TH SZ PT TK f hf ht) (cwV 1 hts gX0_opensPart_X0_lengthOf rfl rfl rfl (by decide +kernel) ⟨Nat.le_of_ble_eq_true rfl, Nat.le_of_ble_eq_true rfl⟩) hP hD hK hS hA [0, 1, 2, 3, 4] [] [0, 1, 2, 3, 4] rfl rfl (by decide) (fun u => rfl) rfl rfl (q0 := 0) rfl rfl hl.1 rfl (Nat.le_of_ble_eq_true rfl) dX0_opensPart_3 ⟨Nat.le_of_ble_eq_true rfl, Nat.le_of_ble_eq_true rfl⟩ (fun r u H locs hu1 hP hD hS => ?_)
  refine k_t1 (show r = nI (SZ f) from hu1) ?_
  refine k_icmp_ne (tgt := 19) hx hb (by omega) (by omega) dX0_opensPart_6 (by decide) (fun c1 => ?_) (fun c1 => ?_)
  · skip
    refine lv_iconst (v := nI 0) hx hb dX0_opensPart_19 (by decide) ?_
    exact k_retz () hx hb hr hK hS hlk dX0_opensPart_20 ((by first | exact Or.inl rfl | exact Or.inr rfl)) hP hD (rfl) hQ
  · skip
    refine lv_iload_n hx hb dX0_opensPart_9 rfl (lv_at hl 2 rfl) ?_
    refine lv_iconst (v := nI 4) hx hb dX0_opensPart_10 (by decide) ?_
    refine lv_irem hx hb dX0_opensPart_11 (by decide) ?_
    refine k_t1 (show (nI i) - (nI i) / (nI 4) * (nI 4) = nI (i % 4) from pk_rem (by omega) (by omega) (by omega)) ?_
    refine lv_if_ne (tgt := 19) hx hb dX0_opensPart_12 (by decide) (fun c2 => ?_) (fun c2 => ?_)
    · skip
      refine lv_iconst (v := nI 0) hx hb dX0_opensPart_19 (by decide) ?_
      exact k_retz () hx hb hr hK hS hlk dX0_opensPart_20 ((by first | exact Or.inl rfl | exact Or.inr rfl)) hP hD (rfl) hQ
    · skip
      exact absurd c2 (nI_ne0 (by omega) (by omega))

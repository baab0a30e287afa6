theorem i01 {x : Int32} (h1 : ¬ x < 0) (h2 : ¬ x = 0) (h3 : x ≤ nI 1) : x = 1 := by
  obtain ⟨j, hj, rfl⟩ := nI_of h1
  have a := (nI_leI (by omega) (by omega)).mp h3
  have b : j ≠ 0 := fun q => h2 (by subst q; rfl)
  have e : j = 1 := by omega
  subst e; rfl
theorem upd_same {f : Nat → Int32} {k : Nat} {x : Int32} (h : f k = x) : upd f k x = f := by
  funext j
  by_cases hj : j = k
  · subst hj; simp [upd, h]
  · simp [upd, hj]
theorem upN_same {g : Nat → Nat} {k v : Nat} (h : g k = v) : upN g k v = g := by
  funext j
  by_cases hj : j = k
  · subst hj; simp [upN, h]
  · simp [upN, hj]
set_option maxHeartbeats 800000 in
set_option maxRecDepth 100000 in
theorem c_m_trace (l : Launch) (D : va_G) (cI cZ cJ : ClassId) (mo : Nat) (se : Nat) (co : Nat) (ou : Nat) (le : Nat) (wo : Nat) (ma : Nat) (pl : Nat) (tl : Nat) (tm : Nat) (th : Nat) (na : Nat) (si : Nat) (pa : Nat) (ta : Nat) (thr : Int32) (G : Int32) (ky : Int32) (DE : Int32) (cn : Nat) (got : Int32) (S0 : Nat → Nat → Int32) (C0 : Nat → Int32) (O0 : Nat → Int32) (L0 : Nat → Int32) (W0 : Nat → Nat → Int32) (S1 : Nat → Nat → Int32) (C1 : Nat → Int32) (O1 : Nat → Int32) (L1 : Nat → Int32) (W1 : Nat → Nat → Int32) (MP : Nat → Nat) (PL : Nat → Int32) (ML : Nat → Int32) (DL : Nat → Int32) (TH : Nat → Int32) (NM : Nat → Int64) (SZ : Nat → Nat) (PT : Nat → Nat) (TK : Nat → Int32) (k what : Int32) (hc : cn < 1000000) : KI l yX5_trace wsX5_trace ({ frames := 0, cells := 0, slots := 0, locals := 0 }) D (kty cI cZ cJ) [.ref mo, .int k, .int what] (wM cI cZ cJ mo se co ou le wo ma pl tl tm th na si pa ta thr G ky DE cn got S0 C0 O0 L0 W0 S1 C1 O1 L1 W1 MP PL ML DL TH NM SZ PT TK) (fun r (_ : Unit) => r = trF ML DL cn k what) (fun _ : Unit => (wM cI cZ cJ mo se co ou le wo ma pl tl tm th na si pa ta 0 G ky DE cn got S0 C0 O0 L0 W0 S1 C1 O1 L1 W1 MP PL ML DL TH NM SZ PT TK)) 0 0 := by
  refine k_headI (cc := cX5_trace) (maxL := 4) (ret := (some .int)) (by decide) rfl (Nat.le_of_ble_eq_true rfl) ?_
  intro p e s m below meth c A ls args Q hx hb hr hml hts hown hlk hnm hA hK hP hD hS hl hQ
  have hl : lv_has ls 4 [(0, .ref mo), (1, .int k), (2, .int what)] := hl
  refine lv_aload_n hx hb dX5_trace_0 rfl (lv_at hl 0 rfl) ?_
  refine lv_iconst (v := nI 0) hx hb dX5_trace_1 (by decide) ?_
  refine va_put (D := D) (ci := 5) (v := .int (nI 0)) (ty := .int) (C := RX5) (T := TX5) (N := 20) hx hb hts (by decide +kernel) tyX5 tyX5_ok nmX5 hown hK hP hD hS 0 rfl rfl 0 (by decide) (hts (.fieldLink RX5 58 "VeiledFilesModel" "thrown" "I") (by decide +kernel)) (fun _ h9 => h9) rfl (by decide +kernel) rfl rfl (Nat.le_of_ble_eq_true rfl) dX5_trace_2 (fun H locs hP hD hS => ?_)
  have hP : va_P D vwCl (wM cI cZ cJ mo se co ou le wo ma pl tl tm th na si pa ta 0 G ky DE cn got S0 C0 O0 L0 W0 S1 C1 O1 L1 W1 MP PL ML DL TH NM SZ PT TK) _ := hP
  have hD : va_D A (wM cI cZ cJ mo se co ou le wo ma pl tl tm th na si pa ta 0 G ky DE cn got S0 C0 O0 L0 W0 S1 C1 O1 L1 W1 MP PL ML DL TH NM SZ PT TK) := hD
  refine lv_iload_n hx hb dX5_trace_5 rfl (lv_at hl 1 rfl) ?_
  refine lv_if_lt (tgt := 32) hx hb dX5_trace_6 (by decide) (fun c1 => ?_) (fun c1 => ?_)
  · skip
    refine lv_iconst (v := -1) hx hb dX5_trace_32 (by decide) ?_
    exact k_reti () hx hb hr hK hS hlk dX5_trace_33 hP hD (by exact (trF_n1 (noB_lt c1)).symm) hQ
  · skip
    refine lv_iload_n hx hb dX5_trace_9 rfl (lv_at hl 1 rfl) ?_
    refine lv_aload_n hx hb dX5_trace_10 rfl (lv_at hl 0 rfl) ?_
    refine va_get (D := D) (ci := 5) (v := .int (nI cn)) (C := RX5) (T := TX5) (N := 20) hx hb hts (by decide +kernel) hown hK hP 0 rfl rfl 4 (by decide) (hts (.fieldLink RX5 124 "VeiledFilesModel" "accesses" "I") (by decide +kernel)) (fun _ h9 => h9) rfl dX5_trace_11 ?_
    refine lv_icmp_ge (tgt := 32) hx hb dX5_trace_14 (by decide) (fun c2 => ?_) (fun c2 => ?_)
    · skip
      refine lv_iconst (v := -1) hx hb dX5_trace_32 (by decide) ?_
      exact k_reti () hx hb hr hK hS hlk dX5_trace_33 hP hD (by exact (trF_n2 c2).symm) hQ
    · skip
      refine lv_iload_n hx hb dX5_trace_17 rfl (lv_at hl 1 rfl) ?_
      refine lv_bipush (v := nI 64) hx hb dX5_trace_18 (by decide) ?_
      refine lv_icmp_ge (tgt := 32) hx hb dX5_trace_20 (by decide) (fun c3 => ?_) (fun c3 => ?_)
      · skip
        refine lv_iconst (v := -1) hx hb dX5_trace_32 (by decide) ?_
        exact k_reti () hx hb hr hK hS hlk dX5_trace_33 hP hD (by exact (trF_n1 (noB_ge c3)).symm) hQ
      · skip
        obtain ⟨k0, hk0, rfl⟩ := noB_false (by decide) c1 c3
        have hkc : k0 < cn := (nI_ltI (by omega) (by omega)).mp (Int32.not_le.mp c2)
        have hty := trF_y (ML := ML) (DL := DL) (what := what) hk0 hkc (by omega)
        refine lv_iload_n hx hb dX5_trace_23 rfl (lv_at hl 2 rfl) ?_
        refine lv_if_lt (tgt := 32) hx hb dX5_trace_24 (by decide) (fun c4 => ?_) (fun c4 => ?_)
        · skip
          refine lv_iconst (v := -1) hx hb dX5_trace_32 (by decide) ?_
          exact k_reti () hx hb hr hK hS hlk dX5_trace_33 hP hD (by rw [hty, if_neg (fun q => absurd c4 (by rw [q]; decide)), if_neg (fun q => absurd c4 (by rw [q]; decide))]) hQ
        · skip
          refine lv_iload_n hx hb dX5_trace_27 rfl (lv_at hl 2 rfl) ?_
          refine lv_iconst (v := nI 1) hx hb dX5_trace_28 (by decide) ?_
          refine lv_icmp_le (tgt := 34) hx hb dX5_trace_29 (by decide) (fun c5 => ?_) (fun c5 => ?_)
          · skip
            refine lv_aload_n hx hb dX5_trace_34 rfl (lv_at hl 0 rfl) ?_
            refine va_get (D := D) (ci := 5) (v := .int (nI cn)) (C := RX5) (T := TX5) (N := 20) hx hb hts (by decide +kernel) hown hK hP 0 rfl rfl 4 (by decide) (hts (.fieldLink RX5 124 "VeiledFilesModel" "accesses" "I") (by decide +kernel)) (fun _ h9 => h9) rfl dX5_trace_35 ?_
            refine lv_iconst (v := nI 1) hx hb dX5_trace_38 (by decide) ?_
            refine lv_isub hx hb dX5_trace_39 ?_
            refine k_t1 (show (nI cn) - (nI 1) = nI (cn - 1) from pk_sub (by omega)) ?_
            refine lv_iload_n hx hb dX5_trace_40 rfl (lv_at hl 1 rfl) ?_
            refine lv_isub hx hb dX5_trace_41 ?_
            refine k_t1 (show (nI (cn - 1)) - (nI k0) = nI ((cn - 1) - k0) from pk_sub (by omega)) ?_
            refine lv_bipush (v := nI 64) hx hb dX5_trace_42 (by decide) ?_
            refine lv_irem hx hb dX5_trace_44 (by decide) ?_
            refine k_t1 (show (nI ((cn - 1) - k0)) - (nI ((cn - 1) - k0)) / (nI 64) * (nI 64) = nI (((cn - 1) - k0) % 64) from pk_rem (by omega) (by omega) (by omega)) ?_
            refine lv_istore_n (lv' := [(3, .int (nI (((cn - 1) - k0) % 64))), (0, .ref mo), (1, .int (nI k0)), (2, .int what)]) hx hb dX5_trace_45 rfl hl (by decide) rfl (fun ls hl => ?_)
            refine lv_iload_n hx hb dX5_trace_46 rfl (lv_at hl 3 rfl) ?_
            refine lv_if_ne (tgt := 59) hx hb dX5_trace_47 (by decide) (fun c6 => ?_) (fun c6 => ?_)
            · skip
              refine lv_aload_n hx hb dX5_trace_59 rfl (lv_at hl 1 rfl) ?_
              refine va_get (D := D) (ci := 5) (v := .ref tm) (C := RX5) (T := TX5) (N := 20) hx hb hts (by decide +kernel) hown hK hP 0 rfl rfl 13 (by decide) (hts (.fieldLink RX5 35 "VeiledFilesModel" "traceM" "[I") (by decide +kernel)) (fun _ h9 => h9) rfl dX5_trace_60 ?_
              refine lv_iload_n hx hb dX5_trace_63 rfl (lv_at hl 0 rfl) ?_
              refine k_iald hx hb hK hP 9 0 rfl rfl (((cn - 1) - k0) % 64) (by omega) (by omega) (v := DL (((cn - 1) - k0) % 64)) (rfl) dX5_trace_64 ?_
              exact k_reti () hx hb hr hK hS hlk dX5_trace_65 hP hD (by rw [hty, if_neg c6, if_pos (i01 c4 c6 c5)]) hQ
            · skip
              refine lv_aload_n hx hb dX5_trace_50 rfl (lv_at hl 1 rfl) ?_
              refine va_get (D := D) (ci := 5) (v := .ref tl) (C := RX5) (T := TX5) (N := 20) hx hb hts (by decide +kernel) hown hK hP 0 rfl rfl 12 (by decide) (hts (.fieldLink RX5 32 "VeiledFilesModel" "traceL" "[I") (by decide +kernel)) (fun _ h9 => h9) rfl dX5_trace_51 ?_
              refine lv_iload_n hx hb dX5_trace_54 rfl (lv_at hl 0 rfl) ?_
              refine k_iald hx hb hK hP 8 0 rfl rfl (((cn - 1) - k0) % 64) (by omega) (by omega) (v := ML (((cn - 1) - k0) % 64)) (rfl) dX5_trace_55 ?_
              refine lv_goto (tgt := 65) hx hb dX5_trace_56 (by decide) ?_
              exact k_reti () hx hb hr hK hS hlk dX5_trace_65 hP hD (by rw [hty, if_pos c6]) hQ
          · skip
            refine lv_iconst (v := -1) hx hb dX5_trace_32 (by decide) ?_
            exact k_reti () hx hb hr hK hS hlk dX5_trace_33 hP hD (by rw [hty, if_neg (fun q => absurd c5 (by rw [q]; decide)), if_neg (fun q => absurd c5 (by rw [q]; decide))]) hQ

set_option maxHeartbeats 800000 in
set_option maxRecDepth 100000 in
theorem c_m_state0 (l : Launch) (D : va_G) (cI cZ cJ : ClassId) (mo : Nat) (se : Nat) (co : Nat) (ou : Nat) (le : Nat) (wo : Nat) (ma : Nat) (pl : Nat) (tl : Nat) (tm : Nat) (th : Nat) (na : Nat) (si : Nat) (pa : Nat) (ta : Nat) (thr : Int32) (G : Int32) (ky : Int32) (DE : Int32) (cn : Nat) (got : Int32) (S0 : Nat → Nat → Int32) (C0 : Nat → Int32) (O0 : Nat → Int32) (L0 : Nat → Int32) (W0 : Nat → Nat → Int32) (S1 : Nat → Nat → Int32) (C1 : Nat → Int32) (O1 : Nat → Int32) (L1 : Nat → Int32) (W1 : Nat → Nat → Int32) (MP : Nat → Nat) (PL : Nat → Int32) (ML : Nat → Int32) (DL : Nat → Int32) (TH : Nat → Int32) (NM : Nat → Int64) (SZ : Nat → Nat) (PT : Nat → Nat) (TK : Nat → Int32)   : KI l yX5_state wsX5_state ({ frames := 0, cells := 0, slots := 0, locals := 0 }) D (kty cI cZ cJ) [.ref mo, .int 0] (wM cI cZ cJ mo se co ou le wo ma pl tl tm th na si pa ta thr G ky DE cn got S0 C0 O0 L0 W0 S1 C1 O1 L1 W1 MP PL ML DL TH NM SZ PT TK) (fun r (_ : Unit) => r = nI cn) (fun _ : Unit => (wM cI cZ cJ mo se co ou le wo ma pl tl tm th na si pa ta 0 G ky DE cn got S0 C0 O0 L0 W0 S1 C1 O1 L1 W1 MP PL ML DL TH NM SZ PT TK)) 0 0 := by
  refine k_headI (cc := cX5_state) (maxL := 5) (ret := (some .int)) (by decide) rfl (Nat.le_of_ble_eq_true rfl) ?_
  intro p e s m below meth c A ls args Q hx hb hr hml hts hown hlk hnm hA hK hP hD hS hl hQ
  have hl : lv_has ls 5 [(0, .ref mo), (1, .int 0)] := hl
  refine lv_aload_n hx hb dX5_state_0 rfl (lv_at hl 0 rfl) ?_
  refine lv_iconst (v := nI 0) hx hb dX5_state_1 (by decide) ?_
  refine va_put (D := D) (ci := 5) (v := .int (nI 0)) (ty := .int) (C := RX5) (T := TX5) (N := 20) hx hb hts (by decide +kernel) tyX5 tyX5_ok nmX5 hown hK hP hD hS 0 rfl rfl 0 (by decide) (hts (.fieldLink RX5 58 "VeiledFilesModel" "thrown" "I") (by decide +kernel)) (fun _ h9 => h9) rfl (by decide +kernel) rfl rfl (Nat.le_of_ble_eq_true rfl) dX5_state_2 (fun H locs hP hD hS => ?_)
  have hP : va_P D vwCl (wM cI cZ cJ mo se co ou le wo ma pl tl tm th na si pa ta 0 G ky DE cn got S0 C0 O0 L0 W0 S1 C1 O1 L1 W1 MP PL ML DL TH NM SZ PT TK) _ := hP
  have hD : va_D A (wM cI cZ cJ mo se co ou le wo ma pl tl tm th na si pa ta 0 G ky DE cn got S0 C0 O0 L0 W0 S1 C1 O1 L1 W1 MP PL ML DL TH NM SZ PT TK) := hD
  refine lv_iconst (v := nI 0) hx hb dX5_state_5 (by decide) ?_
  refine lv_istore_n (lv' := [(2, .int (nI 0)), (0, .ref mo), (1, .int 0)]) hx hb dX5_state_6 rfl hl (by decide) rfl (fun ls hl => ?_)
  refine lv_iconst (v := nI 0) hx hb dX5_state_7 (by decide) ?_
  refine lv_istore_n (lv' := [(3, .int (nI 0)), (2, .int (nI 0)), (0, .ref mo), (1, .int 0)]) hx hb dX5_state_8 rfl hl (by decide) rfl (fun ls hl => ?_)
  refine lv_iconst (v := nI 0) hx hb dX5_state_9 (by decide) ?_
  refine lv_istore (lv' := [(4, .int (nI 0)), (3, .int (nI 0)), (2, .int (nI 0)), (0, .ref mo), (1, .int 0)]) hx hb dX5_state_10 hl (by decide) rfl (fun ls hl => ?_)
  have La : ∀ (nf k : Nat) (hvLa : k ≤ 8) (hFLa : 8 - k < nf) (H : Heap) (locs : List Loc) (ls : Array Slot), va_P D vwCl (wM cI cZ cJ mo se co ou le wo ma pl tl tm th na si pa ta 0 G ky DE cn got S0 C0 O0 L0 W0 S1 C1 O1 L1 W1 MP PL ML DL TH NM SZ PT TK) H → va_D A (wM cI cZ cJ mo se co ou le wo ma pl tl tm th na si pa ta 0 G ky DE cn got S0 C0 O0 L0 W0 S1 C1 O1 L1 W1 MP PL ML DL TH NM SZ PT TK) → va_S A s.heap H locs → lv_has ls 5 [(0, .ref mo), (1, .int 0), (2, .int (nI (cntN TH k))), (3, .int (nI 0)), (4, .int (nI k))] → W p l e ({ frames := 0, cells := 0, slots := 0, locals := 0 } : Room) s m args below meth c H locs 0 0 Q (F0 m 12 ls []) := by
    intro nf
    induction nf with
    | zero => intro k  hvLa hFLa; omega
    | succ nf ihLa =>
      intro k  hvLa hFLa  H locs ls hP hD hS hl
      refine lv_iload hx hb dX5_state_12 (lv_at hl 4 rfl) ?_
      refine lv_bipush (v := nI 8) hx hb dX5_state_14 (by decide) ?_
      refine k_icmp_ge (tgt := 43) hx hb (by omega) (by omega) dX5_state_16 (by decide) (fun c1 => ?_) (fun c1 => ?_)
      · skip
        obtain rfl : k = 8 := by omega
        refine lv_iconst (v := nI 0) hx hb dX5_state_43 (by decide) ?_
        refine lv_istore (lv' := [(4, .int (nI 0)), (0, .ref mo), (1, .int 0), (2, .int (nI (cntN TH 8))), (3, .int (nI 0))]) hx hb dX5_state_44 hl (by decide) rfl (fun ls hl => ?_)
        have Lb : ∀ (nf k : Nat) (hvLb : k ≤ 64) (hFLb : 64 - k < nf) (H : Heap) (locs : List Loc) (ls : Array Slot), va_P D vwCl (wM cI cZ cJ mo se co ou le wo ma pl tl tm th na si pa ta 0 G ky DE cn got S0 C0 O0 L0 W0 S1 C1 O1 L1 W1 MP PL ML DL TH NM SZ PT TK) H → va_D A (wM cI cZ cJ mo se co ou le wo ma pl tl tm th na si pa ta 0 G ky DE cn got S0 C0 O0 L0 W0 S1 C1 O1 L1 W1 MP PL ML DL TH NM SZ PT TK) → va_S A s.heap H locs → lv_has ls 5 [(0, .ref mo), (1, .int 0), (2, .int (nI (cntN TH 8))), (3, .int (nI (cf0 TK k))), (4, .int (nI k))] → W p l e ({ frames := 0, cells := 0, slots := 0, locals := 0 } : Room) s m args below meth c H locs 0 0 Q (F0 m 46 ls []) := by
          intro nf
          induction nf with
          | zero => intro k  hvLb hFLb; omega
          | succ nf ihLb =>
            intro k  hvLb hFLb  H locs ls hP hD hS hl
            refine lv_iload hx hb dX5_state_46 (lv_at hl 4 rfl) ?_
            refine lv_bipush (v := nI 64) hx hb dX5_state_48 (by decide) ?_
            refine k_icmp_ge (tgt := 77) hx hb (by omega) (by omega) dX5_state_50 (by decide) (fun c2 => ?_) (fun c2 => ?_)
            · skip
              obtain rfl : k = 64 := by omega
              refine lv_iload_n hx hb dX5_state_77 rfl (lv_at hl 1 rfl) ?_
              refine lv_tableIn (off := 30) (tgt := 108) hx hb dX5_state_78 (by decide) (by decide) (by decide) (by decide) ?_
              refine lv_aload_n hx hb dX5_state_108 rfl (lv_at hl 0 rfl) ?_
              refine va_get (D := D) (ci := 5) (v := .int (nI cn)) (C := RX5) (T := TX5) (N := 20) hx hb hts (by decide +kernel) hown hK hP 0 rfl rfl 4 (by decide) (hts (.fieldLink RX5 124 "VeiledFilesModel" "accesses" "I") (by decide +kernel)) (fun _ h9 => h9) rfl dX5_state_109 ?_
              exact k_reti () hx hb hr hK hS hlk dX5_state_112 hP hD (by exact rfl) hQ
            · skip
              have hcl := cf0_le TK k
              refine lv_iload_n hx hb dX5_state_53 rfl (lv_at hl 3 rfl) ?_
              refine lv_aload_n hx hb dX5_state_54 rfl (lv_at hl 0 rfl) ?_
              refine va_get (D := D) (ci := 5) (v := .ref ta) (C := RX5) (T := TX5) (N := 20) hx hb hts (by decide +kernel) hown hK hP 0 rfl rfl 18 (by decide) (hts (.fieldLink RX5 51 "VeiledFilesModel" "taken" "[Z") (by decide +kernel)) (fun _ h9 => h9) rfl dX5_state_55 ?_
              refine lv_iload hx hb dX5_state_58 (lv_at hl 4 rfl) ?_
              refine k_zald hx hb hK hP 14 1 rfl rfl k (by omega) (by omega) (v := TK k) (rfl) dX5_state_60 ?_
              refine lv_if_eq (tgt := 68) hx hb dX5_state_61 (by decide) (fun c3 => ?_) (fun c3 => ?_)
              · skip
                refine lv_iconst (v := nI 1) hx hb dX5_state_68 (by decide) ?_
                refine lv_iadd hx hb dX5_state_69 ?_
                refine k_t1 (show (nI (cf0 TK k)) + (nI 1) = nI (cf0 TK k + 1) from nI_add _ _) ?_
                refine lv_istore_n (lv' := [(3, .int (nI (cf0 TK k + 1))), (0, .ref mo), (1, .int 0), (2, .int (nI (cntN TH 8))), (4, .int (nI k))]) hx hb dX5_state_70 rfl hl (by decide) rfl (fun ls hl => ?_)
                refine lv_iinc (v := nI (k + 1)) (lv' := [(4, .int (nI (k + 1))), (3, .int (nI (cf0 TK k + 1))), (0, .ref mo), (1, .int 0), (2, .int (nI (cntN TH 8)))]) hx hb dX5_state_71 hl (k := 4) rfl (nI_add k 1) (by decide) rfl (fun ls hl => ?_)
                refine lv_goto (tgt := 46) hx hb dX5_state_74 (by decide) ?_
                rw [show cf0 TK k + 1 = cf0 TK (k + 1) by simp [cf0, c3]] at hl
                exact ihLb (k + 1)  (by omega) (by omega)  _ _ _ hP hD hS (lv_sub hl [2, 3, 4, 1, 0] rfl)
              · skip
                refine lv_iconst (v := nI 0) hx hb dX5_state_64 (by decide) ?_
                refine lv_goto (tgt := 69) hx hb dX5_state_65 (by decide) ?_
                refine lv_iadd hx hb dX5_state_69 ?_
                refine k_t1 (show (nI (cf0 TK k)) + (nI 0) = nI (cf0 TK k + 0) from nI_add _ _) ?_
                refine lv_istore_n (lv' := [(3, .int (nI (cf0 TK k + 0))), (0, .ref mo), (1, .int 0), (2, .int (nI (cntN TH 8))), (4, .int (nI k))]) hx hb dX5_state_70 rfl hl (by decide) rfl (fun ls hl => ?_)
                refine lv_iinc (v := nI (k + 1)) (lv' := [(4, .int (nI (k + 1))), (3, .int (nI (cf0 TK k + 0))), (0, .ref mo), (1, .int 0), (2, .int (nI (cntN TH 8)))]) hx hb dX5_state_71 hl (k := 4) rfl (nI_add k 1) (by decide) rfl (fun ls hl => ?_)
                refine lv_goto (tgt := 46) hx hb dX5_state_74 (by decide) ?_
                rw [show cf0 TK k + 0 = cf0 TK (k + 1) by simp [cf0, c3]] at hl
                exact ihLb (k + 1)  (by omega) (by omega)  _ _ _ hP hD hS (lv_sub hl [2, 3, 4, 1, 0] rfl)
        exact Lb (64 + 1) 0  (by omega) (by omega)  _ _ _ hP hD hS (lv_sub hl [1, 2, 3, 4, 0] rfl)
      · skip
        have hcl := cntN_le TH k
        refine lv_iload_n hx hb dX5_state_19 rfl (lv_at hl 2 rfl) ?_
        refine lv_aload_n hx hb dX5_state_20 rfl (lv_at hl 0 rfl) ?_
        refine va_get (D := D) (ci := 5) (v := .ref th) (C := RX5) (T := TX5) (N := 20) hx hb hts (by decide +kernel) hown hK hP 0 rfl rfl 14 (by decide) (hts (.fieldLink RX5 38 "VeiledFilesModel" "there" "[Z") (by decide +kernel)) (fun _ h9 => h9) rfl dX5_state_21 ?_
        refine lv_iload hx hb dX5_state_24 (lv_at hl 4 rfl) ?_
        refine k_zald hx hb hK hP 10 1 rfl rfl k (by omega) (by omega) (v := TH k) (rfl) dX5_state_26 ?_
        refine lv_if_eq (tgt := 34) hx hb dX5_state_27 (by decide) (fun c3 => ?_) (fun c3 => ?_)
        · skip
          refine lv_iconst (v := nI 0) hx hb dX5_state_34 (by decide) ?_
          refine lv_iadd hx hb dX5_state_35 ?_
          refine k_t1 (show (nI (cntN TH k)) + (nI 0) = nI (cntN TH k + 0) from nI_add _ _) ?_
          refine lv_istore_n (lv' := [(2, .int (nI (cntN TH k + 0))), (0, .ref mo), (1, .int 0), (3, .int (nI 0)), (4, .int (nI k))]) hx hb dX5_state_36 rfl hl (by decide) rfl (fun ls hl => ?_)
          refine lv_iinc (v := nI (k + 1)) (lv' := [(4, .int (nI (k + 1))), (2, .int (nI (cntN TH k + 0))), (0, .ref mo), (1, .int 0), (3, .int (nI 0))]) hx hb dX5_state_37 hl (k := 4) rfl (nI_add k 1) (by decide) rfl (fun ls hl => ?_)
          refine lv_goto (tgt := 12) hx hb dX5_state_40 (by decide) ?_
          rw [show cntN TH k + 0 = cntN TH (k + 1) by simp [cntN, c3]] at hl
          exact ihLa (k + 1)  (by omega) (by omega)  _ _ _ hP hD hS (lv_sub hl [2, 3, 1, 4, 0] rfl)
        · skip
          refine lv_iconst (v := nI 1) hx hb dX5_state_30 (by decide) ?_
          refine lv_goto (tgt := 35) hx hb dX5_state_31 (by decide) ?_
          refine lv_iadd hx hb dX5_state_35 ?_
          refine k_t1 (show (nI (cntN TH k)) + (nI 1) = nI (cntN TH k + 1) from nI_add _ _) ?_
          refine lv_istore_n (lv' := [(2, .int (nI (cntN TH k + 1))), (0, .ref mo), (1, .int 0), (3, .int (nI 0)), (4, .int (nI k))]) hx hb dX5_state_36 rfl hl (by decide) rfl (fun ls hl => ?_)
          refine lv_iinc (v := nI (k + 1)) (lv' := [(4, .int (nI (k + 1))), (2, .int (nI (cntN TH k + 1))), (0, .ref mo), (1, .int 0), (3, .int (nI 0))]) hx hb dX5_state_37 hl (k := 4) rfl (nI_add k 1) (by decide) rfl (fun ls hl => ?_)
          refine lv_goto (tgt := 12) hx hb dX5_state_40 (by decide) ?_
          rw [show cntN TH k + 1 = cntN TH (k + 1) by simp [cntN, c3]] at hl
          exact ihLa (k + 1)  (by omega) (by omega)  _ _ _ hP hD hS (lv_sub hl [2, 3, 1, 4, 0] rfl)
  exact La (8 + 1) 0  (by omega) (by omega)  _ _ _ hP hD hS (lv_sub hl [3, 4, 2, 1, 0] rfl)

set_option maxHeartbeats 800000 in
set_option maxRecDepth 100000 in
theorem c_m_state1 (l : Launch) (D : va_G) (cI cZ cJ : ClassId) (mo : Nat) (se : Nat) (co : Nat) (ou : Nat) (le : Nat) (wo : Nat) (ma : Nat) (pl : Nat) (tl : Nat) (tm : Nat) (th : Nat) (na : Nat) (si : Nat) (pa : Nat) (ta : Nat) (thr : Int32) (G : Int32) (ky : Int32) (DE : Int32) (cn : Nat) (got : Int32) (S0 : Nat → Nat → Int32) (C0 : Nat → Int32) (O0 : Nat → Int32) (L0 : Nat → Int32) (W0 : Nat → Nat → Int32) (S1 : Nat → Nat → Int32) (C1 : Nat → Int32) (O1 : Nat → Int32) (L1 : Nat → Int32) (W1 : Nat → Nat → Int32) (MP : Nat → Nat) (PL : Nat → Int32) (ML : Nat → Int32) (DL : Nat → Int32) (TH : Nat → Int32) (NM : Nat → Int64) (SZ : Nat → Nat) (PT : Nat → Nat) (TK : Nat → Int32)   : KI l yX5_state wsX5_state ({ frames := 0, cells := 0, slots := 0, locals := 0 }) D (kty cI cZ cJ) [.ref mo, .int 1] (wM cI cZ cJ mo se co ou le wo ma pl tl tm th na si pa ta thr G ky DE cn got S0 C0 O0 L0 W0 S1 C1 O1 L1 W1 MP PL ML DL TH NM SZ PT TK) (fun r (_ : Unit) => r = nI (cntN TH 8)) (fun _ : Unit => (wM cI cZ cJ mo se co ou le wo ma pl tl tm th na si pa ta 0 G ky DE cn got S0 C0 O0 L0 W0 S1 C1 O1 L1 W1 MP PL ML DL TH NM SZ PT TK)) 0 0 := by
  refine k_headI (cc := cX5_state) (maxL := 5) (ret := (some .int)) (by decide) rfl (Nat.le_of_ble_eq_true rfl) ?_
  intro p e s m below meth c A ls args Q hx hb hr hml hts hown hlk hnm hA hK hP hD hS hl hQ
  have hl : lv_has ls 5 [(0, .ref mo), (1, .int 1)] := hl
  refine lv_aload_n hx hb dX5_state_0 rfl (lv_at hl 0 rfl) ?_
  refine lv_iconst (v := nI 0) hx hb dX5_state_1 (by decide) ?_
  refine va_put (D := D) (ci := 5) (v := .int (nI 0)) (ty := .int) (C := RX5) (T := TX5) (N := 20) hx hb hts (by decide +kernel) tyX5 tyX5_ok nmX5 hown hK hP hD hS 0 rfl rfl 0 (by decide) (hts (.fieldLink RX5 58 "VeiledFilesModel" "thrown" "I") (by decide +kernel)) (fun _ h9 => h9) rfl (by decide +kernel) rfl rfl (Nat.le_of_ble_eq_true rfl) dX5_state_2 (fun H locs hP hD hS => ?_)
  have hP : va_P D vwCl (wM cI cZ cJ mo se co ou le wo ma pl tl tm th na si pa ta 0 G ky DE cn got S0 C0 O0 L0 W0 S1 C1 O1 L1 W1 MP PL ML DL TH NM SZ PT TK) _ := hP
  have hD : va_D A (wM cI cZ cJ mo se co ou le wo ma pl tl tm th na si pa ta 0 G ky DE cn got S0 C0 O0 L0 W0 S1 C1 O1 L1 W1 MP PL ML DL TH NM SZ PT TK) := hD
  refine lv_iconst (v := nI 0) hx hb dX5_state_5 (by decide) ?_
  refine lv_istore_n (lv' := [(2, .int (nI 0)), (0, .ref mo), (1, .int 1)]) hx hb dX5_state_6 rfl hl (by decide) rfl (fun ls hl => ?_)
  refine lv_iconst (v := nI 0) hx hb dX5_state_7 (by decide) ?_
  refine lv_istore_n (lv' := [(3, .int (nI 0)), (2, .int (nI 0)), (0, .ref mo), (1, .int 1)]) hx hb dX5_state_8 rfl hl (by decide) rfl (fun ls hl => ?_)
  refine lv_iconst (v := nI 0) hx hb dX5_state_9 (by decide) ?_
  refine lv_istore (lv' := [(4, .int (nI 0)), (3, .int (nI 0)), (2, .int (nI 0)), (0, .ref mo), (1, .int 1)]) hx hb dX5_state_10 hl (by decide) rfl (fun ls hl => ?_)
  have La : ∀ (nf k : Nat) (hvLa : k ≤ 8) (hFLa : 8 - k < nf) (H : Heap) (locs : List Loc) (ls : Array Slot), va_P D vwCl (wM cI cZ cJ mo se co ou le wo ma pl tl tm th na si pa ta 0 G ky DE cn got S0 C0 O0 L0 W0 S1 C1 O1 L1 W1 MP PL ML DL TH NM SZ PT TK) H → va_D A (wM cI cZ cJ mo se co ou le wo ma pl tl tm th na si pa ta 0 G ky DE cn got S0 C0 O0 L0 W0 S1 C1 O1 L1 W1 MP PL ML DL TH NM SZ PT TK) → va_S A s.heap H locs → lv_has ls 5 [(0, .ref mo), (1, .int 1), (2, .int (nI (cntN TH k))), (3, .int (nI 0)), (4, .int (nI k))] → W p l e ({ frames := 0, cells := 0, slots := 0, locals := 0 } : Room) s m args below meth c H locs 0 0 Q (F0 m 12 ls []) := by
    intro nf
    induction nf with
    | zero => intro k  hvLa hFLa; omega
    | succ nf ihLa =>
      intro k  hvLa hFLa  H locs ls hP hD hS hl
      refine lv_iload hx hb dX5_state_12 (lv_at hl 4 rfl) ?_
      refine lv_bipush (v := nI 8) hx hb dX5_state_14 (by decide) ?_
      refine k_icmp_ge (tgt := 43) hx hb (by omega) (by omega) dX5_state_16 (by decide) (fun c1 => ?_) (fun c1 => ?_)
      · skip
        obtain rfl : k = 8 := by omega
        refine lv_iconst (v := nI 0) hx hb dX5_state_43 (by decide) ?_
        refine lv_istore (lv' := [(4, .int (nI 0)), (0, .ref mo), (1, .int 1), (2, .int (nI (cntN TH 8))), (3, .int (nI 0))]) hx hb dX5_state_44 hl (by decide) rfl (fun ls hl => ?_)
        have Lb : ∀ (nf k : Nat) (hvLb : k ≤ 64) (hFLb : 64 - k < nf) (H : Heap) (locs : List Loc) (ls : Array Slot), va_P D vwCl (wM cI cZ cJ mo se co ou le wo ma pl tl tm th na si pa ta 0 G ky DE cn got S0 C0 O0 L0 W0 S1 C1 O1 L1 W1 MP PL ML DL TH NM SZ PT TK) H → va_D A (wM cI cZ cJ mo se co ou le wo ma pl tl tm th na si pa ta 0 G ky DE cn got S0 C0 O0 L0 W0 S1 C1 O1 L1 W1 MP PL ML DL TH NM SZ PT TK) → va_S A s.heap H locs → lv_has ls 5 [(0, .ref mo), (1, .int 1), (2, .int (nI (cntN TH 8))), (3, .int (nI (cf0 TK k))), (4, .int (nI k))] → W p l e ({ frames := 0, cells := 0, slots := 0, locals := 0 } : Room) s m args below meth c H locs 0 0 Q (F0 m 46 ls []) := by
          intro nf
          induction nf with
          | zero => intro k  hvLb hFLb; omega
          | succ nf ihLb =>
            intro k  hvLb hFLb  H locs ls hP hD hS hl
            refine lv_iload hx hb dX5_state_46 (lv_at hl 4 rfl) ?_
            refine lv_bipush (v := nI 64) hx hb dX5_state_48 (by decide) ?_
            refine k_icmp_ge (tgt := 77) hx hb (by omega) (by omega) dX5_state_50 (by decide) (fun c2 => ?_) (fun c2 => ?_)
            · skip
              obtain rfl : k = 64 := by omega
              refine lv_iload_n hx hb dX5_state_77 rfl (lv_at hl 1 rfl) ?_
              refine lv_tableIn (off := 35) (tgt := 113) hx hb dX5_state_78 (by decide) (by decide) (by decide) (by decide) ?_
              refine lv_iload_n hx hb dX5_state_113 rfl (lv_at hl 2 rfl) ?_
              exact k_reti () hx hb hr hK hS hlk dX5_state_114 hP hD (by exact rfl) hQ
            · skip
              have hcl := cf0_le TK k
              refine lv_iload_n hx hb dX5_state_53 rfl (lv_at hl 3 rfl) ?_
              refine lv_aload_n hx hb dX5_state_54 rfl (lv_at hl 0 rfl) ?_
              refine va_get (D := D) (ci := 5) (v := .ref ta) (C := RX5) (T := TX5) (N := 20) hx hb hts (by decide +kernel) hown hK hP 0 rfl rfl 18 (by decide) (hts (.fieldLink RX5 51 "VeiledFilesModel" "taken" "[Z") (by decide +kernel)) (fun _ h9 => h9) rfl dX5_state_55 ?_
              refine lv_iload hx hb dX5_state_58 (lv_at hl 4 rfl) ?_
              refine k_zald hx hb hK hP 14 1 rfl rfl k (by omega) (by omega) (v := TK k) (rfl) dX5_state_60 ?_
              refine lv_if_eq (tgt := 68) hx hb dX5_state_61 (by decide) (fun c3 => ?_) (fun c3 => ?_)
              · skip
                refine lv_iconst (v := nI 1) hx hb dX5_state_68 (by decide) ?_
                refine lv_iadd hx hb dX5_state_69 ?_
                refine k_t1 (show (nI (cf0 TK k)) + (nI 1) = nI (cf0 TK k + 1) from nI_add _ _) ?_
                refine lv_istore_n (lv' := [(3, .int (nI (cf0 TK k + 1))), (0, .ref mo), (1, .int 1), (2, .int (nI (cntN TH 8))), (4, .int (nI k))]) hx hb dX5_state_70 rfl hl (by decide) rfl (fun ls hl => ?_)
                refine lv_iinc (v := nI (k + 1)) (lv' := [(4, .int (nI (k + 1))), (3, .int (nI (cf0 TK k + 1))), (0, .ref mo), (1, .int 1), (2, .int (nI (cntN TH 8)))]) hx hb dX5_state_71 hl (k := 4) rfl (nI_add k 1) (by decide) rfl (fun ls hl => ?_)
                refine lv_goto (tgt := 46) hx hb dX5_state_74 (by decide) ?_
                rw [show cf0 TK k + 1 = cf0 TK (k + 1) by simp [cf0, c3]] at hl
                exact ihLb (k + 1)  (by omega) (by omega)  _ _ _ hP hD hS (lv_sub hl [2, 3, 4, 1, 0] rfl)
              · skip
                refine lv_iconst (v := nI 0) hx hb dX5_state_64 (by decide) ?_
                refine lv_goto (tgt := 69) hx hb dX5_state_65 (by decide) ?_
                refine lv_iadd hx hb dX5_state_69 ?_
                refine k_t1 (show (nI (cf0 TK k)) + (nI 0) = nI (cf0 TK k + 0) from nI_add _ _) ?_
                refine lv_istore_n (lv' := [(3, .int (nI (cf0 TK k + 0))), (0, .ref mo), (1, .int 1), (2, .int (nI (cntN TH 8))), (4, .int (nI k))]) hx hb dX5_state_70 rfl hl (by decide) rfl (fun ls hl => ?_)
                refine lv_iinc (v := nI (k + 1)) (lv' := [(4, .int (nI (k + 1))), (3, .int (nI (cf0 TK k + 0))), (0, .ref mo), (1, .int 1), (2, .int (nI (cntN TH 8)))]) hx hb dX5_state_71 hl (k := 4) rfl (nI_add k 1) (by decide) rfl (fun ls hl => ?_)
                refine lv_goto (tgt := 46) hx hb dX5_state_74 (by decide) ?_
                rw [show cf0 TK k + 0 = cf0 TK (k + 1) by simp [cf0, c3]] at hl
                exact ihLb (k + 1)  (by omega) (by omega)  _ _ _ hP hD hS (lv_sub hl [2, 3, 4, 1, 0] rfl)
        exact Lb (64 + 1) 0  (by omega) (by omega)  _ _ _ hP hD hS (lv_sub hl [1, 2, 3, 4, 0] rfl)
      · skip
        have hcl := cntN_le TH k
        refine lv_iload_n hx hb dX5_state_19 rfl (lv_at hl 2 rfl) ?_
        refine lv_aload_n hx hb dX5_state_20 rfl (lv_at hl 0 rfl) ?_
        refine va_get (D := D) (ci := 5) (v := .ref th) (C := RX5) (T := TX5) (N := 20) hx hb hts (by decide +kernel) hown hK hP 0 rfl rfl 14 (by decide) (hts (.fieldLink RX5 38 "VeiledFilesModel" "there" "[Z") (by decide +kernel)) (fun _ h9 => h9) rfl dX5_state_21 ?_
        refine lv_iload hx hb dX5_state_24 (lv_at hl 4 rfl) ?_
        refine k_zald hx hb hK hP 10 1 rfl rfl k (by omega) (by omega) (v := TH k) (rfl) dX5_state_26 ?_
        refine lv_if_eq (tgt := 34) hx hb dX5_state_27 (by decide) (fun c3 => ?_) (fun c3 => ?_)
        · skip
          refine lv_iconst (v := nI 0) hx hb dX5_state_34 (by decide) ?_
          refine lv_iadd hx hb dX5_state_35 ?_
          refine k_t1 (show (nI (cntN TH k)) + (nI 0) = nI (cntN TH k + 0) from nI_add _ _) ?_
          refine lv_istore_n (lv' := [(2, .int (nI (cntN TH k + 0))), (0, .ref mo), (1, .int 1), (3, .int (nI 0)), (4, .int (nI k))]) hx hb dX5_state_36 rfl hl (by decide) rfl (fun ls hl => ?_)
          refine lv_iinc (v := nI (k + 1)) (lv' := [(4, .int (nI (k + 1))), (2, .int (nI (cntN TH k + 0))), (0, .ref mo), (1, .int 1), (3, .int (nI 0))]) hx hb dX5_state_37 hl (k := 4) rfl (nI_add k 1) (by decide) rfl (fun ls hl => ?_)
          refine lv_goto (tgt := 12) hx hb dX5_state_40 (by decide) ?_
          rw [show cntN TH k + 0 = cntN TH (k + 1) by simp [cntN, c3]] at hl
          exact ihLa (k + 1)  (by omega) (by omega)  _ _ _ hP hD hS (lv_sub hl [2, 3, 1, 4, 0] rfl)
        · skip
          refine lv_iconst (v := nI 1) hx hb dX5_state_30 (by decide) ?_
          refine lv_goto (tgt := 35) hx hb dX5_state_31 (by decide) ?_
          refine lv_iadd hx hb dX5_state_35 ?_
          refine k_t1 (show (nI (cntN TH k)) + (nI 1) = nI (cntN TH k + 1) from nI_add _ _) ?_
          refine lv_istore_n (lv' := [(2, .int (nI (cntN TH k + 1))), (0, .ref mo), (1, .int 1), (3, .int (nI 0)), (4, .int (nI k))]) hx hb dX5_state_36 rfl hl (by decide) rfl (fun ls hl => ?_)
          refine lv_iinc (v := nI (k + 1)) (lv' := [(4, .int (nI (k + 1))), (2, .int (nI (cntN TH k + 1))), (0, .ref mo), (1, .int 1), (3, .int (nI 0))]) hx hb dX5_state_37 hl (k := 4) rfl (nI_add k 1) (by decide) rfl (fun ls hl => ?_)
          refine lv_goto (tgt := 12) hx hb dX5_state_40 (by decide) ?_
          rw [show cntN TH k + 1 = cntN TH (k + 1) by simp [cntN, c3]] at hl
          exact ihLa (k + 1)  (by omega) (by omega)  _ _ _ hP hD hS (lv_sub hl [2, 3, 1, 4, 0] rfl)
  exact La (8 + 1) 0  (by omega) (by omega)  _ _ _ hP hD hS (lv_sub hl [3, 4, 2, 1, 0] rfl)

set_option maxHeartbeats 800000 in
set_option maxRecDepth 100000 in
theorem c_m_state2 (l : Launch) (D : va_G) (cI cZ cJ : ClassId) (mo : Nat) (se : Nat) (co : Nat) (ou : Nat) (le : Nat) (wo : Nat) (ma : Nat) (pl : Nat) (tl : Nat) (tm : Nat) (th : Nat) (na : Nat) (si : Nat) (pa : Nat) (ta : Nat) (thr : Int32) (G : Int32) (ky : Int32) (DE : Int32) (cn : Nat) (got : Int32) (S0 : Nat → Nat → Int32) (C0 : Nat → Int32) (O0 : Nat → Int32) (L0 : Nat → Int32) (W0 : Nat → Nat → Int32) (S1 : Nat → Nat → Int32) (C1 : Nat → Int32) (O1 : Nat → Int32) (L1 : Nat → Int32) (W1 : Nat → Nat → Int32) (MP : Nat → Nat) (PL : Nat → Int32) (ML : Nat → Int32) (DL : Nat → Int32) (TH : Nat → Int32) (NM : Nat → Int64) (SZ : Nat → Nat) (PT : Nat → Nat) (TK : Nat → Int32)   : KI l yX5_state wsX5_state ({ frames := 0, cells := 0, slots := 0, locals := 0 }) D (kty cI cZ cJ) [.ref mo, .int 2] (wM cI cZ cJ mo se co ou le wo ma pl tl tm th na si pa ta thr G ky DE cn got S0 C0 O0 L0 W0 S1 C1 O1 L1 W1 MP PL ML DL TH NM SZ PT TK) (fun r (_ : Unit) => r = nI (cf0 TK 64)) (fun _ : Unit => (wM cI cZ cJ mo se co ou le wo ma pl tl tm th na si pa ta 0 G ky DE cn got S0 C0 O0 L0 W0 S1 C1 O1 L1 W1 MP PL ML DL TH NM SZ PT TK)) 0 0 := by
  refine k_headI (cc := cX5_state) (maxL := 5) (ret := (some .int)) (by decide) rfl (Nat.le_of_ble_eq_true rfl) ?_
  intro p e s m below meth c A ls args Q hx hb hr hml hts hown hlk hnm hA hK hP hD hS hl hQ
  have hl : lv_has ls 5 [(0, .ref mo), (1, .int 2)] := hl
  refine lv_aload_n hx hb dX5_state_0 rfl (lv_at hl 0 rfl) ?_
  refine lv_iconst (v := nI 0) hx hb dX5_state_1 (by decide) ?_
  refine va_put (D := D) (ci := 5) (v := .int (nI 0)) (ty := .int) (C := RX5) (T := TX5) (N := 20) hx hb hts (by decide +kernel) tyX5 tyX5_ok nmX5 hown hK hP hD hS 0 rfl rfl 0 (by decide) (hts (.fieldLink RX5 58 "VeiledFilesModel" "thrown" "I") (by decide +kernel)) (fun _ h9 => h9) rfl (by decide +kernel) rfl rfl (Nat.le_of_ble_eq_true rfl) dX5_state_2 (fun H locs hP hD hS => ?_)
  have hP : va_P D vwCl (wM cI cZ cJ mo se co ou le wo ma pl tl tm th na si pa ta 0 G ky DE cn got S0 C0 O0 L0 W0 S1 C1 O1 L1 W1 MP PL ML DL TH NM SZ PT TK) _ := hP
  have hD : va_D A (wM cI cZ cJ mo se co ou le wo ma pl tl tm th na si pa ta 0 G ky DE cn got S0 C0 O0 L0 W0 S1 C1 O1 L1 W1 MP PL ML DL TH NM SZ PT TK) := hD
  refine lv_iconst (v := nI 0) hx hb dX5_state_5 (by decide) ?_
  refine lv_istore_n (lv' := [(2, .int (nI 0)), (0, .ref mo), (1, .int 2)]) hx hb dX5_state_6 rfl hl (by decide) rfl (fun ls hl => ?_)
  refine lv_iconst (v := nI 0) hx hb dX5_state_7 (by decide) ?_
  refine lv_istore_n (lv' := [(3, .int (nI 0)), (2, .int (nI 0)), (0, .ref mo), (1, .int 2)]) hx hb dX5_state_8 rfl hl (by decide) rfl (fun ls hl => ?_)
  refine lv_iconst (v := nI 0) hx hb dX5_state_9 (by decide) ?_
  refine lv_istore (lv' := [(4, .int (nI 0)), (3, .int (nI 0)), (2, .int (nI 0)), (0, .ref mo), (1, .int 2)]) hx hb dX5_state_10 hl (by decide) rfl (fun ls hl => ?_)
  have La : ∀ (nf k : Nat) (hvLa : k ≤ 8) (hFLa : 8 - k < nf) (H : Heap) (locs : List Loc) (ls : Array Slot), va_P D vwCl (wM cI cZ cJ mo se co ou le wo ma pl tl tm th na si pa ta 0 G ky DE cn got S0 C0 O0 L0 W0 S1 C1 O1 L1 W1 MP PL ML DL TH NM SZ PT TK) H → va_D A (wM cI cZ cJ mo se co ou le wo ma pl tl tm th na si pa ta 0 G ky DE cn got S0 C0 O0 L0 W0 S1 C1 O1 L1 W1 MP PL ML DL TH NM SZ PT TK) → va_S A s.heap H locs → lv_has ls 5 [(0, .ref mo), (1, .int 2), (2, .int (nI (cntN TH k))), (3, .int (nI 0)), (4, .int (nI k))] → W p l e ({ frames := 0, cells := 0, slots := 0, locals := 0 } : Room) s m args below meth c H locs 0 0 Q (F0 m 12 ls []) := by
    intro nf
    induction nf with
    | zero => intro k  hvLa hFLa; omega
    | succ nf ihLa =>
      intro k  hvLa hFLa  H locs ls hP hD hS hl
      refine lv_iload hx hb dX5_state_12 (lv_at hl 4 rfl) ?_
      refine lv_bipush (v := nI 8) hx hb dX5_state_14 (by decide) ?_
      refine k_icmp_ge (tgt := 43) hx hb (by omega) (by omega) dX5_state_16 (by decide) (fun c1 => ?_) (fun c1 => ?_)
      · skip
        obtain rfl : k = 8 := by omega
        refine lv_iconst (v := nI 0) hx hb dX5_state_43 (by decide) ?_
        refine lv_istore (lv' := [(4, .int (nI 0)), (0, .ref mo), (1, .int 2), (2, .int (nI (cntN TH 8))), (3, .int (nI 0))]) hx hb dX5_state_44 hl (by decide) rfl (fun ls hl => ?_)
        have Lb : ∀ (nf k : Nat) (hvLb : k ≤ 64) (hFLb : 64 - k < nf) (H : Heap) (locs : List Loc) (ls : Array Slot), va_P D vwCl (wM cI cZ cJ mo se co ou le wo ma pl tl tm th na si pa ta 0 G ky DE cn got S0 C0 O0 L0 W0 S1 C1 O1 L1 W1 MP PL ML DL TH NM SZ PT TK) H → va_D A (wM cI cZ cJ mo se co ou le wo ma pl tl tm th na si pa ta 0 G ky DE cn got S0 C0 O0 L0 W0 S1 C1 O1 L1 W1 MP PL ML DL TH NM SZ PT TK) → va_S A s.heap H locs → lv_has ls 5 [(0, .ref mo), (1, .int 2), (2, .int (nI (cntN TH 8))), (3, .int (nI (cf0 TK k))), (4, .int (nI k))] → W p l e ({ frames := 0, cells := 0, slots := 0, locals := 0 } : Room) s m args below meth c H locs 0 0 Q (F0 m 46 ls []) := by
          intro nf
          induction nf with
          | zero => intro k  hvLb hFLb; omega
          | succ nf ihLb =>
            intro k  hvLb hFLb  H locs ls hP hD hS hl
            refine lv_iload hx hb dX5_state_46 (lv_at hl 4 rfl) ?_
            refine lv_bipush (v := nI 64) hx hb dX5_state_48 (by decide) ?_
            refine k_icmp_ge (tgt := 77) hx hb (by omega) (by omega) dX5_state_50 (by decide) (fun c2 => ?_) (fun c2 => ?_)
            · skip
              obtain rfl : k = 64 := by omega
              refine lv_iload_n hx hb dX5_state_77 rfl (lv_at hl 1 rfl) ?_
              refine lv_tableIn (off := 37) (tgt := 115) hx hb dX5_state_78 (by decide) (by decide) (by decide) (by decide) ?_
              refine lv_iload_n hx hb dX5_state_115 rfl (lv_at hl 3 rfl) ?_
              exact k_reti () hx hb hr hK hS hlk dX5_state_116 hP hD (by exact rfl) hQ
            · skip
              have hcl := cf0_le TK k
              refine lv_iload_n hx hb dX5_state_53 rfl (lv_at hl 3 rfl) ?_
              refine lv_aload_n hx hb dX5_state_54 rfl (lv_at hl 0 rfl) ?_
              refine va_get (D := D) (ci := 5) (v := .ref ta) (C := RX5) (T := TX5) (N := 20) hx hb hts (by decide +kernel) hown hK hP 0 rfl rfl 18 (by decide) (hts (.fieldLink RX5 51 "VeiledFilesModel" "taken" "[Z") (by decide +kernel)) (fun _ h9 => h9) rfl dX5_state_55 ?_
              refine lv_iload hx hb dX5_state_58 (lv_at hl 4 rfl) ?_
              refine k_zald hx hb hK hP 14 1 rfl rfl k (by omega) (by omega) (v := TK k) (rfl) dX5_state_60 ?_
              refine lv_if_eq (tgt := 68) hx hb dX5_state_61 (by decide) (fun c3 => ?_) (fun c3 => ?_)
              · skip
                refine lv_iconst (v := nI 1) hx hb dX5_state_68 (by decide) ?_
                refine lv_iadd hx hb dX5_state_69 ?_
                refine k_t1 (show (nI (cf0 TK k)) + (nI 1) = nI (cf0 TK k + 1) from nI_add _ _) ?_
                refine lv_istore_n (lv' := [(3, .int (nI (cf0 TK k + 1))), (0, .ref mo), (1, .int 2), (2, .int (nI (cntN TH 8))), (4, .int (nI k))]) hx hb dX5_state_70 rfl hl (by decide) rfl (fun ls hl => ?_)
                refine lv_iinc (v := nI (k + 1)) (lv' := [(4, .int (nI (k + 1))), (3, .int (nI (cf0 TK k + 1))), (0, .ref mo), (1, .int 2), (2, .int (nI (cntN TH 8)))]) hx hb dX5_state_71 hl (k := 4) rfl (nI_add k 1) (by decide) rfl (fun ls hl => ?_)
                refine lv_goto (tgt := 46) hx hb dX5_state_74 (by decide) ?_
                rw [show cf0 TK k + 1 = cf0 TK (k + 1) by simp [cf0, c3]] at hl
                exact ihLb (k + 1)  (by omega) (by omega)  _ _ _ hP hD hS (lv_sub hl [2, 3, 4, 1, 0] rfl)
              · skip
                refine lv_iconst (v := nI 0) hx hb dX5_state_64 (by decide) ?_
                refine lv_goto (tgt := 69) hx hb dX5_state_65 (by decide) ?_
                refine lv_iadd hx hb dX5_state_69 ?_
                refine k_t1 (show (nI (cf0 TK k)) + (nI 0) = nI (cf0 TK k + 0) from nI_add _ _) ?_
                refine lv_istore_n (lv' := [(3, .int (nI (cf0 TK k + 0))), (0, .ref mo), (1, .int 2), (2, .int (nI (cntN TH 8))), (4, .int (nI k))]) hx hb dX5_state_70 rfl hl (by decide) rfl (fun ls hl => ?_)
                refine lv_iinc (v := nI (k + 1)) (lv' := [(4, .int (nI (k + 1))), (3, .int (nI (cf0 TK k + 0))), (0, .ref mo), (1, .int 2), (2, .int (nI (cntN TH 8)))]) hx hb dX5_state_71 hl (k := 4) rfl (nI_add k 1) (by decide) rfl (fun ls hl => ?_)
                refine lv_goto (tgt := 46) hx hb dX5_state_74 (by decide) ?_
                rw [show cf0 TK k + 0 = cf0 TK (k + 1) by simp [cf0, c3]] at hl
                exact ihLb (k + 1)  (by omega) (by omega)  _ _ _ hP hD hS (lv_sub hl [2, 3, 4, 1, 0] rfl)
        exact Lb (64 + 1) 0  (by omega) (by omega)  _ _ _ hP hD hS (lv_sub hl [1, 2, 3, 4, 0] rfl)
      · skip
        have hcl := cntN_le TH k
        refine lv_iload_n hx hb dX5_state_19 rfl (lv_at hl 2 rfl) ?_
        refine lv_aload_n hx hb dX5_state_20 rfl (lv_at hl 0 rfl) ?_
        refine va_get (D := D) (ci := 5) (v := .ref th) (C := RX5) (T := TX5) (N := 20) hx hb hts (by decide +kernel) hown hK hP 0 rfl rfl 14 (by decide) (hts (.fieldLink RX5 38 "VeiledFilesModel" "there" "[Z") (by decide +kernel)) (fun _ h9 => h9) rfl dX5_state_21 ?_
        refine lv_iload hx hb dX5_state_24 (lv_at hl 4 rfl) ?_
        refine k_zald hx hb hK hP 10 1 rfl rfl k (by omega) (by omega) (v := TH k) (rfl) dX5_state_26 ?_
        refine lv_if_eq (tgt := 34) hx hb dX5_state_27 (by decide) (fun c3 => ?_) (fun c3 => ?_)
        · skip
          refine lv_iconst (v := nI 0) hx hb dX5_state_34 (by decide) ?_
          refine lv_iadd hx hb dX5_state_35 ?_
          refine k_t1 (show (nI (cntN TH k)) + (nI 0) = nI (cntN TH k + 0) from nI_add _ _) ?_
          refine lv_istore_n (lv' := [(2, .int (nI (cntN TH k + 0))), (0, .ref mo), (1, .int 2), (3, .int (nI 0)), (4, .int (nI k))]) hx hb dX5_state_36 rfl hl (by decide) rfl (fun ls hl => ?_)
          refine lv_iinc (v := nI (k + 1)) (lv' := [(4, .int (nI (k + 1))), (2, .int (nI (cntN TH k + 0))), (0, .ref mo), (1, .int 2), (3, .int (nI 0))]) hx hb dX5_state_37 hl (k := 4) rfl (nI_add k 1) (by decide) rfl (fun ls hl => ?_)
          refine lv_goto (tgt := 12) hx hb dX5_state_40 (by decide) ?_
          rw [show cntN TH k + 0 = cntN TH (k + 1) by simp [cntN, c3]] at hl
          exact ihLa (k + 1)  (by omega) (by omega)  _ _ _ hP hD hS (lv_sub hl [2, 3, 1, 4, 0] rfl)
        · skip
          refine lv_iconst (v := nI 1) hx hb dX5_state_30 (by decide) ?_
          refine lv_goto (tgt := 35) hx hb dX5_state_31 (by decide) ?_
          refine lv_iadd hx hb dX5_state_35 ?_
          refine k_t1 (show (nI (cntN TH k)) + (nI 1) = nI (cntN TH k + 1) from nI_add _ _) ?_
          refine lv_istore_n (lv' := [(2, .int (nI (cntN TH k + 1))), (0, .ref mo), (1, .int 2), (3, .int (nI 0)), (4, .int (nI k))]) hx hb dX5_state_36 rfl hl (by decide) rfl (fun ls hl => ?_)
          refine lv_iinc (v := nI (k + 1)) (lv' := [(4, .int (nI (k + 1))), (2, .int (nI (cntN TH k + 1))), (0, .ref mo), (1, .int 2), (3, .int (nI 0))]) hx hb dX5_state_37 hl (k := 4) rfl (nI_add k 1) (by decide) rfl (fun ls hl => ?_)
          refine lv_goto (tgt := 12) hx hb dX5_state_40 (by decide) ?_
          rw [show cntN TH k + 1 = cntN TH (k + 1) by simp [cntN, c3]] at hl
          exact ihLa (k + 1)  (by omega) (by omega)  _ _ _ hP hD hS (lv_sub hl [2, 3, 1, 4, 0] rfl)
  exact La (8 + 1) 0  (by omega) (by omega)  _ _ _ hP hD hS (lv_sub hl [3, 4, 2, 1, 0] rfl)

set_option maxHeartbeats 800000 in
set_option maxRecDepth 100000 in
theorem c_m_state3 (l : Launch) (D : va_G) (cI cZ cJ : ClassId) (mo : Nat) (se : Nat) (co : Nat) (ou : Nat) (le : Nat) (wo : Nat) (ma : Nat) (pl : Nat) (tl : Nat) (tm : Nat) (th : Nat) (na : Nat) (si : Nat) (pa : Nat) (ta : Nat) (thr : Int32) (G : Int32) (ky : Int32) (DE : Int32) (cn : Nat) (got : Int32) (S0 : Nat → Nat → Int32) (C0 : Nat → Int32) (O0 : Nat → Int32) (L0 : Nat → Int32) (W0 : Nat → Nat → Int32) (S1 : Nat → Nat → Int32) (C1 : Nat → Int32) (O1 : Nat → Int32) (L1 : Nat → Int32) (W1 : Nat → Nat → Int32) (MP : Nat → Nat) (PL : Nat → Int32) (ML : Nat → Int32) (DL : Nat → Int32) (TH : Nat → Int32) (NM : Nat → Int64) (SZ : Nat → Nat) (PT : Nat → Nat) (TK : Nat → Int32)   : KI l yX5_state wsX5_state ({ frames := 0, cells := 0, slots := 0, locals := 0 }) D (kty cI cZ cJ) [.ref mo, .int 3] (wM cI cZ cJ mo se co ou le wo ma pl tl tm th na si pa ta thr G ky DE cn got S0 C0 O0 L0 W0 S1 C1 O1 L1 W1 MP PL ML DL TH NM SZ PT TK) (fun r (_ : Unit) => r = if DE = 0 then 0 else 1) (fun _ : Unit => (wM cI cZ cJ mo se co ou le wo ma pl tl tm th na si pa ta 0 G ky DE cn got S0 C0 O0 L0 W0 S1 C1 O1 L1 W1 MP PL ML DL TH NM SZ PT TK)) 0 0 := by
  refine k_headI (cc := cX5_state) (maxL := 5) (ret := (some .int)) (by decide) rfl (Nat.le_of_ble_eq_true rfl) ?_
  intro p e s m below meth c A ls args Q hx hb hr hml hts hown hlk hnm hA hK hP hD hS hl hQ
  have hl : lv_has ls 5 [(0, .ref mo), (1, .int 3)] := hl
  refine lv_aload_n hx hb dX5_state_0 rfl (lv_at hl 0 rfl) ?_
  refine lv_iconst (v := nI 0) hx hb dX5_state_1 (by decide) ?_
  refine va_put (D := D) (ci := 5) (v := .int (nI 0)) (ty := .int) (C := RX5) (T := TX5) (N := 20) hx hb hts (by decide +kernel) tyX5 tyX5_ok nmX5 hown hK hP hD hS 0 rfl rfl 0 (by decide) (hts (.fieldLink RX5 58 "VeiledFilesModel" "thrown" "I") (by decide +kernel)) (fun _ h9 => h9) rfl (by decide +kernel) rfl rfl (Nat.le_of_ble_eq_true rfl) dX5_state_2 (fun H locs hP hD hS => ?_)
  have hP : va_P D vwCl (wM cI cZ cJ mo se co ou le wo ma pl tl tm th na si pa ta 0 G ky DE cn got S0 C0 O0 L0 W0 S1 C1 O1 L1 W1 MP PL ML DL TH NM SZ PT TK) _ := hP
  have hD : va_D A (wM cI cZ cJ mo se co ou le wo ma pl tl tm th na si pa ta 0 G ky DE cn got S0 C0 O0 L0 W0 S1 C1 O1 L1 W1 MP PL ML DL TH NM SZ PT TK) := hD
  refine lv_iconst (v := nI 0) hx hb dX5_state_5 (by decide) ?_
  refine lv_istore_n (lv' := [(2, .int (nI 0)), (0, .ref mo), (1, .int 3)]) hx hb dX5_state_6 rfl hl (by decide) rfl (fun ls hl => ?_)
  refine lv_iconst (v := nI 0) hx hb dX5_state_7 (by decide) ?_
  refine lv_istore_n (lv' := [(3, .int (nI 0)), (2, .int (nI 0)), (0, .ref mo), (1, .int 3)]) hx hb dX5_state_8 rfl hl (by decide) rfl (fun ls hl => ?_)
  refine lv_iconst (v := nI 0) hx hb dX5_state_9 (by decide) ?_
  refine lv_istore (lv' := [(4, .int (nI 0)), (3, .int (nI 0)), (2, .int (nI 0)), (0, .ref mo), (1, .int 3)]) hx hb dX5_state_10 hl (by decide) rfl (fun ls hl => ?_)
  have La : ∀ (nf k : Nat) (hvLa : k ≤ 8) (hFLa : 8 - k < nf) (H : Heap) (locs : List Loc) (ls : Array Slot), va_P D vwCl (wM cI cZ cJ mo se co ou le wo ma pl tl tm th na si pa ta 0 G ky DE cn got S0 C0 O0 L0 W0 S1 C1 O1 L1 W1 MP PL ML DL TH NM SZ PT TK) H → va_D A (wM cI cZ cJ mo se co ou le wo ma pl tl tm th na si pa ta 0 G ky DE cn got S0 C0 O0 L0 W0 S1 C1 O1 L1 W1 MP PL ML DL TH NM SZ PT TK) → va_S A s.heap H locs → lv_has ls 5 [(0, .ref mo), (1, .int 3), (2, .int (nI (cntN TH k))), (3, .int (nI 0)), (4, .int (nI k))] → W p l e ({ frames := 0, cells := 0, slots := 0, locals := 0 } : Room) s m args below meth c H locs 0 0 Q (F0 m 12 ls []) := by
    intro nf
    induction nf with
    | zero => intro k  hvLa hFLa; omega
    | succ nf ihLa =>
      intro k  hvLa hFLa  H locs ls hP hD hS hl
      refine lv_iload hx hb dX5_state_12 (lv_at hl 4 rfl) ?_
      refine lv_bipush (v := nI 8) hx hb dX5_state_14 (by decide) ?_
      refine k_icmp_ge (tgt := 43) hx hb (by omega) (by omega) dX5_state_16 (by decide) (fun c1 => ?_) (fun c1 => ?_)
      · skip
        obtain rfl : k = 8 := by omega
        refine lv_iconst (v := nI 0) hx hb dX5_state_43 (by decide) ?_
        refine lv_istore (lv' := [(4, .int (nI 0)), (0, .ref mo), (1, .int 3), (2, .int (nI (cntN TH 8))), (3, .int (nI 0))]) hx hb dX5_state_44 hl (by decide) rfl (fun ls hl => ?_)
        have Lb : ∀ (nf k : Nat) (hvLb : k ≤ 64) (hFLb : 64 - k < nf) (H : Heap) (locs : List Loc) (ls : Array Slot), va_P D vwCl (wM cI cZ cJ mo se co ou le wo ma pl tl tm th na si pa ta 0 G ky DE cn got S0 C0 O0 L0 W0 S1 C1 O1 L1 W1 MP PL ML DL TH NM SZ PT TK) H → va_D A (wM cI cZ cJ mo se co ou le wo ma pl tl tm th na si pa ta 0 G ky DE cn got S0 C0 O0 L0 W0 S1 C1 O1 L1 W1 MP PL ML DL TH NM SZ PT TK) → va_S A s.heap H locs → lv_has ls 5 [(0, .ref mo), (1, .int 3), (2, .int (nI (cntN TH 8))), (3, .int (nI (cf0 TK k))), (4, .int (nI k))] → W p l e ({ frames := 0, cells := 0, slots := 0, locals := 0 } : Room) s m args below meth c H locs 0 0 Q (F0 m 46 ls []) := by
          intro nf
          induction nf with
          | zero => intro k  hvLb hFLb; omega
          | succ nf ihLb =>
            intro k  hvLb hFLb  H locs ls hP hD hS hl
            refine lv_iload hx hb dX5_state_46 (lv_at hl 4 rfl) ?_
            refine lv_bipush (v := nI 64) hx hb dX5_state_48 (by decide) ?_
            refine k_icmp_ge (tgt := 77) hx hb (by omega) (by omega) dX5_state_50 (by decide) (fun c2 => ?_) (fun c2 => ?_)
            · skip
              obtain rfl : k = 64 := by omega
              refine lv_iload_n hx hb dX5_state_77 rfl (lv_at hl 1 rfl) ?_
              refine lv_tableIn (off := 39) (tgt := 117) hx hb dX5_state_78 (by decide) (by decide) (by decide) (by decide) ?_
              refine lv_aload_n hx hb dX5_state_117 rfl (lv_at hl 0 rfl) ?_
              refine va_get (D := D) (ci := 5) (v := .int DE) (C := RX5) (T := TX5) (N := 20) hx hb hts (by decide +kernel) hown hK hP 0 rfl rfl 3 (by decide) (hts (.fieldLink RX5 131 "VeiledFilesModel" "dead" "Z") (by decide +kernel)) (fun _ h9 => h9) rfl dX5_state_118 ?_
              refine lv_if_eq (tgt := 128) hx hb dX5_state_121 (by decide) (fun c9 => ?_) (fun c9 => ?_)
              · skip
                refine lv_iconst (v := nI 0) hx hb dX5_state_128 (by decide) ?_
                exact k_reti () hx hb hr hK hS hlk dX5_state_129 hP hD (by rw [if_pos c9]; rfl) hQ
              · skip
                refine lv_iconst (v := nI 1) hx hb dX5_state_124 (by decide) ?_
                refine lv_goto (tgt := 129) hx hb dX5_state_125 (by decide) ?_
                exact k_reti () hx hb hr hK hS hlk dX5_state_129 hP hD (by rw [if_neg c9]; rfl) hQ
            · skip
              have hcl := cf0_le TK k
              refine lv_iload_n hx hb dX5_state_53 rfl (lv_at hl 3 rfl) ?_
              refine lv_aload_n hx hb dX5_state_54 rfl (lv_at hl 0 rfl) ?_
              refine va_get (D := D) (ci := 5) (v := .ref ta) (C := RX5) (T := TX5) (N := 20) hx hb hts (by decide +kernel) hown hK hP 0 rfl rfl 18 (by decide) (hts (.fieldLink RX5 51 "VeiledFilesModel" "taken" "[Z") (by decide +kernel)) (fun _ h9 => h9) rfl dX5_state_55 ?_
              refine lv_iload hx hb dX5_state_58 (lv_at hl 4 rfl) ?_
              refine k_zald hx hb hK hP 14 1 rfl rfl k (by omega) (by omega) (v := TK k) (rfl) dX5_state_60 ?_
              refine lv_if_eq (tgt := 68) hx hb dX5_state_61 (by decide) (fun c3 => ?_) (fun c3 => ?_)
              · skip
                refine lv_iconst (v := nI 1) hx hb dX5_state_68 (by decide) ?_
                refine lv_iadd hx hb dX5_state_69 ?_
                refine k_t1 (show (nI (cf0 TK k)) + (nI 1) = nI (cf0 TK k + 1) from nI_add _ _) ?_
                refine lv_istore_n (lv' := [(3, .int (nI (cf0 TK k + 1))), (0, .ref mo), (1, .int 3), (2, .int (nI (cntN TH 8))), (4, .int (nI k))]) hx hb dX5_state_70 rfl hl (by decide) rfl (fun ls hl => ?_)
                refine lv_iinc (v := nI (k + 1)) (lv' := [(4, .int (nI (k + 1))), (3, .int (nI (cf0 TK k + 1))), (0, .ref mo), (1, .int 3), (2, .int (nI (cntN TH 8)))]) hx hb dX5_state_71 hl (k := 4) rfl (nI_add k 1) (by decide) rfl (fun ls hl => ?_)
                refine lv_goto (tgt := 46) hx hb dX5_state_74 (by decide) ?_
                rw [show cf0 TK k + 1 = cf0 TK (k + 1) by simp [cf0, c3]] at hl
                exact ihLb (k + 1)  (by omega) (by omega)  _ _ _ hP hD hS (lv_sub hl [2, 3, 4, 1, 0] rfl)
              · skip
                refine lv_iconst (v := nI 0) hx hb dX5_state_64 (by decide) ?_
                refine lv_goto (tgt := 69) hx hb dX5_state_65 (by decide) ?_
                refine lv_iadd hx hb dX5_state_69 ?_
                refine k_t1 (show (nI (cf0 TK k)) + (nI 0) = nI (cf0 TK k + 0) from nI_add _ _) ?_
                refine lv_istore_n (lv' := [(3, .int (nI (cf0 TK k + 0))), (0, .ref mo), (1, .int 3), (2, .int (nI (cntN TH 8))), (4, .int (nI k))]) hx hb dX5_state_70 rfl hl (by decide) rfl (fun ls hl => ?_)
                refine lv_iinc (v := nI (k + 1)) (lv' := [(4, .int (nI (k + 1))), (3, .int (nI (cf0 TK k + 0))), (0, .ref mo), (1, .int 3), (2, .int (nI (cntN TH 8)))]) hx hb dX5_state_71 hl (k := 4) rfl (nI_add k 1) (by decide) rfl (fun ls hl => ?_)
                refine lv_goto (tgt := 46) hx hb dX5_state_74 (by decide) ?_
                rw [show cf0 TK k + 0 = cf0 TK (k + 1) by simp [cf0, c3]] at hl
                exact ihLb (k + 1)  (by omega) (by omega)  _ _ _ hP hD hS (lv_sub hl [2, 3, 4, 1, 0] rfl)
        exact Lb (64 + 1) 0  (by omega) (by omega)  _ _ _ hP hD hS (lv_sub hl [1, 2, 3, 4, 0] rfl)
      · skip
        have hcl := cntN_le TH k
        refine lv_iload_n hx hb dX5_state_19 rfl (lv_at hl 2 rfl) ?_
        refine lv_aload_n hx hb dX5_state_20 rfl (lv_at hl 0 rfl) ?_
        refine va_get (D := D) (ci := 5) (v := .ref th) (C := RX5) (T := TX5) (N := 20) hx hb hts (by decide +kernel) hown hK hP 0 rfl rfl 14 (by decide) (hts (.fieldLink RX5 38 "VeiledFilesModel" "there" "[Z") (by decide +kernel)) (fun _ h9 => h9) rfl dX5_state_21 ?_
        refine lv_iload hx hb dX5_state_24 (lv_at hl 4 rfl) ?_
        refine k_zald hx hb hK hP 10 1 rfl rfl k (by omega) (by omega) (v := TH k) (rfl) dX5_state_26 ?_
        refine lv_if_eq (tgt := 34) hx hb dX5_state_27 (by decide) (fun c3 => ?_) (fun c3 => ?_)
        · skip
          refine lv_iconst (v := nI 0) hx hb dX5_state_34 (by decide) ?_
          refine lv_iadd hx hb dX5_state_35 ?_
          refine k_t1 (show (nI (cntN TH k)) + (nI 0) = nI (cntN TH k + 0) from nI_add _ _) ?_
          refine lv_istore_n (lv' := [(2, .int (nI (cntN TH k + 0))), (0, .ref mo), (1, .int 3), (3, .int (nI 0)), (4, .int (nI k))]) hx hb dX5_state_36 rfl hl (by decide) rfl (fun ls hl => ?_)
          refine lv_iinc (v := nI (k + 1)) (lv' := [(4, .int (nI (k + 1))), (2, .int (nI (cntN TH k + 0))), (0, .ref mo), (1, .int 3), (3, .int (nI 0))]) hx hb dX5_state_37 hl (k := 4) rfl (nI_add k 1) (by decide) rfl (fun ls hl => ?_)
          refine lv_goto (tgt := 12) hx hb dX5_state_40 (by decide) ?_
          rw [show cntN TH k + 0 = cntN TH (k + 1) by simp [cntN, c3]] at hl
          exact ihLa (k + 1)  (by omega) (by omega)  _ _ _ hP hD hS (lv_sub hl [2, 3, 1, 4, 0] rfl)
        · skip
          refine lv_iconst (v := nI 1) hx hb dX5_state_30 (by decide) ?_
          refine lv_goto (tgt := 35) hx hb dX5_state_31 (by decide) ?_
          refine lv_iadd hx hb dX5_state_35 ?_
          refine k_t1 (show (nI (cntN TH k)) + (nI 1) = nI (cntN TH k + 1) from nI_add _ _) ?_
          refine lv_istore_n (lv' := [(2, .int (nI (cntN TH k + 1))), (0, .ref mo), (1, .int 3), (3, .int (nI 0)), (4, .int (nI k))]) hx hb dX5_state_36 rfl hl (by decide) rfl (fun ls hl => ?_)
          refine lv_iinc (v := nI (k + 1)) (lv' := [(4, .int (nI (k + 1))), (2, .int (nI (cntN TH k + 1))), (0, .ref mo), (1, .int 3), (3, .int (nI 0))]) hx hb dX5_state_37 hl (k := 4) rfl (nI_add k 1) (by decide) rfl (fun ls hl => ?_)
          refine lv_goto (tgt := 12) hx hb dX5_state_40 (by decide) ?_
          rw [show cntN TH k + 1 = cntN TH (k + 1) by simp [cntN, c3]] at hl
          exact ihLa (k + 1)  (by omega) (by omega)  _ _ _ hP hD hS (lv_sub hl [2, 3, 1, 4, 0] rfl)
  exact La (8 + 1) 0  (by omega) (by omega)  _ _ _ hP hD hS (lv_sub hl [3, 4, 2, 1, 0] rfl)

set_option maxHeartbeats 800000 in
set_option maxRecDepth 100000 in
theorem c_m_stateN (l : Launch) (D : va_G) (cI cZ cJ : ClassId) (mo : Nat) (se : Nat) (co : Nat) (ou : Nat) (le : Nat) (wo : Nat) (ma : Nat) (pl : Nat) (tl : Nat) (tm : Nat) (th : Nat) (na : Nat) (si : Nat) (pa : Nat) (ta : Nat) (thr : Int32) (G : Int32) (ky : Int32) (DE : Int32) (cn : Nat) (got : Int32) (S0 : Nat → Nat → Int32) (C0 : Nat → Int32) (O0 : Nat → Int32) (L0 : Nat → Int32) (W0 : Nat → Nat → Int32) (S1 : Nat → Nat → Int32) (C1 : Nat → Int32) (O1 : Nat → Int32) (L1 : Nat → Int32) (W1 : Nat → Nat → Int32) (MP : Nat → Nat) (PL : Nat → Int32) (ML : Nat → Int32) (DL : Nat → Int32) (TH : Nat → Int32) (NM : Nat → Int64) (SZ : Nat → Nat) (PT : Nat → Nat) (TK : Nat → Int32) (x : Int32) (hx0 : x.toInt < 0 ∨ 3 < x.toInt) : KI l yX5_state wsX5_state ({ frames := 0, cells := 0, slots := 0, locals := 0 }) D (kty cI cZ cJ) [.ref mo, .int x] (wM cI cZ cJ mo se co ou le wo ma pl tl tm th na si pa ta thr G ky DE cn got S0 C0 O0 L0 W0 S1 C1 O1 L1 W1 MP PL ML DL TH NM SZ PT TK) (fun r (_ : Unit) => r = -1) (fun _ : Unit => (wM cI cZ cJ mo se co ou le wo ma pl tl tm th na si pa ta 0 G ky DE cn got S0 C0 O0 L0 W0 S1 C1 O1 L1 W1 MP PL ML DL TH NM SZ PT TK)) 0 0 := by
  refine k_headI (cc := cX5_state) (maxL := 5) (ret := (some .int)) (by decide) rfl (Nat.le_of_ble_eq_true rfl) ?_
  intro p e s m below meth c A ls args Q hx hb hr hml hts hown hlk hnm hA hK hP hD hS hl hQ
  have hl : lv_has ls 5 [(0, .ref mo), (1, .int x)] := hl
  refine lv_aload_n hx hb dX5_state_0 rfl (lv_at hl 0 rfl) ?_
  refine lv_iconst (v := nI 0) hx hb dX5_state_1 (by decide) ?_
  refine va_put (D := D) (ci := 5) (v := .int (nI 0)) (ty := .int) (C := RX5) (T := TX5) (N := 20) hx hb hts (by decide +kernel) tyX5 tyX5_ok nmX5 hown hK hP hD hS 0 rfl rfl 0 (by decide) (hts (.fieldLink RX5 58 "VeiledFilesModel" "thrown" "I") (by decide +kernel)) (fun _ h9 => h9) rfl (by decide +kernel) rfl rfl (Nat.le_of_ble_eq_true rfl) dX5_state_2 (fun H locs hP hD hS => ?_)
  have hP : va_P D vwCl (wM cI cZ cJ mo se co ou le wo ma pl tl tm th na si pa ta 0 G ky DE cn got S0 C0 O0 L0 W0 S1 C1 O1 L1 W1 MP PL ML DL TH NM SZ PT TK) _ := hP
  have hD : va_D A (wM cI cZ cJ mo se co ou le wo ma pl tl tm th na si pa ta 0 G ky DE cn got S0 C0 O0 L0 W0 S1 C1 O1 L1 W1 MP PL ML DL TH NM SZ PT TK) := hD
  refine lv_iconst (v := nI 0) hx hb dX5_state_5 (by decide) ?_
  refine lv_istore_n (lv' := [(2, .int (nI 0)), (0, .ref mo), (1, .int x)]) hx hb dX5_state_6 rfl hl (by decide) rfl (fun ls hl => ?_)
  refine lv_iconst (v := nI 0) hx hb dX5_state_7 (by decide) ?_
  refine lv_istore_n (lv' := [(3, .int (nI 0)), (2, .int (nI 0)), (0, .ref mo), (1, .int x)]) hx hb dX5_state_8 rfl hl (by decide) rfl (fun ls hl => ?_)
  refine lv_iconst (v := nI 0) hx hb dX5_state_9 (by decide) ?_
  refine lv_istore (lv' := [(4, .int (nI 0)), (3, .int (nI 0)), (2, .int (nI 0)), (0, .ref mo), (1, .int x)]) hx hb dX5_state_10 hl (by decide) rfl (fun ls hl => ?_)
  have La : ∀ (nf k : Nat) (hvLa : k ≤ 8) (hFLa : 8 - k < nf) (H : Heap) (locs : List Loc) (ls : Array Slot), va_P D vwCl (wM cI cZ cJ mo se co ou le wo ma pl tl tm th na si pa ta 0 G ky DE cn got S0 C0 O0 L0 W0 S1 C1 O1 L1 W1 MP PL ML DL TH NM SZ PT TK) H → va_D A (wM cI cZ cJ mo se co ou le wo ma pl tl tm th na si pa ta 0 G ky DE cn got S0 C0 O0 L0 W0 S1 C1 O1 L1 W1 MP PL ML DL TH NM SZ PT TK) → va_S A s.heap H locs → lv_has ls 5 [(0, .ref mo), (1, .int x), (2, .int (nI (cntN TH k))), (3, .int (nI 0)), (4, .int (nI k))] → W p l e ({ frames := 0, cells := 0, slots := 0, locals := 0 } : Room) s m args below meth c H locs 0 0 Q (F0 m 12 ls []) := by
    intro nf
    induction nf with
    | zero => intro k  hvLa hFLa; omega
    | succ nf ihLa =>
      intro k  hvLa hFLa  H locs ls hP hD hS hl
      refine lv_iload hx hb dX5_state_12 (lv_at hl 4 rfl) ?_
      refine lv_bipush (v := nI 8) hx hb dX5_state_14 (by decide) ?_
      refine k_icmp_ge (tgt := 43) hx hb (by omega) (by omega) dX5_state_16 (by decide) (fun c1 => ?_) (fun c1 => ?_)
      · skip
        obtain rfl : k = 8 := by omega
        refine lv_iconst (v := nI 0) hx hb dX5_state_43 (by decide) ?_
        refine lv_istore (lv' := [(4, .int (nI 0)), (0, .ref mo), (1, .int x), (2, .int (nI (cntN TH 8))), (3, .int (nI 0))]) hx hb dX5_state_44 hl (by decide) rfl (fun ls hl => ?_)
        have Lb : ∀ (nf k : Nat) (hvLb : k ≤ 64) (hFLb : 64 - k < nf) (H : Heap) (locs : List Loc) (ls : Array Slot), va_P D vwCl (wM cI cZ cJ mo se co ou le wo ma pl tl tm th na si pa ta 0 G ky DE cn got S0 C0 O0 L0 W0 S1 C1 O1 L1 W1 MP PL ML DL TH NM SZ PT TK) H → va_D A (wM cI cZ cJ mo se co ou le wo ma pl tl tm th na si pa ta 0 G ky DE cn got S0 C0 O0 L0 W0 S1 C1 O1 L1 W1 MP PL ML DL TH NM SZ PT TK) → va_S A s.heap H locs → lv_has ls 5 [(0, .ref mo), (1, .int x), (2, .int (nI (cntN TH 8))), (3, .int (nI (cf0 TK k))), (4, .int (nI k))] → W p l e ({ frames := 0, cells := 0, slots := 0, locals := 0 } : Room) s m args below meth c H locs 0 0 Q (F0 m 46 ls []) := by
          intro nf
          induction nf with
          | zero => intro k  hvLb hFLb; omega
          | succ nf ihLb =>
            intro k  hvLb hFLb  H locs ls hP hD hS hl
            refine lv_iload hx hb dX5_state_46 (lv_at hl 4 rfl) ?_
            refine lv_bipush (v := nI 64) hx hb dX5_state_48 (by decide) ?_
            refine k_icmp_ge (tgt := 77) hx hb (by omega) (by omega) dX5_state_50 (by decide) (fun c2 => ?_) (fun c2 => ?_)
            · skip
              obtain rfl : k = 64 := by omega
              refine lv_iload_n hx hb dX5_state_77 rfl (lv_at hl 1 rfl) ?_
              refine lv_tableOut (tgt := 130) hx hb dX5_state_78 hx0 (by decide) ?_
              refine lv_iconst (v := -1) hx hb dX5_state_130 (by decide) ?_
              exact k_reti () hx hb hr hK hS hlk dX5_state_131 hP hD (by exact rfl) hQ
            · skip
              have hcl := cf0_le TK k
              refine lv_iload_n hx hb dX5_state_53 rfl (lv_at hl 3 rfl) ?_
              refine lv_aload_n hx hb dX5_state_54 rfl (lv_at hl 0 rfl) ?_
              refine va_get (D := D) (ci := 5) (v := .ref ta) (C := RX5) (T := TX5) (N := 20) hx hb hts (by decide +kernel) hown hK hP 0 rfl rfl 18 (by decide) (hts (.fieldLink RX5 51 "VeiledFilesModel" "taken" "[Z") (by decide +kernel)) (fun _ h9 => h9) rfl dX5_state_55 ?_
              refine lv_iload hx hb dX5_state_58 (lv_at hl 4 rfl) ?_
              refine k_zald hx hb hK hP 14 1 rfl rfl k (by omega) (by omega) (v := TK k) (rfl) dX5_state_60 ?_
              refine lv_if_eq (tgt := 68) hx hb dX5_state_61 (by decide) (fun c3 => ?_) (fun c3 => ?_)
              · skip
                refine lv_iconst (v := nI 1) hx hb dX5_state_68 (by decide) ?_
                refine lv_iadd hx hb dX5_state_69 ?_
                refine k_t1 (show (nI (cf0 TK k)) + (nI 1) = nI (cf0 TK k + 1) from nI_add _ _) ?_
                refine lv_istore_n (lv' := [(3, .int (nI (cf0 TK k + 1))), (0, .ref mo), (1, .int x), (2, .int (nI (cntN TH 8))), (4, .int (nI k))]) hx hb dX5_state_70 rfl hl (by decide) rfl (fun ls hl => ?_)
                refine lv_iinc (v := nI (k + 1)) (lv' := [(4, .int (nI (k + 1))), (3, .int (nI (cf0 TK k + 1))), (0, .ref mo), (1, .int x), (2, .int (nI (cntN TH 8)))]) hx hb dX5_state_71 hl (k := 4) rfl (nI_add k 1) (by decide) rfl (fun ls hl => ?_)
                refine lv_goto (tgt := 46) hx hb dX5_state_74 (by decide) ?_
                rw [show cf0 TK k + 1 = cf0 TK (k + 1) by simp [cf0, c3]] at hl
                exact ihLb (k + 1)  (by omega) (by omega)  _ _ _ hP hD hS (lv_sub hl [2, 3, 4, 1, 0] rfl)
              · skip
                refine lv_iconst (v := nI 0) hx hb dX5_state_64 (by decide) ?_
                refine lv_goto (tgt := 69) hx hb dX5_state_65 (by decide) ?_
                refine lv_iadd hx hb dX5_state_69 ?_
                refine k_t1 (show (nI (cf0 TK k)) + (nI 0) = nI (cf0 TK k + 0) from nI_add _ _) ?_
                refine lv_istore_n (lv' := [(3, .int (nI (cf0 TK k + 0))), (0, .ref mo), (1, .int x), (2, .int (nI (cntN TH 8))), (4, .int (nI k))]) hx hb dX5_state_70 rfl hl (by decide) rfl (fun ls hl => ?_)
                refine lv_iinc (v := nI (k + 1)) (lv' := [(4, .int (nI (k + 1))), (3, .int (nI (cf0 TK k + 0))), (0, .ref mo), (1, .int x), (2, .int (nI (cntN TH 8)))]) hx hb dX5_state_71 hl (k := 4) rfl (nI_add k 1) (by decide) rfl (fun ls hl => ?_)
                refine lv_goto (tgt := 46) hx hb dX5_state_74 (by decide) ?_
                rw [show cf0 TK k + 0 = cf0 TK (k + 1) by simp [cf0, c3]] at hl
                exact ihLb (k + 1)  (by omega) (by omega)  _ _ _ hP hD hS (lv_sub hl [2, 3, 4, 1, 0] rfl)
        exact Lb (64 + 1) 0  (by omega) (by omega)  _ _ _ hP hD hS (lv_sub hl [1, 2, 3, 4, 0] rfl)
      · skip
        have hcl := cntN_le TH k
        refine lv_iload_n hx hb dX5_state_19 rfl (lv_at hl 2 rfl) ?_
        refine lv_aload_n hx hb dX5_state_20 rfl (lv_at hl 0 rfl) ?_
        refine va_get (D := D) (ci := 5) (v := .ref th) (C := RX5) (T := TX5) (N := 20) hx hb hts (by decide +kernel) hown hK hP 0 rfl rfl 14 (by decide) (hts (.fieldLink RX5 38 "VeiledFilesModel" "there" "[Z") (by decide +kernel)) (fun _ h9 => h9) rfl dX5_state_21 ?_
        refine lv_iload hx hb dX5_state_24 (lv_at hl 4 rfl) ?_
        refine k_zald hx hb hK hP 10 1 rfl rfl k (by omega) (by omega) (v := TH k) (rfl) dX5_state_26 ?_
        refine lv_if_eq (tgt := 34) hx hb dX5_state_27 (by decide) (fun c3 => ?_) (fun c3 => ?_)
        · skip
          refine lv_iconst (v := nI 0) hx hb dX5_state_34 (by decide) ?_
          refine lv_iadd hx hb dX5_state_35 ?_
          refine k_t1 (show (nI (cntN TH k)) + (nI 0) = nI (cntN TH k + 0) from nI_add _ _) ?_
          refine lv_istore_n (lv' := [(2, .int (nI (cntN TH k + 0))), (0, .ref mo), (1, .int x), (3, .int (nI 0)), (4, .int (nI k))]) hx hb dX5_state_36 rfl hl (by decide) rfl (fun ls hl => ?_)
          refine lv_iinc (v := nI (k + 1)) (lv' := [(4, .int (nI (k + 1))), (2, .int (nI (cntN TH k + 0))), (0, .ref mo), (1, .int x), (3, .int (nI 0))]) hx hb dX5_state_37 hl (k := 4) rfl (nI_add k 1) (by decide) rfl (fun ls hl => ?_)
          refine lv_goto (tgt := 12) hx hb dX5_state_40 (by decide) ?_
          rw [show cntN TH k + 0 = cntN TH (k + 1) by simp [cntN, c3]] at hl
          exact ihLa (k + 1)  (by omega) (by omega)  _ _ _ hP hD hS (lv_sub hl [2, 3, 1, 4, 0] rfl)
        · skip
          refine lv_iconst (v := nI 1) hx hb dX5_state_30 (by decide) ?_
          refine lv_goto (tgt := 35) hx hb dX5_state_31 (by decide) ?_
          refine lv_iadd hx hb dX5_state_35 ?_
          refine k_t1 (show (nI (cntN TH k)) + (nI 1) = nI (cntN TH k + 1) from nI_add _ _) ?_
          refine lv_istore_n (lv' := [(2, .int (nI (cntN TH k + 1))), (0, .ref mo), (1, .int x), (3, .int (nI 0)), (4, .int (nI k))]) hx hb dX5_state_36 rfl hl (by decide) rfl (fun ls hl => ?_)
          refine lv_iinc (v := nI (k + 1)) (lv' := [(4, .int (nI (k + 1))), (2, .int (nI (cntN TH k + 1))), (0, .ref mo), (1, .int x), (3, .int (nI 0))]) hx hb dX5_state_37 hl (k := 4) rfl (nI_add k 1) (by decide) rfl (fun ls hl => ?_)
          refine lv_goto (tgt := 12) hx hb dX5_state_40 (by decide) ?_
          rw [show cntN TH k + 1 = cntN TH (k + 1) by simp [cntN, c3]] at hl
          exact ihLa (k + 1)  (by omega) (by omega)  _ _ _ hP hD hS (lv_sub hl [2, 3, 1, 4, 0] rfl)
  exact La (8 + 1) 0  (by omega) (by omega)  _ _ _ hP hD hS (lv_sub hl [3, 4, 2, 1, 0] rfl)

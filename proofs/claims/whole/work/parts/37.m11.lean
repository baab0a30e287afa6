theorem notF_live {TH : Nat → Int32} {f : Nat} (hf : f < 8) (h : notF TH (nI f)) : ¬ ¬ TH f = 0 := by
  rcases h with h | ⟨f2, hf2, he, ht⟩
  · rw [noB_nI hf (by decide)] at h; cases h
  · have e := (nI_eq (show f < 2 ^ 31 by omega) (show f2 < 2 ^ 31 by omega)).mp he
    subst e
    exact fun q => q ht
theorem live_eq {f f2 : Nat} (hf : f < 8) (hf2 : f2 < 8) (he : nI f = nI f2) : f2 = f := ((nI_eq (show f < 2 ^ 31 by omega) (show f2 < 2 ^ 31 by omega)).mp he).symm
set_option maxHeartbeats 800000 in
set_option maxRecDepth 100000 in
theorem c_m_idle_D (l : Launch) (D : va_G) (cI cZ cJ : ClassId) (mo : Nat) (se : Nat) (co : Nat) (ou : Nat) (le : Nat) (wo : Nat) (ma : Nat) (pl : Nat) (tl : Nat) (tm : Nat) (th : Nat) (na : Nat) (si : Nat) (pa : Nat) (ta : Nat) (thr : Int32) (G : Int32) (ky : Int32) (DE : Int32) (cn : Nat) (got : Int32) (S0 : Nat → Nat → Int32) (C0 : Nat → Int32) (O0 : Nat → Int32) (L0 : Nat → Int32) (W0 : Nat → Nat → Int32) (S1 : Nat → Nat → Int32) (C1 : Nat → Int32) (O1 : Nat → Int32) (L1 : Nat → Int32) (W1 : Nat → Nat → Int32) (MP : Nat → Nat) (PL : Nat → Int32) (ML : Nat → Int32) (DL : Nat → Int32) (TH : Nat → Int32) (NM : Nat → Int64) (SZ : Nat → Nat) (PT : Nat → Nat) (TK : Nat → Int32)  (hDE : ¬ DE = 0) : KV l yX5_idle wsX5_idle ({ frames := 0, cells := 0, slots := 0, locals := 0 }) D (kty cI cZ cJ) [.ref mo] (wM cI cZ cJ mo se co ou le wo ma pl tl tm th na si pa ta thr G ky DE cn got S0 C0 O0 L0 W0 S1 C1 O1 L1 W1 MP PL ML DL TH NM SZ PT TK) (fun (_ : Unit) => True) (fun _ : Unit => (wM cI cZ cJ mo se co ou le wo ma pl tl tm th na si pa ta 1 G ky DE cn got S0 C0 O0 L0 W0 S1 C1 O1 L1 W1 MP PL ML DL TH NM SZ PT TK)) 0 0 := by
  refine k_headV (cc := cX5_idle) (maxL := 2) (ret := none) (by decide) rfl (Nat.le_of_ble_eq_true rfl) ?_
  intro p e s m below meth c A ls args Q hx hb hr hml hts hown hlk hnm hA hK hP hD hS hl hQ
  have hl : lv_has ls 2 [(0, .ref mo)] := hl
  refine lv_aload_n hx hb dX5_idle_0 rfl (lv_at hl 0 rfl) ?_
  refine lv_aload_n hx hb dX5_idle_1 rfl (lv_at hl 0 rfl) ?_
  refine va_get (D := D) (ci := 5) (v := .int DE) (C := RX5) (T := TX5) (N := 20) hx hb hts (by decide +kernel) hown hK hP 0 rfl rfl 3 (by decide) (hts (.fieldLink RX5 131 "VeiledFilesModel" "dead" "Z") (by decide +kernel)) (fun _ h9 => h9) rfl dX5_idle_2 ?_
  refine lv_if_eq (tgt := 12) hx hb dX5_idle_5 (by decide) (fun c1 => ?_) (fun c1 => ?_)
  · skip
    exact absurd c1 hDE
  · skip
    refine lv_iconst (v := nI 1) hx hb dX5_idle_8 (by decide) ?_
    refine lv_goto (tgt := 13) hx hb dX5_idle_9 (by decide) ?_
    refine va_put (D := D) (ci := 5) (v := .int (nI 1)) (ty := .int) (C := RX5) (T := TX5) (N := 20) hx hb hts (by decide +kernel) tyX5 tyX5_ok nmX5 hown hK hP hD hS 0 rfl rfl 0 (by decide) (hts (.fieldLink RX5 58 "VeiledFilesModel" "thrown" "I") (by decide +kernel)) (fun _ h9 => h9) rfl (by decide +kernel) rfl rfl (Nat.le_of_ble_eq_true rfl) dX5_idle_13 (fun H locs hP hD hS => ?_)
    have hP : va_P D vwCl (wM cI cZ cJ mo se co ou le wo ma pl tl tm th na si pa ta 1 G ky DE cn got S0 C0 O0 L0 W0 S1 C1 O1 L1 W1 MP PL ML DL TH NM SZ PT TK) _ := hP
    have hD : va_D A (wM cI cZ cJ mo se co ou le wo ma pl tl tm th na si pa ta 1 G ky DE cn got S0 C0 O0 L0 W0 S1 C1 O1 L1 W1 MP PL ML DL TH NM SZ PT TK) := hD
    refine lv_aload_n hx hb dX5_idle_16 rfl (lv_at hl 0 rfl) ?_
    refine va_get (D := D) (ci := 5) (v := .int DE) (C := RX5) (T := TX5) (N := 20) hx hb hts (by decide +kernel) hown hK hP 0 rfl rfl 3 (by decide) (hts (.fieldLink RX5 131 "VeiledFilesModel" "dead" "Z") (by decide +kernel)) (fun _ h9 => h9) rfl dX5_idle_17 ?_
    refine lv_if_eq (tgt := 24) hx hb dX5_idle_20 (by decide) (fun c2 => ?_) (fun c2 => ?_)
    · skip
      exact absurd c2 hDE
    · skip
      exact k_retv () hx hb hr hK hS hlk dX5_idle_23 hP hD (trivial) hQ

set_option maxHeartbeats 800000 in
set_option maxRecDepth 100000 in
theorem c_m_idle_A (l : Launch) (D : va_G) (cI cZ cJ : ClassId) (mo : Nat) (se : Nat) (co : Nat) (ou : Nat) (le : Nat) (wo : Nat) (ma : Nat) (pl : Nat) (tl : Nat) (tm : Nat) (th : Nat) (na : Nat) (si : Nat) (pa : Nat) (ta : Nat) (thr : Int32) (G : Int32) (ky : Int32) (DE : Int32) (cn : Nat) (got : Int32) (S0 : Nat → Nat → Int32) (C0 : Nat → Int32) (O0 : Nat → Int32) (L0 : Nat → Int32) (W0 : Nat → Nat → Int32) (S1 : Nat → Nat → Int32) (C1 : Nat → Int32) (O1 : Nat → Int32) (L1 : Nat → Int32) (W1 : Nat → Nat → Int32) (MP : Nat → Nat) (PL : Nat → Int32) (ML : Nat → Int32) (DL : Nat → Int32) (TH : Nat → Int32) (NM : Nat → Int64) (SZ : Nat → Nat) (PT : Nat → Nat) (TK : Nat → Int32) (d l0 : Nat) (hDE : DE = 0) (hdd : d = drw 6 G) (hd : d < 64) (hMl : MP (d / 8) = l0) (hl4 : l0 < 4) (hc : cn < 100000) (j0 : Nat) (hj : j0 < 3) (hw : ∀ up, up < j0 → wholeB ky 0 C0 S0 (pathB 4 l0 up)) (hn : ¬ wholeB ky 0 C0 S0 (pathB 4 l0 j0)) : KV l yX5_idle wsX5_idle ({ frames := 5, cells := 0, slots := 0, locals := 127 }) D (kty cI cZ cJ) [.ref mo] (wM cI cZ cJ mo se co ou le wo ma pl tl tm th na si pa ta thr G ky DE cn got S0 C0 O0 L0 W0 S1 C1 O1 L1 W1 MP PL ML DL TH NM SZ PT TK) (fun (_ : Nat → Int32) => True) (fun u : Nat → Int32 => (wM cI cZ cJ mo se co ou le wo ma pl tl tm th na si pa ta 1 (dstep (dstep G)) ky 1 (cn + 1) got S0 C0 O0 L0 W0 S1 C1 O1 L1 W1 (upN MP (d / 8) (drw 2 (dstep G))) u (upd ML (cn % 64) (nI l0)) (upd DL (cn % 64) (-1)) TH NM SZ PT TK)) 0 0 := by
  refine k_headV (cc := cX5_idle) (maxL := 2) (ret := none) (by decide) rfl (Nat.le_of_ble_eq_true rfl) ?_
  intro p e s m below meth c A ls args Q hx hb hr hml hts hown hlk hnm hA hK hP hD hS hl hQ
  have hl : lv_has ls 2 [(0, .ref mo)] := hl
  refine lv_aload_n hx hb dX5_idle_0 rfl (lv_at hl 0 rfl) ?_
  refine lv_aload_n hx hb dX5_idle_1 rfl (lv_at hl 0 rfl) ?_
  refine va_get (D := D) (ci := 5) (v := .int DE) (C := RX5) (T := TX5) (N := 20) hx hb hts (by decide +kernel) hown hK hP 0 rfl rfl 3 (by decide) (hts (.fieldLink RX5 131 "VeiledFilesModel" "dead" "Z") (by decide +kernel)) (fun _ h9 => h9) rfl dX5_idle_2 ?_
  refine lv_if_eq (tgt := 12) hx hb dX5_idle_5 (by decide) (fun c1 => ?_) (fun c1 => ?_)
  · skip
    refine lv_iconst (v := nI 0) hx hb dX5_idle_12 (by decide) ?_
    refine va_put (D := D) (ci := 5) (v := .int (nI 0)) (ty := .int) (C := RX5) (T := TX5) (N := 20) hx hb hts (by decide +kernel) tyX5 tyX5_ok nmX5 hown hK hP hD hS 0 rfl rfl 0 (by decide) (hts (.fieldLink RX5 58 "VeiledFilesModel" "thrown" "I") (by decide +kernel)) (fun _ h9 => h9) rfl (by decide +kernel) rfl rfl (Nat.le_of_ble_eq_true rfl) dX5_idle_13 (fun H locs hP hD hS => ?_)
    have hP : va_P D vwCl (wM cI cZ cJ mo se co ou le wo ma pl tl tm th na si pa ta 0 G ky DE cn got S0 C0 O0 L0 W0 S1 C1 O1 L1 W1 MP PL ML DL TH NM SZ PT TK) _ := hP
    have hD : va_D A (wM cI cZ cJ mo se co ou le wo ma pl tl tm th na si pa ta 0 G ky DE cn got S0 C0 O0 L0 W0 S1 C1 O1 L1 W1 MP PL ML DL TH NM SZ PT TK) := hD
    refine lv_aload_n hx hb dX5_idle_16 rfl (lv_at hl 0 rfl) ?_
    refine va_get (D := D) (ci := 5) (v := .int DE) (C := RX5) (T := TX5) (N := 20) hx hb hts (by decide +kernel) hown hK hP 0 rfl rfl 3 (by decide) (hts (.fieldLink RX5 131 "VeiledFilesModel" "dead" "Z") (by decide +kernel)) (fun _ h9 => h9) rfl dX5_idle_17 ?_
    refine lv_if_eq (tgt := 24) hx hb dX5_idle_20 (by decide) (fun c2 => ?_) (fun c2 => ?_)
    · skip
      refine lv_aload_n hx hb dX5_idle_24 rfl (lv_at hl 0 rfl) ?_
      refine lv_bipush (v := nI 6) hx hb dX5_idle_25 (by decide) ?_
      refine k_vi (As := [.int (nI 6)]) (rest := []) (w2 := fun u : Unit => (wM cI cZ cJ mo se co ou le wo ma pl tl tm th na si pa ta 0 (dstep G) ky DE cn got S0 C0 O0 L0 W0 S1 C1 O1 L1 W1 MP PL ML DL TH NM SZ PT TK)) ⟨hx, hb, hml, hown, hts⟩ (c_m_draw l D cI cZ cJ mo se co ou le wo ma pl tl tm th na si pa ta 0 G ky DE cn got S0 C0 O0 L0 W0 S1 C1 O1 L1 W1 MP PL ML DL TH NM SZ PT TK 6 (by omega)) (cwV 1 hts gX5_idle_X5_draw rfl rfl rfl (by decide +kernel) ⟨Nat.le_of_ble_eq_true rfl, Nat.le_of_ble_eq_true rfl⟩) hP hD hK hS hA [0, 1, 2, 3, 4, 5, 6, 7, 8, 9, 10, 11, 12, 13, 14] [] [0, 1, 2, 3, 4, 5, 6, 7, 8, 9, 10, 11, 12, 13, 14] rfl rfl (by decide) (fun u => rfl) rfl rfl (q0 := 0) rfl rfl hl.1 rfl (Nat.le_of_ble_eq_true rfl) dX5_idle_27 ⟨Nat.le_of_ble_eq_true rfl, Nat.le_of_ble_eq_true rfl⟩ (fun r u H locs hu1 hP hD hS => ?_)
      refine k_t1 (show r = nI (drw 6 G) from hu1) ?_
      refine k_t1 (show nI (drw 6 G) = nI d from by rw [hdd]) ?_
      refine lv_istore_n (lv' := [(1, .int (nI d)), (0, .ref mo)]) hx hb dX5_idle_30 rfl hl (by decide) rfl (fun ls hl => ?_)
      refine lv_aload_n hx hb dX5_idle_31 rfl (lv_at hl 1 rfl) ?_
      refine lv_aload_n hx hb dX5_idle_32 rfl (lv_at hl 1 rfl) ?_
      refine lv_iload_n hx hb dX5_idle_33 rfl (lv_at hl 0 rfl) ?_
      refine lv_iconst (v := nI 0) hx hb dX5_idle_34 (by decide) ?_
      refine lv_iconst (v := nI 0) hx hb dX5_idle_35 (by decide) ?_
      refine lv_iconst (v := nI 0) hx hb dX5_idle_36 (by decide) ?_
      refine lv_iconst (v := nI 0) hx hb dX5_idle_37 (by decide) ?_
      refine k_vi (As := [.int (nI d), .int (nI 0), .int (nI 0), .int (nI 0), .int (nI 0)]) (rest := [.ref mo]) (w2 := fun P1 : Nat → Int32 => (wM cI cZ cJ mo se co ou le wo ma pl tl tm th na si pa ta 0 (dstep (dstep G)) ky 1 (cn + 1) got S0 C0 O0 L0 W0 S1 C1 O1 L1 W1 (upN MP (d / 8) (drw 2 (dstep G))) P1 (upd ML (cn % 64) (nI l0)) (upd DL (cn % 64) (-1)) TH NM SZ PT TK)) ⟨hx, hb, hml, hown, hts⟩ (c_m_acc_A l D cI cZ cJ mo se co ou le wo ma pl tl tm th na si pa ta 0 (dstep G) ky DE cn got S0 C0 O0 L0 W0 S1 C1 O1 L1 W1 MP PL ML DL TH NM SZ PT TK d l0 (0) 0 0 (nI 0) hd hMl hl4 hc j0 hj hw hn) (cwV 5 hts gX5_idle_X5_access rfl rfl rfl (by decide +kernel) ⟨Nat.le_of_ble_eq_true rfl, Nat.le_of_ble_eq_true rfl⟩) hP hD hK hS hA [0, 1, 2, 3, 4, 5, 6, 7, 8, 9, 10, 11, 12, 13, 14] [] [0, 1, 2, 3, 4, 5, 6, 7, 8, 9, 10, 11, 12, 13, 14] rfl rfl (by decide) (fun u => rfl) rfl rfl (q0 := 0) rfl rfl hl.1 rfl (Nat.le_of_ble_eq_true rfl) dX5_idle_38 ⟨Nat.le_of_ble_eq_true rfl, Nat.le_of_ble_eq_true rfl⟩ (fun r P1 H locs hu2 hP hD hS => ?_)
      refine k_t1 (show r = 0 from hu2) ?_
      refine lv_if_eq (tgt := 48) hx hb dX5_idle_41 (by decide) (fun c3 => ?_) (fun c3 => ?_)
      · skip
        refine lv_iconst (v := nI 1) hx hb dX5_idle_48 (by decide) ?_
        refine va_put (D := D) (ci := 5) (v := .int (nI 1)) (ty := .int) (C := RX5) (T := TX5) (N := 20) hx hb hts (by decide +kernel) tyX5 tyX5_ok nmX5 hown hK hP hD hS 0 rfl rfl 0 (by decide) (hts (.fieldLink RX5 58 "VeiledFilesModel" "thrown" "I") (by decide +kernel)) (fun _ h9 => h9) rfl (by decide +kernel) rfl rfl (Nat.le_of_ble_eq_true rfl) dX5_idle_49 (fun H locs hP hD hS => ?_)
        have hP : va_P D vwCl (wM cI cZ cJ mo se co ou le wo ma pl tl tm th na si pa ta 1 (dstep (dstep G)) ky 1 (cn + 1) got S0 C0 O0 L0 W0 S1 C1 O1 L1 W1 (upN MP (d / 8) (drw 2 (dstep G))) P1 (upd ML (cn % 64) (nI l0)) (upd DL (cn % 64) (-1)) TH NM SZ PT TK) _ := hP
        have hD : va_D A (wM cI cZ cJ mo se co ou le wo ma pl tl tm th na si pa ta 1 (dstep (dstep G)) ky 1 (cn + 1) got S0 C0 O0 L0 W0 S1 C1 O1 L1 W1 (upN MP (d / 8) (drw 2 (dstep G))) P1 (upd ML (cn % 64) (nI l0)) (upd DL (cn % 64) (-1)) TH NM SZ PT TK) := hD
        exact k_retv P1 hx hb hr hK hS hlk dX5_idle_52 hP hD (trivial) hQ
      · skip
        exact absurd rfl c3
    · skip
      exact absurd hDE c2
  · skip
    exact absurd hDE c1

set_option maxHeartbeats 800000 in
set_option maxRecDepth 100000 in
theorem c_m_idle_B (l : Launch) (D : va_G) (cI cZ cJ : ClassId) (mo : Nat) (se : Nat) (co : Nat) (ou : Nat) (le : Nat) (wo : Nat) (ma : Nat) (pl : Nat) (tl : Nat) (tm : Nat) (th : Nat) (na : Nat) (si : Nat) (pa : Nat) (ta : Nat) (thr : Int32) (G : Int32) (ky : Int32) (DE : Int32) (cn : Nat) (got : Int32) (S0 : Nat → Nat → Int32) (C0 : Nat → Int32) (O0 : Nat → Int32) (L0 : Nat → Int32) (W0 : Nat → Nat → Int32) (S1 : Nat → Nat → Int32) (C1 : Nat → Int32) (O1 : Nat → Int32) (L1 : Nat → Int32) (W1 : Nat → Nat → Int32) (MP : Nat → Nat) (PL : Nat → Int32) (ML : Nat → Int32) (DL : Nat → Int32) (TH : Nat → Int32) (NM : Nat → Int64) (SZ : Nat → Nat) (PT : Nat → Nat) (TK : Nat → Int32) (d l0 : Nat) (hDE : DE = 0) (hdd : d = drw 6 G) (hd : d < 64) (hMl : MP (d / 8) = l0) (hl4 : l0 < 4) (hc : cn < 100000) (O0a L0a : Nat → Int32) (W0a : Nat → Nat → Int32) (hO0a : O0a = tkO 8 (rowsP ky 0 C0 S0 4 l0) O0 3) (hL0a : L0a = tkL 8 (rowsP ky 0 C0 S0 4 l0) L0 3) (hW0a : W0a = tkW 8 (rowsP ky 0 C0 S0 4 l0) W0 3) (hw0 : ∀ up, up < 3 → wholeB ky 0 C0 S0 (pathB 4 l0 up)) (hv0 : ∀ n, n < 8 → O0a n ≠ 0 → ∃ l0, l0 < 4 ∧ (upd L0a (d / 8) (nI (drw 2 (dstep G)))) n = nI l0) (M : Nat) (hM : M = entM (W0a (d / 8) (d % 8 / 2)) (d % 8 % 2)) (j0 : Nat) (hj : j0 < 6) (hw : ∀ up, up < j0 → wholeB ky 1 C1 S1 (pathB 32 M up)) (hn : ¬ wholeB ky 1 C1 S1 (pathB 32 M j0)) : KV l yX5_idle wsX5_idle ({ frames := 6, cells := 0, slots := 0, locals := 153 }) D (kty cI cZ cJ) [.ref mo] (wM cI cZ cJ mo se co ou le wo ma pl tl tm th na si pa ta thr G ky DE cn got S0 C0 O0 L0 W0 S1 C1 O1 L1 W1 MP PL ML DL TH NM SZ PT TK) (fun (_ : Nat → Int32) => True) (fun u : Nat → Int32 => (wM cI cZ cJ mo se co ou le wo ma pl tl tm th na si pa ta 1 (dstep (dstep (dstep G))) ky 1 (cn + 1) got ((pbN ky 0 4 8 l0 (upd L0a (d / 8) (nI (drw 2 (dstep G)))) (setRow W0a (d / 8) (upd (W0a (d / 8)) (d % 8 / 2) (setE (W0a (d / 8) (d % 8 / 2)) (d % 8 % 2) (nI (drw 5 (dstep (dstep G))))))) S0 C0 O0a 3).1) ((pbN ky 0 4 8 l0 (upd L0a (d / 8) (nI (drw 2 (dstep G)))) (setRow W0a (d / 8) (upd (W0a (d / 8)) (d % 8 / 2) (setE (W0a (d / 8) (d % 8 / 2)) (d % 8 % 2) (nI (drw 5 (dstep (dstep G))))))) S0 C0 O0a 3).2.1) ((pbN ky 0 4 8 l0 (upd L0a (d / 8) (nI (drw 2 (dstep G)))) (setRow W0a (d / 8) (upd (W0a (d / 8)) (d % 8 / 2) (setE (W0a (d / 8) (d % 8 / 2)) (d % 8 % 2) (nI (drw 5 (dstep (dstep G))))))) S0 C0 O0a 3).2.2) (upd L0a (d / 8) (nI (drw 2 (dstep G)))) (setRow W0a (d / 8) (upd (W0a (d / 8)) (d % 8 / 2) (setE (W0a (d / 8) (d % 8 / 2)) (d % 8 % 2) (nI (drw 5 (dstep (dstep G))))))) S1 C1 O1 L1 W1 (upN MP (d / 8) (drw 2 (dstep G))) u (upd ML (cn % 64) (nI l0)) (upd DL (cn % 64) (nI M)) TH NM SZ PT TK)) 0 0 := by
  refine k_headV (cc := cX5_idle) (maxL := 2) (ret := none) (by decide) rfl (Nat.le_of_ble_eq_true rfl) ?_
  intro p e s m below meth c A ls args Q hx hb hr hml hts hown hlk hnm hA hK hP hD hS hl hQ
  have hl : lv_has ls 2 [(0, .ref mo)] := hl
  refine lv_aload_n hx hb dX5_idle_0 rfl (lv_at hl 0 rfl) ?_
  refine lv_aload_n hx hb dX5_idle_1 rfl (lv_at hl 0 rfl) ?_
  refine va_get (D := D) (ci := 5) (v := .int DE) (C := RX5) (T := TX5) (N := 20) hx hb hts (by decide +kernel) hown hK hP 0 rfl rfl 3 (by decide) (hts (.fieldLink RX5 131 "VeiledFilesModel" "dead" "Z") (by decide +kernel)) (fun _ h9 => h9) rfl dX5_idle_2 ?_
  refine lv_if_eq (tgt := 12) hx hb dX5_idle_5 (by decide) (fun c1 => ?_) (fun c1 => ?_)
  · skip
    refine lv_iconst (v := nI 0) hx hb dX5_idle_12 (by decide) ?_
    refine va_put (D := D) (ci := 5) (v := .int (nI 0)) (ty := .int) (C := RX5) (T := TX5) (N := 20) hx hb hts (by decide +kernel) tyX5 tyX5_ok nmX5 hown hK hP hD hS 0 rfl rfl 0 (by decide) (hts (.fieldLink RX5 58 "VeiledFilesModel" "thrown" "I") (by decide +kernel)) (fun _ h9 => h9) rfl (by decide +kernel) rfl rfl (Nat.le_of_ble_eq_true rfl) dX5_idle_13 (fun H locs hP hD hS => ?_)
    have hP : va_P D vwCl (wM cI cZ cJ mo se co ou le wo ma pl tl tm th na si pa ta 0 G ky DE cn got S0 C0 O0 L0 W0 S1 C1 O1 L1 W1 MP PL ML DL TH NM SZ PT TK) _ := hP
    have hD : va_D A (wM cI cZ cJ mo se co ou le wo ma pl tl tm th na si pa ta 0 G ky DE cn got S0 C0 O0 L0 W0 S1 C1 O1 L1 W1 MP PL ML DL TH NM SZ PT TK) := hD
    refine lv_aload_n hx hb dX5_idle_16 rfl (lv_at hl 0 rfl) ?_
    refine va_get (D := D) (ci := 5) (v := .int DE) (C := RX5) (T := TX5) (N := 20) hx hb hts (by decide +kernel) hown hK hP 0 rfl rfl 3 (by decide) (hts (.fieldLink RX5 131 "VeiledFilesModel" "dead" "Z") (by decide +kernel)) (fun _ h9 => h9) rfl dX5_idle_17 ?_
    refine lv_if_eq (tgt := 24) hx hb dX5_idle_20 (by decide) (fun c2 => ?_) (fun c2 => ?_)
    · skip
      refine lv_aload_n hx hb dX5_idle_24 rfl (lv_at hl 0 rfl) ?_
      refine lv_bipush (v := nI 6) hx hb dX5_idle_25 (by decide) ?_
      refine k_vi (As := [.int (nI 6)]) (rest := []) (w2 := fun u : Unit => (wM cI cZ cJ mo se co ou le wo ma pl tl tm th na si pa ta 0 (dstep G) ky DE cn got S0 C0 O0 L0 W0 S1 C1 O1 L1 W1 MP PL ML DL TH NM SZ PT TK)) ⟨hx, hb, hml, hown, hts⟩ (c_m_draw l D cI cZ cJ mo se co ou le wo ma pl tl tm th na si pa ta 0 G ky DE cn got S0 C0 O0 L0 W0 S1 C1 O1 L1 W1 MP PL ML DL TH NM SZ PT TK 6 (by omega)) (cwV 1 hts gX5_idle_X5_draw rfl rfl rfl (by decide +kernel) ⟨Nat.le_of_ble_eq_true rfl, Nat.le_of_ble_eq_true rfl⟩) hP hD hK hS hA [0, 1, 2, 3, 4, 5, 6, 7, 8, 9, 10, 11, 12, 13, 14] [] [0, 1, 2, 3, 4, 5, 6, 7, 8, 9, 10, 11, 12, 13, 14] rfl rfl (by decide) (fun u => rfl) rfl rfl (q0 := 0) rfl rfl hl.1 rfl (Nat.le_of_ble_eq_true rfl) dX5_idle_27 ⟨Nat.le_of_ble_eq_true rfl, Nat.le_of_ble_eq_true rfl⟩ (fun r u H locs hu1 hP hD hS => ?_)
      refine k_t1 (show r = nI (drw 6 G) from hu1) ?_
      refine k_t1 (show nI (drw 6 G) = nI d from by rw [hdd]) ?_
      refine lv_istore_n (lv' := [(1, .int (nI d)), (0, .ref mo)]) hx hb dX5_idle_30 rfl hl (by decide) rfl (fun ls hl => ?_)
      refine lv_aload_n hx hb dX5_idle_31 rfl (lv_at hl 1 rfl) ?_
      refine lv_aload_n hx hb dX5_idle_32 rfl (lv_at hl 1 rfl) ?_
      refine lv_iload_n hx hb dX5_idle_33 rfl (lv_at hl 0 rfl) ?_
      refine lv_iconst (v := nI 0) hx hb dX5_idle_34 (by decide) ?_
      refine lv_iconst (v := nI 0) hx hb dX5_idle_35 (by decide) ?_
      refine lv_iconst (v := nI 0) hx hb dX5_idle_36 (by decide) ?_
      refine lv_iconst (v := nI 0) hx hb dX5_idle_37 (by decide) ?_
      refine k_vi (As := [.int (nI d), .int (nI 0), .int (nI 0), .int (nI 0), .int (nI 0)]) (rest := [.ref mo]) (w2 := fun P1 : Nat → Int32 => (wM cI cZ cJ mo se co ou le wo ma pl tl tm th na si pa ta 0 (dstep (dstep (dstep G))) ky 1 (cn + 1) got ((pbN ky 0 4 8 l0 (upd L0a (d / 8) (nI (drw 2 (dstep G)))) (setRow W0a (d / 8) (upd (W0a (d / 8)) (d % 8 / 2) (setE (W0a (d / 8) (d % 8 / 2)) (d % 8 % 2) (nI (drw 5 (dstep (dstep G))))))) S0 C0 O0a 3).1) ((pbN ky 0 4 8 l0 (upd L0a (d / 8) (nI (drw 2 (dstep G)))) (setRow W0a (d / 8) (upd (W0a (d / 8)) (d % 8 / 2) (setE (W0a (d / 8) (d % 8 / 2)) (d % 8 % 2) (nI (drw 5 (dstep (dstep G))))))) S0 C0 O0a 3).2.1) ((pbN ky 0 4 8 l0 (upd L0a (d / 8) (nI (drw 2 (dstep G)))) (setRow W0a (d / 8) (upd (W0a (d / 8)) (d % 8 / 2) (setE (W0a (d / 8) (d % 8 / 2)) (d % 8 % 2) (nI (drw 5 (dstep (dstep G))))))) S0 C0 O0a 3).2.2) (upd L0a (d / 8) (nI (drw 2 (dstep G)))) (setRow W0a (d / 8) (upd (W0a (d / 8)) (d % 8 / 2) (setE (W0a (d / 8) (d % 8 / 2)) (d % 8 % 2) (nI (drw 5 (dstep (dstep G))))))) S1 C1 O1 L1 W1 (upN MP (d / 8) (drw 2 (dstep G))) P1 (upd ML (cn % 64) (nI l0)) (upd DL (cn % 64) (nI M)) TH NM SZ PT TK)) ⟨hx, hb, hml, hown, hts⟩ (c_m_acc_B l D cI cZ cJ mo se co ou le wo ma pl tl tm th na si pa ta 0 (dstep G) ky DE cn got S0 C0 O0 L0 W0 S1 C1 O1 L1 W1 MP PL ML DL TH NM SZ PT TK d l0 (0) 0 0 (nI 0) hd hMl hl4 hc O0a L0a W0a hO0a hL0a hW0a hw0 hv0 M hM j0 hj hw hn) (cwV 5 hts gX5_idle_X5_access rfl rfl rfl (by decide +kernel) ⟨Nat.le_of_ble_eq_true rfl, Nat.le_of_ble_eq_true rfl⟩) hP hD hK hS hA [0, 1, 2, 3, 4, 5, 6, 7, 8, 9, 10, 11, 12, 13, 14] [] [0, 1, 2, 3, 4, 5, 6, 7, 8, 9, 10, 11, 12, 13, 14] rfl rfl (by decide) (fun u => rfl) rfl rfl (q0 := 0) rfl rfl hl.1 rfl (Nat.le_of_ble_eq_true rfl) dX5_idle_38 ⟨Nat.le_of_ble_eq_true rfl, Nat.le_of_ble_eq_true rfl⟩ (fun r P1 H locs hu2 hP hD hS => ?_)
      refine k_t1 (show r = 0 from hu2) ?_
      refine lv_if_eq (tgt := 48) hx hb dX5_idle_41 (by decide) (fun c3 => ?_) (fun c3 => ?_)
      · skip
        refine lv_iconst (v := nI 1) hx hb dX5_idle_48 (by decide) ?_
        refine va_put (D := D) (ci := 5) (v := .int (nI 1)) (ty := .int) (C := RX5) (T := TX5) (N := 20) hx hb hts (by decide +kernel) tyX5 tyX5_ok nmX5 hown hK hP hD hS 0 rfl rfl 0 (by decide) (hts (.fieldLink RX5 58 "VeiledFilesModel" "thrown" "I") (by decide +kernel)) (fun _ h9 => h9) rfl (by decide +kernel) rfl rfl (Nat.le_of_ble_eq_true rfl) dX5_idle_49 (fun H locs hP hD hS => ?_)
        have hP : va_P D vwCl (wM cI cZ cJ mo se co ou le wo ma pl tl tm th na si pa ta 1 (dstep (dstep (dstep G))) ky 1 (cn + 1) got ((pbN ky 0 4 8 l0 (upd L0a (d / 8) (nI (drw 2 (dstep G)))) (setRow W0a (d / 8) (upd (W0a (d / 8)) (d % 8 / 2) (setE (W0a (d / 8) (d % 8 / 2)) (d % 8 % 2) (nI (drw 5 (dstep (dstep G))))))) S0 C0 O0a 3).1) ((pbN ky 0 4 8 l0 (upd L0a (d / 8) (nI (drw 2 (dstep G)))) (setRow W0a (d / 8) (upd (W0a (d / 8)) (d % 8 / 2) (setE (W0a (d / 8) (d % 8 / 2)) (d % 8 % 2) (nI (drw 5 (dstep (dstep G))))))) S0 C0 O0a 3).2.1) ((pbN ky 0 4 8 l0 (upd L0a (d / 8) (nI (drw 2 (dstep G)))) (setRow W0a (d / 8) (upd (W0a (d / 8)) (d % 8 / 2) (setE (W0a (d / 8) (d % 8 / 2)) (d % 8 % 2) (nI (drw 5 (dstep (dstep G))))))) S0 C0 O0a 3).2.2) (upd L0a (d / 8) (nI (drw 2 (dstep G)))) (setRow W0a (d / 8) (upd (W0a (d / 8)) (d % 8 / 2) (setE (W0a (d / 8) (d % 8 / 2)) (d % 8 % 2) (nI (drw 5 (dstep (dstep G))))))) S1 C1 O1 L1 W1 (upN MP (d / 8) (drw 2 (dstep G))) P1 (upd ML (cn % 64) (nI l0)) (upd DL (cn % 64) (nI M)) TH NM SZ PT TK) _ := hP
        have hD : va_D A (wM cI cZ cJ mo se co ou le wo ma pl tl tm th na si pa ta 1 (dstep (dstep (dstep G))) ky 1 (cn + 1) got ((pbN ky 0 4 8 l0 (upd L0a (d / 8) (nI (drw 2 (dstep G)))) (setRow W0a (d / 8) (upd (W0a (d / 8)) (d % 8 / 2) (setE (W0a (d / 8) (d % 8 / 2)) (d % 8 % 2) (nI (drw 5 (dstep (dstep G))))))) S0 C0 O0a 3).1) ((pbN ky 0 4 8 l0 (upd L0a (d / 8) (nI (drw 2 (dstep G)))) (setRow W0a (d / 8) (upd (W0a (d / 8)) (d % 8 / 2) (setE (W0a (d / 8) (d % 8 / 2)) (d % 8 % 2) (nI (drw 5 (dstep (dstep G))))))) S0 C0 O0a 3).2.1) ((pbN ky 0 4 8 l0 (upd L0a (d / 8) (nI (drw 2 (dstep G)))) (setRow W0a (d / 8) (upd (W0a (d / 8)) (d % 8 / 2) (setE (W0a (d / 8) (d % 8 / 2)) (d % 8 % 2) (nI (drw 5 (dstep (dstep G))))))) S0 C0 O0a 3).2.2) (upd L0a (d / 8) (nI (drw 2 (dstep G)))) (setRow W0a (d / 8) (upd (W0a (d / 8)) (d % 8 / 2) (setE (W0a (d / 8) (d % 8 / 2)) (d % 8 % 2) (nI (drw 5 (dstep (dstep G))))))) S1 C1 O1 L1 W1 (upN MP (d / 8) (drw 2 (dstep G))) P1 (upd ML (cn % 64) (nI l0)) (upd DL (cn % 64) (nI M)) TH NM SZ PT TK) := hD
        exact k_retv P1 hx hb hr hK hS hlk dX5_idle_52 hP hD (trivial) hQ
      · skip
        exact absurd rfl c3
    · skip
      exact absurd hDE c2
  · skip
    exact absurd hDE c1

set_option maxHeartbeats 800000 in
set_option maxRecDepth 100000 in
theorem c_m_idle_C (l : Launch) (D : va_G) (cI cZ cJ : ClassId) (mo : Nat) (se : Nat) (co : Nat) (ou : Nat) (le : Nat) (wo : Nat) (ma : Nat) (pl : Nat) (tl : Nat) (tm : Nat) (th : Nat) (na : Nat) (si : Nat) (pa : Nat) (ta : Nat) (thr : Int32) (G : Int32) (ky : Int32) (DE : Int32) (cn : Nat) (got : Int32) (S0 : Nat → Nat → Int32) (C0 : Nat → Int32) (O0 : Nat → Int32) (L0 : Nat → Int32) (W0 : Nat → Nat → Int32) (S1 : Nat → Nat → Int32) (C1 : Nat → Int32) (O1 : Nat → Int32) (L1 : Nat → Int32) (W1 : Nat → Nat → Int32) (MP : Nat → Nat) (PL : Nat → Int32) (ML : Nat → Int32) (DL : Nat → Int32) (TH : Nat → Int32) (NM : Nat → Int64) (SZ : Nat → Nat) (PT : Nat → Nat) (TK : Nat → Int32) (d l0 : Nat) (hDE : DE = 0) (hdd : d = drw 6 G) (hd : d < 64) (hMl : MP (d / 8) = l0) (hl4 : l0 < 4) (hc : cn < 100000) (O0a L0a : Nat → Int32) (W0a : Nat → Nat → Int32) (hO0a : O0a = tkO 8 (rowsP ky 0 C0 S0 4 l0) O0 3) (hL0a : L0a = tkL 8 (rowsP ky 0 C0 S0 4 l0) L0 3) (hW0a : W0a = tkW 8 (rowsP ky 0 C0 S0 4 l0) W0 3) (hw0 : ∀ up, up < 3 → wholeB ky 0 C0 S0 (pathB 4 l0 up)) (hv0 : ∀ n, n < 8 → O0a n ≠ 0 → ∃ l0, l0 < 4 ∧ (upd L0a (d / 8) (nI (drw 2 (dstep G)))) n = nI l0) (M : Nat) (hM : M = entM (W0a (d / 8) (d % 8 / 2)) (d % 8 % 2)) (O1a L1a : Nat → Int32) (W1a : Nat → Nat → Int32) (hO1a : O1a = tkO 64 (rowsP ky 1 C1 S1 32 M) O1 6) (hL1a : L1a = tkL 64 (rowsP ky 1 C1 S1 32 M) L1 6) (hW1a : W1a = tkW 64 (rowsP ky 1 C1 S1 32 M) W1 6) (hw1 : ∀ up, up < 6 → wholeB ky 1 C1 S1 (pathB 32 M up)) (hv1 : ∀ n, n < 64 → O1a n ≠ 0 → ∃ l0, l0 < 32 ∧ (upd L1a d (nI (drw 5 (dstep (dstep G))))) n = nI l0) : KV l yX5_idle wsX5_idle ({ frames := 6, cells := 0, slots := 0, locals := 153 }) D (kty cI cZ cJ) [.ref mo] (wM cI cZ cJ mo se co ou le wo ma pl tl tm th na si pa ta thr G ky DE cn got S0 C0 O0 L0 W0 S1 C1 O1 L1 W1 MP PL ML DL TH NM SZ PT TK) (fun (_ : Nat → Int32) => True) (fun u : Nat → Int32 => (wM cI cZ cJ mo se co ou le wo ma pl tl tm th na si pa ta 0 (dstep (dstep (dstep G))) ky DE (cn + 1) (W1a d 0) ((pbN ky 0 4 8 l0 (upd L0a (d / 8) (nI (drw 2 (dstep G)))) (setRow W0a (d / 8) (upd (W0a (d / 8)) (d % 8 / 2) (setE (W0a (d / 8) (d % 8 / 2)) (d % 8 % 2) (nI (drw 5 (dstep (dstep G))))))) S0 C0 O0a 3).1) ((pbN ky 0 4 8 l0 (upd L0a (d / 8) (nI (drw 2 (dstep G)))) (setRow W0a (d / 8) (upd (W0a (d / 8)) (d % 8 / 2) (setE (W0a (d / 8) (d % 8 / 2)) (d % 8 % 2) (nI (drw 5 (dstep (dstep G))))))) S0 C0 O0a 3).2.1) ((pbN ky 0 4 8 l0 (upd L0a (d / 8) (nI (drw 2 (dstep G)))) (setRow W0a (d / 8) (upd (W0a (d / 8)) (d % 8 / 2) (setE (W0a (d / 8) (d % 8 / 2)) (d % 8 % 2) (nI (drw 5 (dstep (dstep G))))))) S0 C0 O0a 3).2.2) (upd L0a (d / 8) (nI (drw 2 (dstep G)))) (setRow W0a (d / 8) (upd (W0a (d / 8)) (d % 8 / 2) (setE (W0a (d / 8) (d % 8 / 2)) (d % 8 % 2) (nI (drw 5 (dstep (dstep G))))))) ((pbN ky 1 32 64 M (upd L1a d (nI (drw 5 (dstep (dstep G))))) W1a S1 C1 O1a 6).1) ((pbN ky 1 32 64 M (upd L1a d (nI (drw 5 (dstep (dstep G))))) W1a S1 C1 O1a 6).2.1) ((pbN ky 1 32 64 M (upd L1a d (nI (drw 5 (dstep (dstep G))))) W1a S1 C1 O1a 6).2.2) (upd L1a d (nI (drw 5 (dstep (dstep G))))) W1a (upN MP (d / 8) (drw 2 (dstep G))) u (upd ML (cn % 64) (nI l0)) (upd DL (cn % 64) (nI M)) TH NM SZ PT TK)) 0 0 := by
  refine k_headV (cc := cX5_idle) (maxL := 2) (ret := none) (by decide) rfl (Nat.le_of_ble_eq_true rfl) ?_
  intro p e s m below meth c A ls args Q hx hb hr hml hts hown hlk hnm hA hK hP hD hS hl hQ
  have hl : lv_has ls 2 [(0, .ref mo)] := hl
  refine lv_aload_n hx hb dX5_idle_0 rfl (lv_at hl 0 rfl) ?_
  refine lv_aload_n hx hb dX5_idle_1 rfl (lv_at hl 0 rfl) ?_
  refine va_get (D := D) (ci := 5) (v := .int DE) (C := RX5) (T := TX5) (N := 20) hx hb hts (by decide +kernel) hown hK hP 0 rfl rfl 3 (by decide) (hts (.fieldLink RX5 131 "VeiledFilesModel" "dead" "Z") (by decide +kernel)) (fun _ h9 => h9) rfl dX5_idle_2 ?_
  refine lv_if_eq (tgt := 12) hx hb dX5_idle_5 (by decide) (fun c1 => ?_) (fun c1 => ?_)
  · skip
    refine lv_iconst (v := nI 0) hx hb dX5_idle_12 (by decide) ?_
    refine va_put (D := D) (ci := 5) (v := .int (nI 0)) (ty := .int) (C := RX5) (T := TX5) (N := 20) hx hb hts (by decide +kernel) tyX5 tyX5_ok nmX5 hown hK hP hD hS 0 rfl rfl 0 (by decide) (hts (.fieldLink RX5 58 "VeiledFilesModel" "thrown" "I") (by decide +kernel)) (fun _ h9 => h9) rfl (by decide +kernel) rfl rfl (Nat.le_of_ble_eq_true rfl) dX5_idle_13 (fun H locs hP hD hS => ?_)
    have hP : va_P D vwCl (wM cI cZ cJ mo se co ou le wo ma pl tl tm th na si pa ta 0 G ky DE cn got S0 C0 O0 L0 W0 S1 C1 O1 L1 W1 MP PL ML DL TH NM SZ PT TK) _ := hP
    have hD : va_D A (wM cI cZ cJ mo se co ou le wo ma pl tl tm th na si pa ta 0 G ky DE cn got S0 C0 O0 L0 W0 S1 C1 O1 L1 W1 MP PL ML DL TH NM SZ PT TK) := hD
    refine lv_aload_n hx hb dX5_idle_16 rfl (lv_at hl 0 rfl) ?_
    refine va_get (D := D) (ci := 5) (v := .int DE) (C := RX5) (T := TX5) (N := 20) hx hb hts (by decide +kernel) hown hK hP 0 rfl rfl 3 (by decide) (hts (.fieldLink RX5 131 "VeiledFilesModel" "dead" "Z") (by decide +kernel)) (fun _ h9 => h9) rfl dX5_idle_17 ?_
    refine lv_if_eq (tgt := 24) hx hb dX5_idle_20 (by decide) (fun c2 => ?_) (fun c2 => ?_)
    · skip
      refine lv_aload_n hx hb dX5_idle_24 rfl (lv_at hl 0 rfl) ?_
      refine lv_bipush (v := nI 6) hx hb dX5_idle_25 (by decide) ?_
      refine k_vi (As := [.int (nI 6)]) (rest := []) (w2 := fun u : Unit => (wM cI cZ cJ mo se co ou le wo ma pl tl tm th na si pa ta 0 (dstep G) ky DE cn got S0 C0 O0 L0 W0 S1 C1 O1 L1 W1 MP PL ML DL TH NM SZ PT TK)) ⟨hx, hb, hml, hown, hts⟩ (c_m_draw l D cI cZ cJ mo se co ou le wo ma pl tl tm th na si pa ta 0 G ky DE cn got S0 C0 O0 L0 W0 S1 C1 O1 L1 W1 MP PL ML DL TH NM SZ PT TK 6 (by omega)) (cwV 1 hts gX5_idle_X5_draw rfl rfl rfl (by decide +kernel) ⟨Nat.le_of_ble_eq_true rfl, Nat.le_of_ble_eq_true rfl⟩) hP hD hK hS hA [0, 1, 2, 3, 4, 5, 6, 7, 8, 9, 10, 11, 12, 13, 14] [] [0, 1, 2, 3, 4, 5, 6, 7, 8, 9, 10, 11, 12, 13, 14] rfl rfl (by decide) (fun u => rfl) rfl rfl (q0 := 0) rfl rfl hl.1 rfl (Nat.le_of_ble_eq_true rfl) dX5_idle_27 ⟨Nat.le_of_ble_eq_true rfl, Nat.le_of_ble_eq_true rfl⟩ (fun r u H locs hu1 hP hD hS => ?_)
      refine k_t1 (show r = nI (drw 6 G) from hu1) ?_
      refine k_t1 (show nI (drw 6 G) = nI d from by rw [hdd]) ?_
      refine lv_istore_n (lv' := [(1, .int (nI d)), (0, .ref mo)]) hx hb dX5_idle_30 rfl hl (by decide) rfl (fun ls hl => ?_)
      refine lv_aload_n hx hb dX5_idle_31 rfl (lv_at hl 1 rfl) ?_
      refine lv_aload_n hx hb dX5_idle_32 rfl (lv_at hl 1 rfl) ?_
      refine lv_iload_n hx hb dX5_idle_33 rfl (lv_at hl 0 rfl) ?_
      refine lv_iconst (v := nI 0) hx hb dX5_idle_34 (by decide) ?_
      refine lv_iconst (v := nI 0) hx hb dX5_idle_35 (by decide) ?_
      refine lv_iconst (v := nI 0) hx hb dX5_idle_36 (by decide) ?_
      refine lv_iconst (v := nI 0) hx hb dX5_idle_37 (by decide) ?_
      refine k_vi (As := [.int (nI d), .int (nI 0), .int (nI 0), .int (nI 0), .int (nI 0)]) (rest := [.ref mo]) (w2 := fun P1 : Nat → Int32 => (wM cI cZ cJ mo se co ou le wo ma pl tl tm th na si pa ta 0 (dstep (dstep (dstep G))) ky DE (cn + 1) (W1a d 0) ((pbN ky 0 4 8 l0 (upd L0a (d / 8) (nI (drw 2 (dstep G)))) (setRow W0a (d / 8) (upd (W0a (d / 8)) (d % 8 / 2) (setE (W0a (d / 8) (d % 8 / 2)) (d % 8 % 2) (nI (drw 5 (dstep (dstep G))))))) S0 C0 O0a 3).1) ((pbN ky 0 4 8 l0 (upd L0a (d / 8) (nI (drw 2 (dstep G)))) (setRow W0a (d / 8) (upd (W0a (d / 8)) (d % 8 / 2) (setE (W0a (d / 8) (d % 8 / 2)) (d % 8 % 2) (nI (drw 5 (dstep (dstep G))))))) S0 C0 O0a 3).2.1) ((pbN ky 0 4 8 l0 (upd L0a (d / 8) (nI (drw 2 (dstep G)))) (setRow W0a (d / 8) (upd (W0a (d / 8)) (d % 8 / 2) (setE (W0a (d / 8) (d % 8 / 2)) (d % 8 % 2) (nI (drw 5 (dstep (dstep G))))))) S0 C0 O0a 3).2.2) (upd L0a (d / 8) (nI (drw 2 (dstep G)))) (setRow W0a (d / 8) (upd (W0a (d / 8)) (d % 8 / 2) (setE (W0a (d / 8) (d % 8 / 2)) (d % 8 % 2) (nI (drw 5 (dstep (dstep G))))))) ((pbN ky 1 32 64 M (upd L1a d (nI (drw 5 (dstep (dstep G))))) W1a S1 C1 O1a 6).1) ((pbN ky 1 32 64 M (upd L1a d (nI (drw 5 (dstep (dstep G))))) W1a S1 C1 O1a 6).2.1) ((pbN ky 1 32 64 M (upd L1a d (nI (drw 5 (dstep (dstep G))))) W1a S1 C1 O1a 6).2.2) (upd L1a d (nI (drw 5 (dstep (dstep G))))) W1a (upN MP (d / 8) (drw 2 (dstep G))) P1 (upd ML (cn % 64) (nI l0)) (upd DL (cn % 64) (nI M)) TH NM SZ PT TK)) ⟨hx, hb, hml, hown, hts⟩ (c_m_acc_C00 l D cI cZ cJ mo se co ou le wo ma pl tl tm th na si pa ta 0 (dstep G) ky DE cn got S0 C0 O0 L0 W0 S1 C1 O1 L1 W1 MP PL ML DL TH NM SZ PT TK d l0 (0) (nI 0) hd hMl hl4 hc (by omega) O0a L0a W0a hO0a hL0a hW0a hw0 hv0 M hM O1a L1a W1a hO1a hL1a hW1a hw1 hv1) (cwV 5 hts gX5_idle_X5_access rfl rfl rfl (by decide +kernel) ⟨Nat.le_of_ble_eq_true rfl, Nat.le_of_ble_eq_true rfl⟩) hP hD hK hS hA [0, 1, 2, 3, 4, 5, 6, 7, 8, 9, 10, 11, 12, 13, 14] [] [0, 1, 2, 3, 4, 5, 6, 7, 8, 9, 10, 11, 12, 13, 14] rfl rfl (by decide) (fun u => rfl) rfl rfl (q0 := 0) rfl rfl hl.1 rfl (Nat.le_of_ble_eq_true rfl) dX5_idle_38 ⟨Nat.le_of_ble_eq_true rfl, Nat.le_of_ble_eq_true rfl⟩ (fun r P1 H locs hu2 hP hD hS => ?_)
      refine k_t1 (show r = 1 from hu2) ?_
      refine lv_if_eq (tgt := 48) hx hb dX5_idle_41 (by decide) (fun c3 => ?_) (fun c3 => ?_)
      · skip
        exact absurd c3 (by decide)
      · skip
        refine lv_iconst (v := nI 0) hx hb dX5_idle_44 (by decide) ?_
        refine lv_goto (tgt := 49) hx hb dX5_idle_45 (by decide) ?_
        refine va_put (D := D) (ci := 5) (v := .int (nI 0)) (ty := .int) (C := RX5) (T := TX5) (N := 20) hx hb hts (by decide +kernel) tyX5 tyX5_ok nmX5 hown hK hP hD hS 0 rfl rfl 0 (by decide) (hts (.fieldLink RX5 58 "VeiledFilesModel" "thrown" "I") (by decide +kernel)) (fun _ h9 => h9) rfl (by decide +kernel) rfl rfl (Nat.le_of_ble_eq_true rfl) dX5_idle_49 (fun H locs hP hD hS => ?_)
        have hP : va_P D vwCl (wM cI cZ cJ mo se co ou le wo ma pl tl tm th na si pa ta 0 (dstep (dstep (dstep G))) ky DE (cn + 1) (W1a d 0) ((pbN ky 0 4 8 l0 (upd L0a (d / 8) (nI (drw 2 (dstep G)))) (setRow W0a (d / 8) (upd (W0a (d / 8)) (d % 8 / 2) (setE (W0a (d / 8) (d % 8 / 2)) (d % 8 % 2) (nI (drw 5 (dstep (dstep G))))))) S0 C0 O0a 3).1) ((pbN ky 0 4 8 l0 (upd L0a (d / 8) (nI (drw 2 (dstep G)))) (setRow W0a (d / 8) (upd (W0a (d / 8)) (d % 8 / 2) (setE (W0a (d / 8) (d % 8 / 2)) (d % 8 % 2) (nI (drw 5 (dstep (dstep G))))))) S0 C0 O0a 3).2.1) ((pbN ky 0 4 8 l0 (upd L0a (d / 8) (nI (drw 2 (dstep G)))) (setRow W0a (d / 8) (upd (W0a (d / 8)) (d % 8 / 2) (setE (W0a (d / 8) (d % 8 / 2)) (d % 8 % 2) (nI (drw 5 (dstep (dstep G))))))) S0 C0 O0a 3).2.2) (upd L0a (d / 8) (nI (drw 2 (dstep G)))) (setRow W0a (d / 8) (upd (W0a (d / 8)) (d % 8 / 2) (setE (W0a (d / 8) (d % 8 / 2)) (d % 8 % 2) (nI (drw 5 (dstep (dstep G))))))) ((pbN ky 1 32 64 M (upd L1a d (nI (drw 5 (dstep (dstep G))))) W1a S1 C1 O1a 6).1) ((pbN ky 1 32 64 M (upd L1a d (nI (drw 5 (dstep (dstep G))))) W1a S1 C1 O1a 6).2.1) ((pbN ky 1 32 64 M (upd L1a d (nI (drw 5 (dstep (dstep G))))) W1a S1 C1 O1a 6).2.2) (upd L1a d (nI (drw 5 (dstep (dstep G))))) W1a (upN MP (d / 8) (drw 2 (dstep G))) P1 (upd ML (cn % 64) (nI l0)) (upd DL (cn % 64) (nI M)) TH NM SZ PT TK) _ := hP
        have hD : va_D A (wM cI cZ cJ mo se co ou le wo ma pl tl tm th na si pa ta 0 (dstep (dstep (dstep G))) ky DE (cn + 1) (W1a d 0) ((pbN ky 0 4 8 l0 (upd L0a (d / 8) (nI (drw 2 (dstep G)))) (setRow W0a (d / 8) (upd (W0a (d / 8)) (d % 8 / 2) (setE (W0a (d / 8) (d % 8 / 2)) (d % 8 % 2) (nI (drw 5 (dstep (dstep G))))))) S0 C0 O0a 3).1) ((pbN ky 0 4 8 l0 (upd L0a (d / 8) (nI (drw 2 (dstep G)))) (setRow W0a (d / 8) (upd (W0a (d / 8)) (d % 8 / 2) (setE (W0a (d / 8) (d % 8 / 2)) (d % 8 % 2) (nI (drw 5 (dstep (dstep G))))))) S0 C0 O0a 3).2.1) ((pbN ky 0 4 8 l0 (upd L0a (d / 8) (nI (drw 2 (dstep G)))) (setRow W0a (d / 8) (upd (W0a (d / 8)) (d % 8 / 2) (setE (W0a (d / 8) (d % 8 / 2)) (d % 8 % 2) (nI (drw 5 (dstep (dstep G))))))) S0 C0 O0a 3).2.2) (upd L0a (d / 8) (nI (drw 2 (dstep G)))) (setRow W0a (d / 8) (upd (W0a (d / 8)) (d % 8 / 2) (setE (W0a (d / 8) (d % 8 / 2)) (d % 8 % 2) (nI (drw 5 (dstep (dstep G))))))) ((pbN ky 1 32 64 M (upd L1a d (nI (drw 5 (dstep (dstep G))))) W1a S1 C1 O1a 6).1) ((pbN ky 1 32 64 M (upd L1a d (nI (drw 5 (dstep (dstep G))))) W1a S1 C1 O1a 6).2.1) ((pbN ky 1 32 64 M (upd L1a d (nI (drw 5 (dstep (dstep G))))) W1a S1 C1 O1a 6).2.2) (upd L1a d (nI (drw 5 (dstep (dstep G))))) W1a (upN MP (d / 8) (drw 2 (dstep G))) P1 (upd ML (cn % 64) (nI l0)) (upd DL (cn % 64) (nI M)) TH NM SZ PT TK) := hD
        exact k_retv P1 hx hb hr hK hS hlk dX5_idle_52 hP hD (trivial) hQ
    · skip
      exact absurd hDE c2
  · skip
    exact absurd hDE c1

set_option maxHeartbeats 800000 in
set_option maxRecDepth 100000 in
theorem c_m_read_bad (l : Launch) (D : va_G) (cI cZ cJ : ClassId) (mo : Nat) (se : Nat) (co : Nat) (ou : Nat) (le : Nat) (wo : Nat) (ma : Nat) (pl : Nat) (tl : Nat) (tm : Nat) (th : Nat) (na : Nat) (si : Nat) (pa : Nat) (ta : Nat) (thr : Int32) (G : Int32) (ky : Int32) (DE : Int32) (cn : Nat) (got : Int32) (S0 : Nat → Nat → Int32) (C0 : Nat → Int32) (O0 : Nat → Int32) (L0 : Nat → Int32) (W0 : Nat → Nat → Int32) (S1 : Nat → Nat → Int32) (C1 : Nat → Int32) (O1 : Nat → Int32) (L1 : Nat → Int32) (W1 : Nat → Nat → Int32) (MP : Nat → Nat) (PL : Nat → Int32) (ML : Nat → Int32) (DL : Nat → Int32) (TH : Nat → Int32) (NM : Nat → Int64) (SZ : Nat → Nat) (PT : Nat → Nat) (TK : Nat → Int32) (x i : Int32) (hfx : notF TH x ∨ ∃ f, f < 8 ∧ x = nI f ∧ ¬ TH f = 0) (hbad : badR TH SZ x i) : KI l yX5_read wsX5_read ({ frames := 1, cells := 0, slots := 0, locals := 21 }) D (kty cI cZ cJ) [.ref mo, .int x, .int i] (wM cI cZ cJ mo se co ou le wo ma pl tl tm th na si pa ta thr G ky DE cn got S0 C0 O0 L0 W0 S1 C1 O1 L1 W1 MP PL ML DL TH NM SZ PT TK) (fun r (_ : Unit) => r = 0) (fun _ : Unit => (wM cI cZ cJ mo se co ou le wo ma pl tl tm th na si pa ta 1 G ky DE cn got S0 C0 O0 L0 W0 S1 C1 O1 L1 W1 MP PL ML DL TH NM SZ PT TK)) 0 0 := by
  refine k_headI (cc := cX5_read) (maxL := 4) (ret := (some .int)) (by decide) rfl (Nat.le_of_ble_eq_true rfl) ?_
  intro p e s m below meth c A ls args Q hx hb hr hml hts hown hlk hnm hA hK hP hD hS hl hQ
  have hl : lv_has ls 4 [(0, .ref mo), (1, .int x), (2, .int i)] := hl
  refine lv_aload_n hx hb dX5_read_0 rfl (lv_at hl 0 rfl) ?_
  refine lv_iload_n hx hb dX5_read_1 rfl (lv_at hl 1 rfl) ?_
  rcases hfx with hf | ⟨f, hf, rfl, ht⟩
  · skip
    refine k_vi (As := [.int x]) (rest := []) (w2 := fun u : Unit => (wM cI cZ cJ mo se co ou le wo ma pl tl tm th na si pa ta thr G ky DE cn got S0 C0 O0 L0 W0 S1 C1 O1 L1 W1 MP PL ML DL TH NM SZ PT TK)) ⟨hx, hb, hml, hown, hts⟩ (c_m_isFile_n l D cI cZ cJ mo se co ou le wo ma pl tl tm th na si pa ta thr G ky DE cn got S0 C0 O0 L0 W0 S1 C1 O1 L1 W1 MP PL ML DL TH NM SZ PT TK x hf) (cwV 1 hts gX5_read_X5_isFile rfl rfl rfl (by decide +kernel) ⟨Nat.le_of_ble_eq_true rfl, Nat.le_of_ble_eq_true rfl⟩) hP hD hK hS hA [0, 1, 2, 3, 4, 5, 6, 7, 8, 9, 10, 11, 12, 13, 14] [] [0, 1, 2, 3, 4, 5, 6, 7, 8, 9, 10, 11, 12, 13, 14] rfl rfl (by decide) (fun u => rfl) rfl rfl (q0 := 0) rfl rfl hl.1 rfl (Nat.le_of_ble_eq_true rfl) dX5_read_2 ⟨Nat.le_of_ble_eq_true rfl, Nat.le_of_ble_eq_true rfl⟩ (fun r u H locs hu1 hP hD hS => ?_)
    refine k_t1 (show r = 0 from hu1) ?_
    refine lv_if_eq (tgt := 26) hx hb dX5_read_5 (by decide) (fun c1 => ?_) (fun c1 => ?_)
    · skip
      refine lv_iconst (v := nI 0) hx hb dX5_read_26 (by decide) ?_
      refine lv_istore_n (lv' := [(3, .int (nI 0)), (0, .ref mo), (1, .int x), (2, .int i)]) hx hb dX5_read_27 rfl hl (by decide) rfl (fun ls hl => ?_)
      refine lv_iload_n hx hb dX5_read_28 rfl (lv_at hl 0 rfl) ?_
      refine lv_if_ne (tgt := 38) hx hb dX5_read_29 (by decide) (fun cb => ?_) (fun cb => ?_)
      · skip
        exact absurd rfl cb
      · skip
        refine lv_aload_n hx hb dX5_read_32 rfl (lv_at hl 1 rfl) ?_
        refine lv_iconst (v := nI 1) hx hb dX5_read_33 (by decide) ?_
        refine k_vi (As := [.int (nI 1)]) (rest := []) (w2 := fun u : Unit => (wM cI cZ cJ mo se co ou le wo ma pl tl tm th na si pa ta 1 G ky DE cn got S0 C0 O0 L0 W0 S1 C1 O1 L1 W1 MP PL ML DL TH NM SZ PT TK)) ⟨hx, hb, hml, hown, hts⟩ (c_m_raise l D cI cZ cJ mo se co ou le wo ma pl tl tm th na si pa ta thr G ky DE cn got S0 C0 O0 L0 W0 S1 C1 O1 L1 W1 MP PL ML DL TH NM SZ PT TK (nI 1)) (cwV 1 hts gX5_read_X5_raise rfl rfl rfl (by decide +kernel) ⟨Nat.le_of_ble_eq_true rfl, Nat.le_of_ble_eq_true rfl⟩) hP hD hK hS hA [0, 1, 2, 3, 4, 5, 6, 7, 8, 9, 10, 11, 12, 13, 14] [] [0, 1, 2, 3, 4, 5, 6, 7, 8, 9, 10, 11, 12, 13, 14] rfl rfl (by decide) (fun u => rfl) rfl rfl (q0 := 0) rfl rfl hl.1 rfl (Nat.le_of_ble_eq_true rfl) dX5_read_34 ⟨Nat.le_of_ble_eq_true rfl, Nat.le_of_ble_eq_true rfl⟩ (fun r u H locs hu2 hP hD hS => ?_)
        refine k_t1 (show r = 0 from hu2) ?_
        exact k_reti () hx hb hr hK hS hlk dX5_read_37 hP hD (by exact rfl) hQ
    · skip
      exact absurd rfl c1
  · skip
    refine k_vi (As := [.int (nI f)]) (rest := []) (w2 := fun u : Unit => (wM cI cZ cJ mo se co ou le wo ma pl tl tm th na si pa ta thr G ky DE cn got S0 C0 O0 L0 W0 S1 C1 O1 L1 W1 MP PL ML DL TH NM SZ PT TK)) ⟨hx, hb, hml, hown, hts⟩ (c_m_isFile_y l D cI cZ cJ mo se co ou le wo ma pl tl tm th na si pa ta thr G ky DE cn got S0 C0 O0 L0 W0 S1 C1 O1 L1 W1 MP PL ML DL TH NM SZ PT TK f hf ht) (cwV 1 hts gX5_read_X5_isFile rfl rfl rfl (by decide +kernel) ⟨Nat.le_of_ble_eq_true rfl, Nat.le_of_ble_eq_true rfl⟩) hP hD hK hS hA [0, 1, 2, 3, 4, 5, 6, 7, 8, 9, 10, 11, 12, 13, 14] [] [0, 1, 2, 3, 4, 5, 6, 7, 8, 9, 10, 11, 12, 13, 14] rfl rfl (by decide) (fun u => rfl) rfl rfl (q0 := 0) rfl rfl hl.1 rfl (Nat.le_of_ble_eq_true rfl) dX5_read_2 ⟨Nat.le_of_ble_eq_true rfl, Nat.le_of_ble_eq_true rfl⟩ (fun r u H locs hu3 hP hD hS => ?_)
    refine k_t1 (show r = 1 from hu3) ?_
    refine lv_if_eq (tgt := 26) hx hb dX5_read_5 (by decide) (fun c1 => ?_) (fun c1 => ?_)
    · skip
      exact absurd c1 (by decide)
    · skip
      refine lv_iload_n hx hb dX5_read_8 rfl (lv_at hl 2 rfl) ?_
      refine lv_if_lt (tgt := 26) hx hb dX5_read_9 (by decide) (fun c2 => ?_) (fun c2 => ?_)
      · skip
        refine lv_iconst (v := nI 0) hx hb dX5_read_26 (by decide) ?_
        refine lv_istore_n (lv' := [(3, .int (nI 0)), (0, .ref mo), (1, .int (nI f)), (2, .int i)]) hx hb dX5_read_27 rfl hl (by decide) rfl (fun ls hl => ?_)
        refine lv_iload_n hx hb dX5_read_28 rfl (lv_at hl 0 rfl) ?_
        refine lv_if_ne (tgt := 38) hx hb dX5_read_29 (by decide) (fun cb => ?_) (fun cb => ?_)
        · skip
          exact absurd rfl cb
        · skip
          refine lv_aload_n hx hb dX5_read_32 rfl (lv_at hl 1 rfl) ?_
          refine lv_iconst (v := nI 1) hx hb dX5_read_33 (by decide) ?_
          refine k_vi (As := [.int (nI 1)]) (rest := []) (w2 := fun u : Unit => (wM cI cZ cJ mo se co ou le wo ma pl tl tm th na si pa ta 1 G ky DE cn got S0 C0 O0 L0 W0 S1 C1 O1 L1 W1 MP PL ML DL TH NM SZ PT TK)) ⟨hx, hb, hml, hown, hts⟩ (c_m_raise l D cI cZ cJ mo se co ou le wo ma pl tl tm th na si pa ta thr G ky DE cn got S0 C0 O0 L0 W0 S1 C1 O1 L1 W1 MP PL ML DL TH NM SZ PT TK (nI 1)) (cwV 1 hts gX5_read_X5_raise rfl rfl rfl (by decide +kernel) ⟨Nat.le_of_ble_eq_true rfl, Nat.le_of_ble_eq_true rfl⟩) hP hD hK hS hA [0, 1, 2, 3, 4, 5, 6, 7, 8, 9, 10, 11, 12, 13, 14] [] [0, 1, 2, 3, 4, 5, 6, 7, 8, 9, 10, 11, 12, 13, 14] rfl rfl (by decide) (fun u => rfl) rfl rfl (q0 := 0) rfl rfl hl.1 rfl (Nat.le_of_ble_eq_true rfl) dX5_read_34 ⟨Nat.le_of_ble_eq_true rfl, Nat.le_of_ble_eq_true rfl⟩ (fun r u H locs hu4 hP hD hS => ?_)
          refine k_t1 (show r = 0 from hu4) ?_
          exact k_reti () hx hb hr hK hS hlk dX5_read_37 hP hD (by exact rfl) hQ
      · skip
        refine lv_iload_n hx hb dX5_read_12 rfl (lv_at hl 2 rfl) ?_
        refine lv_aload_n hx hb dX5_read_13 rfl (lv_at hl 0 rfl) ?_
        refine va_get (D := D) (ci := 5) (v := .ref si) (C := RX5) (T := TX5) (N := 20) hx hb hts (by decide +kernel) hown hK hP 0 rfl rfl 16 (by decide) (hts (.fieldLink RX5 45 "VeiledFilesModel" "size" "[I") (by decide +kernel)) (fun _ h9 => h9) rfl dX5_read_14 ?_
        refine lv_iload_n hx hb dX5_read_17 rfl (lv_at hl 1 rfl) ?_
        refine k_iald hx hb hK hP 12 0 rfl rfl f (by omega) (by omega) (v := nI (SZ f)) (rfl) dX5_read_18 ?_
        refine lv_icmp_ge (tgt := 26) hx hb dX5_read_19 (by decide) (fun c3 => ?_) (fun c3 => ?_)
        · skip
          refine lv_iconst (v := nI 0) hx hb dX5_read_26 (by decide) ?_
          refine lv_istore_n (lv' := [(3, .int (nI 0)), (0, .ref mo), (1, .int (nI f)), (2, .int i)]) hx hb dX5_read_27 rfl hl (by decide) rfl (fun ls hl => ?_)
          refine lv_iload_n hx hb dX5_read_28 rfl (lv_at hl 0 rfl) ?_
          refine lv_if_ne (tgt := 38) hx hb dX5_read_29 (by decide) (fun cb => ?_) (fun cb => ?_)
          · skip
            exact absurd rfl cb
          · skip
            refine lv_aload_n hx hb dX5_read_32 rfl (lv_at hl 1 rfl) ?_
            refine lv_iconst (v := nI 1) hx hb dX5_read_33 (by decide) ?_
            refine k_vi (As := [.int (nI 1)]) (rest := []) (w2 := fun u : Unit => (wM cI cZ cJ mo se co ou le wo ma pl tl tm th na si pa ta 1 G ky DE cn got S0 C0 O0 L0 W0 S1 C1 O1 L1 W1 MP PL ML DL TH NM SZ PT TK)) ⟨hx, hb, hml, hown, hts⟩ (c_m_raise l D cI cZ cJ mo se co ou le wo ma pl tl tm th na si pa ta thr G ky DE cn got S0 C0 O0 L0 W0 S1 C1 O1 L1 W1 MP PL ML DL TH NM SZ PT TK (nI 1)) (cwV 1 hts gX5_read_X5_raise rfl rfl rfl (by decide +kernel) ⟨Nat.le_of_ble_eq_true rfl, Nat.le_of_ble_eq_true rfl⟩) hP hD hK hS hA [0, 1, 2, 3, 4, 5, 6, 7, 8, 9, 10, 11, 12, 13, 14] [] [0, 1, 2, 3, 4, 5, 6, 7, 8, 9, 10, 11, 12, 13, 14] rfl rfl (by decide) (fun u => rfl) rfl rfl (q0 := 0) rfl rfl hl.1 rfl (Nat.le_of_ble_eq_true rfl) dX5_read_34 ⟨Nat.le_of_ble_eq_true rfl, Nat.le_of_ble_eq_true rfl⟩ (fun r u H locs hu5 hP hD hS => ?_)
            refine k_t1 (show r = 0 from hu5) ?_
            exact k_reti () hx hb hr hK hS hlk dX5_read_37 hP hD (by exact rfl) hQ
        · skip
          rcases hbad with h | h | ⟨f2, hf2, he, ht2, h⟩
          · exact absurd h c2
          · exact absurd ht (notF_live hf h)
          · exact absurd ((live_eq hf hf2 he) ▸ h) c3

set_option maxHeartbeats 800000 in
set_option maxRecDepth 100000 in
theorem c_m_read_D (l : Launch) (D : va_G) (cI cZ cJ : ClassId) (mo : Nat) (se : Nat) (co : Nat) (ou : Nat) (le : Nat) (wo : Nat) (ma : Nat) (pl : Nat) (tl : Nat) (tm : Nat) (th : Nat) (na : Nat) (si : Nat) (pa : Nat) (ta : Nat) (thr : Int32) (G : Int32) (ky : Int32) (DE : Int32) (cn : Nat) (got : Int32) (S0 : Nat → Nat → Int32) (C0 : Nat → Int32) (O0 : Nat → Int32) (L0 : Nat → Int32) (W0 : Nat → Nat → Int32) (S1 : Nat → Nat → Int32) (C1 : Nat → Int32) (O1 : Nat → Int32) (L1 : Nat → Int32) (W1 : Nat → Nat → Int32) (MP : Nat → Nat) (PL : Nat → Int32) (ML : Nat → Int32) (DL : Nat → Int32) (TH : Nat → Int32) (NM : Nat → Int64) (SZ : Nat → Nat) (PT : Nat → Nat) (TK : Nat → Int32) (f i : Nat) (hf : f < 8) (ht : ¬ TH f = 0) (hi : i < SZ f) (hs : SZ f ≤ 24) (hDE : ¬ DE = 0) : KI l yX5_read wsX5_read ({ frames := 1, cells := 0, slots := 0, locals := 21 }) D (kty cI cZ cJ) [.ref mo, .int (nI f), .int (nI i)] (wM cI cZ cJ mo se co ou le wo ma pl tl tm th na si pa ta thr G ky DE cn got S0 C0 O0 L0 W0 S1 C1 O1 L1 W1 MP PL ML DL TH NM SZ PT TK) (fun r (_ : Unit) => r = 0) (fun _ : Unit => (wM cI cZ cJ mo se co ou le wo ma pl tl tm th na si pa ta 2 G ky DE cn got S0 C0 O0 L0 W0 S1 C1 O1 L1 W1 MP PL ML DL TH NM SZ PT TK)) 0 0 := by
  refine k_headI (cc := cX5_read) (maxL := 4) (ret := (some .int)) (by decide) rfl (Nat.le_of_ble_eq_true rfl) ?_
  intro p e s m below meth c A ls args Q hx hb hr hml hts hown hlk hnm hA hK hP hD hS hl hQ
  have hl : lv_has ls 4 [(0, .ref mo), (1, .int (nI f)), (2, .int (nI i))] := hl
  refine lv_aload_n hx hb dX5_read_0 rfl (lv_at hl 0 rfl) ?_
  refine lv_iload_n hx hb dX5_read_1 rfl (lv_at hl 1 rfl) ?_
  refine k_vi (As := [.int (nI f)]) (rest := []) (w2 := fun u : Unit => (wM cI cZ cJ mo se co ou le wo ma pl tl tm th na si pa ta thr G ky DE cn got S0 C0 O0 L0 W0 S1 C1 O1 L1 W1 MP PL ML DL TH NM SZ PT TK)) ⟨hx, hb, hml, hown, hts⟩ (c_m_isFile_y l D cI cZ cJ mo se co ou le wo ma pl tl tm th na si pa ta thr G ky DE cn got S0 C0 O0 L0 W0 S1 C1 O1 L1 W1 MP PL ML DL TH NM SZ PT TK f hf ht) (cwV 1 hts gX5_read_X5_isFile rfl rfl rfl (by decide +kernel) ⟨Nat.le_of_ble_eq_true rfl, Nat.le_of_ble_eq_true rfl⟩) hP hD hK hS hA [0, 1, 2, 3, 4, 5, 6, 7, 8, 9, 10, 11, 12, 13, 14] [] [0, 1, 2, 3, 4, 5, 6, 7, 8, 9, 10, 11, 12, 13, 14] rfl rfl (by decide) (fun u => rfl) rfl rfl (q0 := 0) rfl rfl hl.1 rfl (Nat.le_of_ble_eq_true rfl) dX5_read_2 ⟨Nat.le_of_ble_eq_true rfl, Nat.le_of_ble_eq_true rfl⟩ (fun r u H locs hu1 hP hD hS => ?_)
  refine k_t1 (show r = 1 from hu1) ?_
  refine lv_if_eq (tgt := 26) hx hb dX5_read_5 (by decide) (fun c1 => ?_) (fun c1 => ?_)
  · skip
    exact absurd c1 (by decide)
  · skip
    refine lv_iload_n hx hb dX5_read_8 rfl (lv_at hl 2 rfl) ?_
    refine lv_if_lt (tgt := 26) hx hb dX5_read_9 (by decide) (fun c2 => ?_) (fun c2 => ?_)
    · skip
      exact absurd c2 (nI_pos (by omega))
    · skip
      refine lv_iload_n hx hb dX5_read_12 rfl (lv_at hl 2 rfl) ?_
      refine lv_aload_n hx hb dX5_read_13 rfl (lv_at hl 0 rfl) ?_
      refine va_get (D := D) (ci := 5) (v := .ref si) (C := RX5) (T := TX5) (N := 20) hx hb hts (by decide +kernel) hown hK hP 0 rfl rfl 16 (by decide) (hts (.fieldLink RX5 45 "VeiledFilesModel" "size" "[I") (by decide +kernel)) (fun _ h9 => h9) rfl dX5_read_14 ?_
      refine lv_iload_n hx hb dX5_read_17 rfl (lv_at hl 1 rfl) ?_
      refine k_iald hx hb hK hP 12 0 rfl rfl f (by omega) (by omega) (v := nI (SZ f)) (rfl) dX5_read_18 ?_
      refine k_icmp_ge (tgt := 26) hx hb (by omega) (by omega) dX5_read_19 (by decide) (fun c3 => ?_) (fun c3 => ?_)
      · skip
        omega
      · skip
        refine lv_iconst (v := nI 1) hx hb dX5_read_22 (by decide) ?_
        refine lv_goto (tgt := 27) hx hb dX5_read_23 (by decide) ?_
        refine lv_istore_n (lv' := [(3, .int (nI 1)), (0, .ref mo), (1, .int (nI f)), (2, .int (nI i))]) hx hb dX5_read_27 rfl hl (by decide) rfl (fun ls hl => ?_)
        refine lv_iload_n hx hb dX5_read_28 rfl (lv_at hl 0 rfl) ?_
        refine lv_if_ne (tgt := 38) hx hb dX5_read_29 (by decide) (fun c4 => ?_) (fun c4 => ?_)
        · skip
          refine lv_aload_n hx hb dX5_read_38 rfl (lv_at hl 1 rfl) ?_
          refine va_get (D := D) (ci := 5) (v := .int DE) (C := RX5) (T := TX5) (N := 20) hx hb hts (by decide +kernel) hown hK hP 0 rfl rfl 3 (by decide) (hts (.fieldLink RX5 131 "VeiledFilesModel" "dead" "Z") (by decide +kernel)) (fun _ h9 => h9) rfl dX5_read_39 ?_
          refine lv_if_ne (tgt := 71) hx hb dX5_read_42 (by decide) (fun c5 => ?_) (fun c5 => ?_)
          · skip
            refine lv_aload_n hx hb dX5_read_71 rfl (lv_at hl 1 rfl) ?_
            refine lv_iconst (v := nI 2) hx hb dX5_read_72 (by decide) ?_
            refine k_vi (As := [.int (nI 2)]) (rest := []) (w2 := fun u : Unit => (wM cI cZ cJ mo se co ou le wo ma pl tl tm th na si pa ta 2 G ky DE cn got S0 C0 O0 L0 W0 S1 C1 O1 L1 W1 MP PL ML DL TH NM SZ PT TK)) ⟨hx, hb, hml, hown, hts⟩ (c_m_raise l D cI cZ cJ mo se co ou le wo ma pl tl tm th na si pa ta thr G ky DE cn got S0 C0 O0 L0 W0 S1 C1 O1 L1 W1 MP PL ML DL TH NM SZ PT TK (nI 2)) (cwV 1 hts gX5_read_X5_raise rfl rfl rfl (by decide +kernel) ⟨Nat.le_of_ble_eq_true rfl, Nat.le_of_ble_eq_true rfl⟩) hP hD hK hS hA [0, 1, 2, 3, 4, 5, 6, 7, 8, 9, 10, 11, 12, 13, 14] [] [0, 1, 2, 3, 4, 5, 6, 7, 8, 9, 10, 11, 12, 13, 14] rfl rfl (by decide) (fun u => rfl) rfl rfl (q0 := 0) rfl rfl hl.1 rfl (Nat.le_of_ble_eq_true rfl) dX5_read_73 ⟨Nat.le_of_ble_eq_true rfl, Nat.le_of_ble_eq_true rfl⟩ (fun r u H locs hu2 hP hD hS => ?_)
            refine k_t1 (show r = 0 from hu2) ?_
            exact k_reti () hx hb hr hK hS hlk dX5_read_76 hP hD (by exact rfl) hQ
          · skip
            exact absurd c5 hDE
        · skip
          exact absurd c4 (by decide)

set_option maxHeartbeats 800000 in
set_option maxRecDepth 100000 in
theorem c_m_read_A (l : Launch) (D : va_G) (cI cZ cJ : ClassId) (mo : Nat) (se : Nat) (co : Nat) (ou : Nat) (le : Nat) (wo : Nat) (ma : Nat) (pl : Nat) (tl : Nat) (tm : Nat) (th : Nat) (na : Nat) (si : Nat) (pa : Nat) (ta : Nat) (thr : Int32) (G : Int32) (ky : Int32) (DE : Int32) (cn : Nat) (got : Int32) (S0 : Nat → Nat → Int32) (C0 : Nat → Int32) (O0 : Nat → Int32) (L0 : Nat → Int32) (W0 : Nat → Nat → Int32) (S1 : Nat → Nat → Int32) (C1 : Nat → Int32) (O1 : Nat → Int32) (L1 : Nat → Int32) (W1 : Nat → Nat → Int32) (MP : Nat → Nat) (PL : Nat → Int32) (ML : Nat → Int32) (DL : Nat → Int32) (TH : Nat → Int32) (NM : Nat → Int64) (SZ : Nat → Nat) (PT : Nat → Nat) (TK : Nat → Int32) (f i d l0 : Nat) (hDE : DE = 0) (hf : f < 8) (ht : ¬ TH f = 0) (hi : i < SZ f) (hs : SZ f ≤ 24) (hdd : d = PT (6 * f + i / 4)) (hd : d < 64) (hMl : MP (d / 8) = l0) (hl4 : l0 < 4) (hc : cn < 100000) (j0 : Nat) (hj : j0 < 3) (hw : ∀ up, up < j0 → wholeB ky 0 C0 S0 (pathB 4 l0 up)) (hn : ¬ wholeB ky 0 C0 S0 (pathB 4 l0 j0)) : KI l yX5_read wsX5_read ({ frames := 5, cells := 0, slots := 0, locals := 127 }) D (kty cI cZ cJ) [.ref mo, .int (nI f), .int (nI i)] (wM cI cZ cJ mo se co ou le wo ma pl tl tm th na si pa ta thr G ky DE cn got S0 C0 O0 L0 W0 S1 C1 O1 L1 W1 MP PL ML DL TH NM SZ PT TK) (fun r (_ : Nat → Int32) => r = 0) (fun u : Nat → Int32 => (wM cI cZ cJ mo se co ou le wo ma pl tl tm th na si pa ta 2 (dstep G) ky 1 (cn + 1) got S0 C0 O0 L0 W0 S1 C1 O1 L1 W1 (upN MP (d / 8) (drw 2 G)) u (upd ML (cn % 64) (nI l0)) (upd DL (cn % 64) (-1)) TH NM SZ PT TK)) 0 0 := by
  refine k_headI (cc := cX5_read) (maxL := 4) (ret := (some .int)) (by decide) rfl (Nat.le_of_ble_eq_true rfl) ?_
  intro p e s m below meth c A ls args Q hx hb hr hml hts hown hlk hnm hA hK hP hD hS hl hQ
  have hl : lv_has ls 4 [(0, .ref mo), (1, .int (nI f)), (2, .int (nI i))] := hl
  refine lv_aload_n hx hb dX5_read_0 rfl (lv_at hl 0 rfl) ?_
  refine lv_iload_n hx hb dX5_read_1 rfl (lv_at hl 1 rfl) ?_
  refine k_vi (As := [.int (nI f)]) (rest := []) (w2 := fun u : Unit => (wM cI cZ cJ mo se co ou le wo ma pl tl tm th na si pa ta thr G ky DE cn got S0 C0 O0 L0 W0 S1 C1 O1 L1 W1 MP PL ML DL TH NM SZ PT TK)) ⟨hx, hb, hml, hown, hts⟩ (c_m_isFile_y l D cI cZ cJ mo se co ou le wo ma pl tl tm th na si pa ta thr G ky DE cn got S0 C0 O0 L0 W0 S1 C1 O1 L1 W1 MP PL ML DL TH NM SZ PT TK f hf ht) (cwV 1 hts gX5_read_X5_isFile rfl rfl rfl (by decide +kernel) ⟨Nat.le_of_ble_eq_true rfl, Nat.le_of_ble_eq_true rfl⟩) hP hD hK hS hA [0, 1, 2, 3, 4, 5, 6, 7, 8, 9, 10, 11, 12, 13, 14] [] [0, 1, 2, 3, 4, 5, 6, 7, 8, 9, 10, 11, 12, 13, 14] rfl rfl (by decide) (fun u => rfl) rfl rfl (q0 := 0) rfl rfl hl.1 rfl (Nat.le_of_ble_eq_true rfl) dX5_read_2 ⟨Nat.le_of_ble_eq_true rfl, Nat.le_of_ble_eq_true rfl⟩ (fun r u H locs hu1 hP hD hS => ?_)
  refine k_t1 (show r = 1 from hu1) ?_
  refine lv_if_eq (tgt := 26) hx hb dX5_read_5 (by decide) (fun c1 => ?_) (fun c1 => ?_)
  · skip
    exact absurd c1 (by decide)
  · skip
    refine lv_iload_n hx hb dX5_read_8 rfl (lv_at hl 2 rfl) ?_
    refine lv_if_lt (tgt := 26) hx hb dX5_read_9 (by decide) (fun c2 => ?_) (fun c2 => ?_)
    · skip
      exact absurd c2 (nI_pos (by omega))
    · skip
      refine lv_iload_n hx hb dX5_read_12 rfl (lv_at hl 2 rfl) ?_
      refine lv_aload_n hx hb dX5_read_13 rfl (lv_at hl 0 rfl) ?_
      refine va_get (D := D) (ci := 5) (v := .ref si) (C := RX5) (T := TX5) (N := 20) hx hb hts (by decide +kernel) hown hK hP 0 rfl rfl 16 (by decide) (hts (.fieldLink RX5 45 "VeiledFilesModel" "size" "[I") (by decide +kernel)) (fun _ h9 => h9) rfl dX5_read_14 ?_
      refine lv_iload_n hx hb dX5_read_17 rfl (lv_at hl 1 rfl) ?_
      refine k_iald hx hb hK hP 12 0 rfl rfl f (by omega) (by omega) (v := nI (SZ f)) (rfl) dX5_read_18 ?_
      refine k_icmp_ge (tgt := 26) hx hb (by omega) (by omega) dX5_read_19 (by decide) (fun c3 => ?_) (fun c3 => ?_)
      · skip
        omega
      · skip
        refine lv_iconst (v := nI 1) hx hb dX5_read_22 (by decide) ?_
        refine lv_goto (tgt := 27) hx hb dX5_read_23 (by decide) ?_
        refine lv_istore_n (lv' := [(3, .int (nI 1)), (0, .ref mo), (1, .int (nI f)), (2, .int (nI i))]) hx hb dX5_read_27 rfl hl (by decide) rfl (fun ls hl => ?_)
        refine lv_iload_n hx hb dX5_read_28 rfl (lv_at hl 0 rfl) ?_
        refine lv_if_ne (tgt := 38) hx hb dX5_read_29 (by decide) (fun c4 => ?_) (fun c4 => ?_)
        · skip
          refine lv_aload_n hx hb dX5_read_38 rfl (lv_at hl 1 rfl) ?_
          refine va_get (D := D) (ci := 5) (v := .int DE) (C := RX5) (T := TX5) (N := 20) hx hb hts (by decide +kernel) hown hK hP 0 rfl rfl 3 (by decide) (hts (.fieldLink RX5 131 "VeiledFilesModel" "dead" "Z") (by decide +kernel)) (fun _ h9 => h9) rfl dX5_read_39 ?_
          refine lv_if_ne (tgt := 71) hx hb dX5_read_42 (by decide) (fun c5 => ?_) (fun c5 => ?_)
          · skip
            exact absurd hDE c5
          · skip
            refine lv_aload_n hx hb dX5_read_45 rfl (lv_at hl 1 rfl) ?_
            refine lv_aload_n hx hb dX5_read_46 rfl (lv_at hl 1 rfl) ?_
            refine va_get (D := D) (ci := 5) (v := .ref pa) (C := RX5) (T := TX5) (N := 20) hx hb hts (by decide +kernel) hown hK hP 0 rfl rfl 17 (by decide) (hts (.fieldLink RX5 48 "VeiledFilesModel" "part" "[I") (by decide +kernel)) (fun _ h9 => h9) rfl dX5_read_47 ?_
            refine lv_bipush (v := nI 6) hx hb dX5_read_50 (by decide) ?_
            refine lv_iload_n hx hb dX5_read_52 rfl (lv_at hl 2 rfl) ?_
            refine lv_imul hx hb dX5_read_53 ?_
            refine k_t1 (show (nI 6) * (nI f) = nI (6 * f) from pk_mul _ _) ?_
            refine lv_iload_n hx hb dX5_read_54 rfl (lv_at hl 3 rfl) ?_
            refine lv_iconst (v := nI 4) hx hb dX5_read_55 (by decide) ?_
            refine lv_idiv hx hb dX5_read_56 (by decide) ?_
            refine k_t1 (show (nI i) / (nI 4) = nI (i / 4) from pk_div (by omega) (by omega) (by omega)) ?_
            refine lv_iadd hx hb dX5_read_57 ?_
            refine k_t1 (show (nI (6 * f)) + (nI (i / 4)) = nI (6 * f + (i / 4)) from nI_add _ _) ?_
            refine k_iald hx hb hK hP 13 0 rfl rfl (6 * f + (i / 4)) (by omega) (by omega) (v := nI d) (congrArg nI hdd.symm) dX5_read_58 ?_
            refine lv_iload_n hx hb dX5_read_59 rfl (lv_at hl 3 rfl) ?_
            refine lv_iconst (v := nI 4) hx hb dX5_read_60 (by decide) ?_
            refine lv_irem hx hb dX5_read_61 (by decide) ?_
            refine k_t1 (show (nI i) - (nI i) / (nI 4) * (nI 4) = nI (i % 4) from pk_rem (by omega) (by omega) (by omega)) ?_
            refine lv_iconst (v := nI 0) hx hb dX5_read_62 (by decide) ?_
            refine lv_iconst (v := nI 0) hx hb dX5_read_63 (by decide) ?_
            refine lv_iconst (v := nI 0) hx hb dX5_read_64 (by decide) ?_
            refine k_vi (As := [.int (nI d), .int (nI (i % 4)), .int (nI 0), .int (nI 0), .int (nI 0)]) (rest := []) (w2 := fun P1 : Nat → Int32 => (wM cI cZ cJ mo se co ou le wo ma pl tl tm th na si pa ta thr (dstep G) ky 1 (cn + 1) got S0 C0 O0 L0 W0 S1 C1 O1 L1 W1 (upN MP (d / 8) (drw 2 G)) P1 (upd ML (cn % 64) (nI l0)) (upd DL (cn % 64) (-1)) TH NM SZ PT TK)) ⟨hx, hb, hml, hown, hts⟩ (c_m_acc_A l D cI cZ cJ mo se co ou le wo ma pl tl tm th na si pa ta thr G ky DE cn got S0 C0 O0 L0 W0 S1 C1 O1 L1 W1 MP PL ML DL TH NM SZ PT TK d l0 (i % 4) 0 0 (nI 0) hd hMl hl4 hc j0 hj hw hn) (cwV 5 hts gX5_read_X5_access rfl rfl rfl (by decide +kernel) ⟨Nat.le_of_ble_eq_true rfl, Nat.le_of_ble_eq_true rfl⟩) hP hD hK hS hA [0, 1, 2, 3, 4, 5, 6, 7, 8, 9, 10, 11, 12, 13, 14] [] [0, 1, 2, 3, 4, 5, 6, 7, 8, 9, 10, 11, 12, 13, 14] rfl rfl (by decide) (fun u => rfl) rfl rfl (q0 := 0) rfl rfl hl.1 rfl (Nat.le_of_ble_eq_true rfl) dX5_read_65 ⟨Nat.le_of_ble_eq_true rfl, Nat.le_of_ble_eq_true rfl⟩ (fun r P1 H locs hu2 hP hD hS => ?_)
            refine k_t1 (show r = 0 from hu2) ?_
            refine lv_if_ne (tgt := 77) hx hb dX5_read_68 (by decide) (fun c6 => ?_) (fun c6 => ?_)
            · skip
              exact absurd rfl c6
            · skip
              refine lv_aload_n hx hb dX5_read_71 rfl (lv_at hl 1 rfl) ?_
              refine lv_iconst (v := nI 2) hx hb dX5_read_72 (by decide) ?_
              refine k_vi (As := [.int (nI 2)]) (rest := []) (w2 := fun u : Unit => (wM cI cZ cJ mo se co ou le wo ma pl tl tm th na si pa ta 2 (dstep G) ky 1 (cn + 1) got S0 C0 O0 L0 W0 S1 C1 O1 L1 W1 (upN MP (d / 8) (drw 2 G)) P1 (upd ML (cn % 64) (nI l0)) (upd DL (cn % 64) (-1)) TH NM SZ PT TK)) ⟨hx, hb, hml, hown, hts⟩ (c_m_raise l D cI cZ cJ mo se co ou le wo ma pl tl tm th na si pa ta thr (dstep G) ky 1 (cn + 1) got S0 C0 O0 L0 W0 S1 C1 O1 L1 W1 (upN MP (d / 8) (drw 2 G)) P1 (upd ML (cn % 64) (nI l0)) (upd DL (cn % 64) (-1)) TH NM SZ PT TK (nI 2)) (cwV 1 hts gX5_read_X5_raise rfl rfl rfl (by decide +kernel) ⟨Nat.le_of_ble_eq_true rfl, Nat.le_of_ble_eq_true rfl⟩) hP hD hK hS hA [0, 1, 2, 3, 4, 5, 6, 7, 8, 9, 10, 11, 12, 13, 14] [] [0, 1, 2, 3, 4, 5, 6, 7, 8, 9, 10, 11, 12, 13, 14] rfl rfl (by decide) (fun u => rfl) rfl rfl (q0 := 0) rfl rfl hl.1 rfl (Nat.le_of_ble_eq_true rfl) dX5_read_73 ⟨Nat.le_of_ble_eq_true rfl, Nat.le_of_ble_eq_true rfl⟩ (fun r u H locs hu3 hP hD hS => ?_)
              refine k_t1 (show r = 0 from hu3) ?_
              exact k_reti P1 hx hb hr hK hS hlk dX5_read_76 hP hD (by exact rfl) hQ
        · skip
          exact absurd c4 (by decide)

set_option maxHeartbeats 800000 in
set_option maxRecDepth 100000 in
theorem c_m_read_B (l : Launch) (D : va_G) (cI cZ cJ : ClassId) (mo : Nat) (se : Nat) (co : Nat) (ou : Nat) (le : Nat) (wo : Nat) (ma : Nat) (pl : Nat) (tl : Nat) (tm : Nat) (th : Nat) (na : Nat) (si : Nat) (pa : Nat) (ta : Nat) (thr : Int32) (G : Int32) (ky : Int32) (DE : Int32) (cn : Nat) (got : Int32) (S0 : Nat → Nat → Int32) (C0 : Nat → Int32) (O0 : Nat → Int32) (L0 : Nat → Int32) (W0 : Nat → Nat → Int32) (S1 : Nat → Nat → Int32) (C1 : Nat → Int32) (O1 : Nat → Int32) (L1 : Nat → Int32) (W1 : Nat → Nat → Int32) (MP : Nat → Nat) (PL : Nat → Int32) (ML : Nat → Int32) (DL : Nat → Int32) (TH : Nat → Int32) (NM : Nat → Int64) (SZ : Nat → Nat) (PT : Nat → Nat) (TK : Nat → Int32) (f i d l0 : Nat) (hDE : DE = 0) (hf : f < 8) (ht : ¬ TH f = 0) (hi : i < SZ f) (hs : SZ f ≤ 24) (hdd : d = PT (6 * f + i / 4)) (hd : d < 64) (hMl : MP (d / 8) = l0) (hl4 : l0 < 4) (hc : cn < 100000) (O0a L0a : Nat → Int32) (W0a : Nat → Nat → Int32) (hO0a : O0a = tkO 8 (rowsP ky 0 C0 S0 4 l0) O0 3) (hL0a : L0a = tkL 8 (rowsP ky 0 C0 S0 4 l0) L0 3) (hW0a : W0a = tkW 8 (rowsP ky 0 C0 S0 4 l0) W0 3) (hw0 : ∀ up, up < 3 → wholeB ky 0 C0 S0 (pathB 4 l0 up)) (hv0 : ∀ n, n < 8 → O0a n ≠ 0 → ∃ l0, l0 < 4 ∧ (upd L0a (d / 8) (nI (drw 2 G))) n = nI l0) (M : Nat) (hM : M = entM (W0a (d / 8) (d % 8 / 2)) (d % 8 % 2)) (j0 : Nat) (hj : j0 < 6) (hw : ∀ up, up < j0 → wholeB ky 1 C1 S1 (pathB 32 M up)) (hn : ¬ wholeB ky 1 C1 S1 (pathB 32 M j0)) : KI l yX5_read wsX5_read ({ frames := 6, cells := 0, slots := 0, locals := 153 }) D (kty cI cZ cJ) [.ref mo, .int (nI f), .int (nI i)] (wM cI cZ cJ mo se co ou le wo ma pl tl tm th na si pa ta thr G ky DE cn got S0 C0 O0 L0 W0 S1 C1 O1 L1 W1 MP PL ML DL TH NM SZ PT TK) (fun r (_ : Nat → Int32) => r = 0) (fun u : Nat → Int32 => (wM cI cZ cJ mo se co ou le wo ma pl tl tm th na si pa ta 2 (dstep (dstep G)) ky 1 (cn + 1) got ((pbN ky 0 4 8 l0 (upd L0a (d / 8) (nI (drw 2 G))) (setRow W0a (d / 8) (upd (W0a (d / 8)) (d % 8 / 2) (setE (W0a (d / 8) (d % 8 / 2)) (d % 8 % 2) (nI (drw 5 (dstep G)))))) S0 C0 O0a 3).1) ((pbN ky 0 4 8 l0 (upd L0a (d / 8) (nI (drw 2 G))) (setRow W0a (d / 8) (upd (W0a (d / 8)) (d % 8 / 2) (setE (W0a (d / 8) (d % 8 / 2)) (d % 8 % 2) (nI (drw 5 (dstep G)))))) S0 C0 O0a 3).2.1) ((pbN ky 0 4 8 l0 (upd L0a (d / 8) (nI (drw 2 G))) (setRow W0a (d / 8) (upd (W0a (d / 8)) (d % 8 / 2) (setE (W0a (d / 8) (d % 8 / 2)) (d % 8 % 2) (nI (drw 5 (dstep G)))))) S0 C0 O0a 3).2.2) (upd L0a (d / 8) (nI (drw 2 G))) (setRow W0a (d / 8) (upd (W0a (d / 8)) (d % 8 / 2) (setE (W0a (d / 8) (d % 8 / 2)) (d % 8 % 2) (nI (drw 5 (dstep G)))))) S1 C1 O1 L1 W1 (upN MP (d / 8) (drw 2 G)) u (upd ML (cn % 64) (nI l0)) (upd DL (cn % 64) (nI M)) TH NM SZ PT TK)) 0 0 := by
  refine k_headI (cc := cX5_read) (maxL := 4) (ret := (some .int)) (by decide) rfl (Nat.le_of_ble_eq_true rfl) ?_
  intro p e s m below meth c A ls args Q hx hb hr hml hts hown hlk hnm hA hK hP hD hS hl hQ
  have hl : lv_has ls 4 [(0, .ref mo), (1, .int (nI f)), (2, .int (nI i))] := hl
  refine lv_aload_n hx hb dX5_read_0 rfl (lv_at hl 0 rfl) ?_
  refine lv_iload_n hx hb dX5_read_1 rfl (lv_at hl 1 rfl) ?_
  refine k_vi (As := [.int (nI f)]) (rest := []) (w2 := fun u : Unit => (wM cI cZ cJ mo se co ou le wo ma pl tl tm th na si pa ta thr G ky DE cn got S0 C0 O0 L0 W0 S1 C1 O1 L1 W1 MP PL ML DL TH NM SZ PT TK)) ⟨hx, hb, hml, hown, hts⟩ (c_m_isFile_y l D cI cZ cJ mo se co ou le wo ma pl tl tm th na si pa ta thr G ky DE cn got S0 C0 O0 L0 W0 S1 C1 O1 L1 W1 MP PL ML DL TH NM SZ PT TK f hf ht) (cwV 1 hts gX5_read_X5_isFile rfl rfl rfl (by decide +kernel) ⟨Nat.le_of_ble_eq_true rfl, Nat.le_of_ble_eq_true rfl⟩) hP hD hK hS hA [0, 1, 2, 3, 4, 5, 6, 7, 8, 9, 10, 11, 12, 13, 14] [] [0, 1, 2, 3, 4, 5, 6, 7, 8, 9, 10, 11, 12, 13, 14] rfl rfl (by decide) (fun u => rfl) rfl rfl (q0 := 0) rfl rfl hl.1 rfl (Nat.le_of_ble_eq_true rfl) dX5_read_2 ⟨Nat.le_of_ble_eq_true rfl, Nat.le_of_ble_eq_true rfl⟩ (fun r u H locs hu1 hP hD hS => ?_)
  refine k_t1 (show r = 1 from hu1) ?_
  refine lv_if_eq (tgt := 26) hx hb dX5_read_5 (by decide) (fun c1 => ?_) (fun c1 => ?_)
  · skip
    exact absurd c1 (by decide)
  · skip
    refine lv_iload_n hx hb dX5_read_8 rfl (lv_at hl 2 rfl) ?_
    refine lv_if_lt (tgt := 26) hx hb dX5_read_9 (by decide) (fun c2 => ?_) (fun c2 => ?_)
    · skip
      exact absurd c2 (nI_pos (by omega))
    · skip
      refine lv_iload_n hx hb dX5_read_12 rfl (lv_at hl 2 rfl) ?_
      refine lv_aload_n hx hb dX5_read_13 rfl (lv_at hl 0 rfl) ?_
      refine va_get (D := D) (ci := 5) (v := .ref si) (C := RX5) (T := TX5) (N := 20) hx hb hts (by decide +kernel) hown hK hP 0 rfl rfl 16 (by decide) (hts (.fieldLink RX5 45 "VeiledFilesModel" "size" "[I") (by decide +kernel)) (fun _ h9 => h9) rfl dX5_read_14 ?_
      refine lv_iload_n hx hb dX5_read_17 rfl (lv_at hl 1 rfl) ?_
      refine k_iald hx hb hK hP 12 0 rfl rfl f (by omega) (by omega) (v := nI (SZ f)) (rfl) dX5_read_18 ?_
      refine k_icmp_ge (tgt := 26) hx hb (by omega) (by omega) dX5_read_19 (by decide) (fun c3 => ?_) (fun c3 => ?_)
      · skip
        omega
      · skip
        refine lv_iconst (v := nI 1) hx hb dX5_read_22 (by decide) ?_
        refine lv_goto (tgt := 27) hx hb dX5_read_23 (by decide) ?_
        refine lv_istore_n (lv' := [(3, .int (nI 1)), (0, .ref mo), (1, .int (nI f)), (2, .int (nI i))]) hx hb dX5_read_27 rfl hl (by decide) rfl (fun ls hl => ?_)
        refine lv_iload_n hx hb dX5_read_28 rfl (lv_at hl 0 rfl) ?_
        refine lv_if_ne (tgt := 38) hx hb dX5_read_29 (by decide) (fun c4 => ?_) (fun c4 => ?_)
        · skip
          refine lv_aload_n hx hb dX5_read_38 rfl (lv_at hl 1 rfl) ?_
          refine va_get (D := D) (ci := 5) (v := .int DE) (C := RX5) (T := TX5) (N := 20) hx hb hts (by decide +kernel) hown hK hP 0 rfl rfl 3 (by decide) (hts (.fieldLink RX5 131 "VeiledFilesModel" "dead" "Z") (by decide +kernel)) (fun _ h9 => h9) rfl dX5_read_39 ?_
          refine lv_if_ne (tgt := 71) hx hb dX5_read_42 (by decide) (fun c5 => ?_) (fun c5 => ?_)
          · skip
            exact absurd hDE c5
          · skip
            refine lv_aload_n hx hb dX5_read_45 rfl (lv_at hl 1 rfl) ?_
            refine lv_aload_n hx hb dX5_read_46 rfl (lv_at hl 1 rfl) ?_
            refine va_get (D := D) (ci := 5) (v := .ref pa) (C := RX5) (T := TX5) (N := 20) hx hb hts (by decide +kernel) hown hK hP 0 rfl rfl 17 (by decide) (hts (.fieldLink RX5 48 "VeiledFilesModel" "part" "[I") (by decide +kernel)) (fun _ h9 => h9) rfl dX5_read_47 ?_
            refine lv_bipush (v := nI 6) hx hb dX5_read_50 (by decide) ?_
            refine lv_iload_n hx hb dX5_read_52 rfl (lv_at hl 2 rfl) ?_
            refine lv_imul hx hb dX5_read_53 ?_
            refine k_t1 (show (nI 6) * (nI f) = nI (6 * f) from pk_mul _ _) ?_
            refine lv_iload_n hx hb dX5_read_54 rfl (lv_at hl 3 rfl) ?_
            refine lv_iconst (v := nI 4) hx hb dX5_read_55 (by decide) ?_
            refine lv_idiv hx hb dX5_read_56 (by decide) ?_
            refine k_t1 (show (nI i) / (nI 4) = nI (i / 4) from pk_div (by omega) (by omega) (by omega)) ?_
            refine lv_iadd hx hb dX5_read_57 ?_
            refine k_t1 (show (nI (6 * f)) + (nI (i / 4)) = nI (6 * f + (i / 4)) from nI_add _ _) ?_
            refine k_iald hx hb hK hP 13 0 rfl rfl (6 * f + (i / 4)) (by omega) (by omega) (v := nI d) (congrArg nI hdd.symm) dX5_read_58 ?_
            refine lv_iload_n hx hb dX5_read_59 rfl (lv_at hl 3 rfl) ?_
            refine lv_iconst (v := nI 4) hx hb dX5_read_60 (by decide) ?_
            refine lv_irem hx hb dX5_read_61 (by decide) ?_
            refine k_t1 (show (nI i) - (nI i) / (nI 4) * (nI 4) = nI (i % 4) from pk_rem (by omega) (by omega) (by omega)) ?_
            refine lv_iconst (v := nI 0) hx hb dX5_read_62 (by decide) ?_
            refine lv_iconst (v := nI 0) hx hb dX5_read_63 (by decide) ?_
            refine lv_iconst (v := nI 0) hx hb dX5_read_64 (by decide) ?_
            refine k_vi (As := [.int (nI d), .int (nI (i % 4)), .int (nI 0), .int (nI 0), .int (nI 0)]) (rest := []) (w2 := fun P1 : Nat → Int32 => (wM cI cZ cJ mo se co ou le wo ma pl tl tm th na si pa ta thr (dstep (dstep G)) ky 1 (cn + 1) got ((pbN ky 0 4 8 l0 (upd L0a (d / 8) (nI (drw 2 G))) (setRow W0a (d / 8) (upd (W0a (d / 8)) (d % 8 / 2) (setE (W0a (d / 8) (d % 8 / 2)) (d % 8 % 2) (nI (drw 5 (dstep G)))))) S0 C0 O0a 3).1) ((pbN ky 0 4 8 l0 (upd L0a (d / 8) (nI (drw 2 G))) (setRow W0a (d / 8) (upd (W0a (d / 8)) (d % 8 / 2) (setE (W0a (d / 8) (d % 8 / 2)) (d % 8 % 2) (nI (drw 5 (dstep G)))))) S0 C0 O0a 3).2.1) ((pbN ky 0 4 8 l0 (upd L0a (d / 8) (nI (drw 2 G))) (setRow W0a (d / 8) (upd (W0a (d / 8)) (d % 8 / 2) (setE (W0a (d / 8) (d % 8 / 2)) (d % 8 % 2) (nI (drw 5 (dstep G)))))) S0 C0 O0a 3).2.2) (upd L0a (d / 8) (nI (drw 2 G))) (setRow W0a (d / 8) (upd (W0a (d / 8)) (d % 8 / 2) (setE (W0a (d / 8) (d % 8 / 2)) (d % 8 % 2) (nI (drw 5 (dstep G)))))) S1 C1 O1 L1 W1 (upN MP (d / 8) (drw 2 G)) P1 (upd ML (cn % 64) (nI l0)) (upd DL (cn % 64) (nI M)) TH NM SZ PT TK)) ⟨hx, hb, hml, hown, hts⟩ (c_m_acc_B l D cI cZ cJ mo se co ou le wo ma pl tl tm th na si pa ta thr G ky DE cn got S0 C0 O0 L0 W0 S1 C1 O1 L1 W1 MP PL ML DL TH NM SZ PT TK d l0 (i % 4) 0 0 (nI 0) hd hMl hl4 hc O0a L0a W0a hO0a hL0a hW0a hw0 hv0 M hM j0 hj hw hn) (cwV 5 hts gX5_read_X5_access rfl rfl rfl (by decide +kernel) ⟨Nat.le_of_ble_eq_true rfl, Nat.le_of_ble_eq_true rfl⟩) hP hD hK hS hA [0, 1, 2, 3, 4, 5, 6, 7, 8, 9, 10, 11, 12, 13, 14] [] [0, 1, 2, 3, 4, 5, 6, 7, 8, 9, 10, 11, 12, 13, 14] rfl rfl (by decide) (fun u => rfl) rfl rfl (q0 := 0) rfl rfl hl.1 rfl (Nat.le_of_ble_eq_true rfl) dX5_read_65 ⟨Nat.le_of_ble_eq_true rfl, Nat.le_of_ble_eq_true rfl⟩ (fun r P1 H locs hu2 hP hD hS => ?_)
            refine k_t1 (show r = 0 from hu2) ?_
            refine lv_if_ne (tgt := 77) hx hb dX5_read_68 (by decide) (fun c6 => ?_) (fun c6 => ?_)
            · skip
              exact absurd rfl c6
            · skip
              refine lv_aload_n hx hb dX5_read_71 rfl (lv_at hl 1 rfl) ?_
              refine lv_iconst (v := nI 2) hx hb dX5_read_72 (by decide) ?_
              refine k_vi (As := [.int (nI 2)]) (rest := []) (w2 := fun u : Unit => (wM cI cZ cJ mo se co ou le wo ma pl tl tm th na si pa ta 2 (dstep (dstep G)) ky 1 (cn + 1) got ((pbN ky 0 4 8 l0 (upd L0a (d / 8) (nI (drw 2 G))) (setRow W0a (d / 8) (upd (W0a (d / 8)) (d % 8 / 2) (setE (W0a (d / 8) (d % 8 / 2)) (d % 8 % 2) (nI (drw 5 (dstep G)))))) S0 C0 O0a 3).1) ((pbN ky 0 4 8 l0 (upd L0a (d / 8) (nI (drw 2 G))) (setRow W0a (d / 8) (upd (W0a (d / 8)) (d % 8 / 2) (setE (W0a (d / 8) (d % 8 / 2)) (d % 8 % 2) (nI (drw 5 (dstep G)))))) S0 C0 O0a 3).2.1) ((pbN ky 0 4 8 l0 (upd L0a (d / 8) (nI (drw 2 G))) (setRow W0a (d / 8) (upd (W0a (d / 8)) (d % 8 / 2) (setE (W0a (d / 8) (d % 8 / 2)) (d % 8 % 2) (nI (drw 5 (dstep G)))))) S0 C0 O0a 3).2.2) (upd L0a (d / 8) (nI (drw 2 G))) (setRow W0a (d / 8) (upd (W0a (d / 8)) (d % 8 / 2) (setE (W0a (d / 8) (d % 8 / 2)) (d % 8 % 2) (nI (drw 5 (dstep G)))))) S1 C1 O1 L1 W1 (upN MP (d / 8) (drw 2 G)) P1 (upd ML (cn % 64) (nI l0)) (upd DL (cn % 64) (nI M)) TH NM SZ PT TK)) ⟨hx, hb, hml, hown, hts⟩ (c_m_raise l D cI cZ cJ mo se co ou le wo ma pl tl tm th na si pa ta thr (dstep (dstep G)) ky 1 (cn + 1) got ((pbN ky 0 4 8 l0 (upd L0a (d / 8) (nI (drw 2 G))) (setRow W0a (d / 8) (upd (W0a (d / 8)) (d % 8 / 2) (setE (W0a (d / 8) (d % 8 / 2)) (d % 8 % 2) (nI (drw 5 (dstep G)))))) S0 C0 O0a 3).1) ((pbN ky 0 4 8 l0 (upd L0a (d / 8) (nI (drw 2 G))) (setRow W0a (d / 8) (upd (W0a (d / 8)) (d % 8 / 2) (setE (W0a (d / 8) (d % 8 / 2)) (d % 8 % 2) (nI (drw 5 (dstep G)))))) S0 C0 O0a 3).2.1) ((pbN ky 0 4 8 l0 (upd L0a (d / 8) (nI (drw 2 G))) (setRow W0a (d / 8) (upd (W0a (d / 8)) (d % 8 / 2) (setE (W0a (d / 8) (d % 8 / 2)) (d % 8 % 2) (nI (drw 5 (dstep G)))))) S0 C0 O0a 3).2.2) (upd L0a (d / 8) (nI (drw 2 G))) (setRow W0a (d / 8) (upd (W0a (d / 8)) (d % 8 / 2) (setE (W0a (d / 8) (d % 8 / 2)) (d % 8 % 2) (nI (drw 5 (dstep G)))))) S1 C1 O1 L1 W1 (upN MP (d / 8) (drw 2 G)) P1 (upd ML (cn % 64) (nI l0)) (upd DL (cn % 64) (nI M)) TH NM SZ PT TK (nI 2)) (cwV 1 hts gX5_read_X5_raise rfl rfl rfl (by decide +kernel) ⟨Nat.le_of_ble_eq_true rfl, Nat.le_of_ble_eq_true rfl⟩) hP hD hK hS hA [0, 1, 2, 3, 4, 5, 6, 7, 8, 9, 10, 11, 12, 13, 14] [] [0, 1, 2, 3, 4, 5, 6, 7, 8, 9, 10, 11, 12, 13, 14] rfl rfl (by decide) (fun u => rfl) rfl rfl (q0 := 0) rfl rfl hl.1 rfl (Nat.le_of_ble_eq_true rfl) dX5_read_73 ⟨Nat.le_of_ble_eq_true rfl, Nat.le_of_ble_eq_true rfl⟩ (fun r u H locs hu3 hP hD hS => ?_)
              refine k_t1 (show r = 0 from hu3) ?_
              exact k_reti P1 hx hb hr hK hS hlk dX5_read_76 hP hD (by exact rfl) hQ
        · skip
          exact absurd c4 (by decide)

set_option maxHeartbeats 800000 in
set_option maxRecDepth 100000 in
theorem c_m_read_C (l : Launch) (D : va_G) (cI cZ cJ : ClassId) (mo : Nat) (se : Nat) (co : Nat) (ou : Nat) (le : Nat) (wo : Nat) (ma : Nat) (pl : Nat) (tl : Nat) (tm : Nat) (th : Nat) (na : Nat) (si : Nat) (pa : Nat) (ta : Nat) (thr : Int32) (G : Int32) (ky : Int32) (DE : Int32) (cn : Nat) (got : Int32) (S0 : Nat → Nat → Int32) (C0 : Nat → Int32) (O0 : Nat → Int32) (L0 : Nat → Int32) (W0 : Nat → Nat → Int32) (S1 : Nat → Nat → Int32) (C1 : Nat → Int32) (O1 : Nat → Int32) (L1 : Nat → Int32) (W1 : Nat → Nat → Int32) (MP : Nat → Nat) (PL : Nat → Int32) (ML : Nat → Int32) (DL : Nat → Int32) (TH : Nat → Int32) (NM : Nat → Int64) (SZ : Nat → Nat) (PT : Nat → Nat) (TK : Nat → Int32) (f i d l0 : Nat) (hDE : DE = 0) (hf : f < 8) (ht : ¬ TH f = 0) (hi : i < SZ f) (hs : SZ f ≤ 24) (hdd : d = PT (6 * f + i / 4)) (hd : d < 64) (hMl : MP (d / 8) = l0) (hl4 : l0 < 4) (hc : cn < 100000) (O0a L0a : Nat → Int32) (W0a : Nat → Nat → Int32) (hO0a : O0a = tkO 8 (rowsP ky 0 C0 S0 4 l0) O0 3) (hL0a : L0a = tkL 8 (rowsP ky 0 C0 S0 4 l0) L0 3) (hW0a : W0a = tkW 8 (rowsP ky 0 C0 S0 4 l0) W0 3) (hw0 : ∀ up, up < 3 → wholeB ky 0 C0 S0 (pathB 4 l0 up)) (hv0 : ∀ n, n < 8 → O0a n ≠ 0 → ∃ l0, l0 < 4 ∧ (upd L0a (d / 8) (nI (drw 2 G))) n = nI l0) (M : Nat) (hM : M = entM (W0a (d / 8) (d % 8 / 2)) (d % 8 % 2)) (O1a L1a : Nat → Int32) (W1a : Nat → Nat → Int32) (hO1a : O1a = tkO 64 (rowsP ky 1 C1 S1 32 M) O1 6) (hL1a : L1a = tkL 64 (rowsP ky 1 C1 S1 32 M) L1 6) (hW1a : W1a = tkW 64 (rowsP ky 1 C1 S1 32 M) W1 6) (hw1 : ∀ up, up < 6 → wholeB ky 1 C1 S1 (pathB 32 M up)) (hv1 : ∀ n, n < 64 → O1a n ≠ 0 → ∃ l0, l0 < 32 ∧ (upd L1a d (nI (drw 5 (dstep G)))) n = nI l0) : KI l yX5_read wsX5_read ({ frames := 6, cells := 0, slots := 0, locals := 153 }) D (kty cI cZ cJ) [.ref mo, .int (nI f), .int (nI i)] (wM cI cZ cJ mo se co ou le wo ma pl tl tm th na si pa ta thr G ky DE cn got S0 C0 O0 L0 W0 S1 C1 O1 L1 W1 MP PL ML DL TH NM SZ PT TK) (fun r (_ : Nat → Int32) => r = W1a d (i % 4)) (fun u : Nat → Int32 => (wM cI cZ cJ mo se co ou le wo ma pl tl tm th na si pa ta 0 (dstep (dstep G)) ky DE (cn + 1) (W1a d (i % 4)) ((pbN ky 0 4 8 l0 (upd L0a (d / 8) (nI (drw 2 G))) (setRow W0a (d / 8) (upd (W0a (d / 8)) (d % 8 / 2) (setE (W0a (d / 8) (d % 8 / 2)) (d % 8 % 2) (nI (drw 5 (dstep G)))))) S0 C0 O0a 3).1) ((pbN ky 0 4 8 l0 (upd L0a (d / 8) (nI (drw 2 G))) (setRow W0a (d / 8) (upd (W0a (d / 8)) (d % 8 / 2) (setE (W0a (d / 8) (d % 8 / 2)) (d % 8 % 2) (nI (drw 5 (dstep G)))))) S0 C0 O0a 3).2.1) ((pbN ky 0 4 8 l0 (upd L0a (d / 8) (nI (drw 2 G))) (setRow W0a (d / 8) (upd (W0a (d / 8)) (d % 8 / 2) (setE (W0a (d / 8) (d % 8 / 2)) (d % 8 % 2) (nI (drw 5 (dstep G)))))) S0 C0 O0a 3).2.2) (upd L0a (d / 8) (nI (drw 2 G))) (setRow W0a (d / 8) (upd (W0a (d / 8)) (d % 8 / 2) (setE (W0a (d / 8) (d % 8 / 2)) (d % 8 % 2) (nI (drw 5 (dstep G)))))) ((pbN ky 1 32 64 M (upd L1a d (nI (drw 5 (dstep G)))) W1a S1 C1 O1a 6).1) ((pbN ky 1 32 64 M (upd L1a d (nI (drw 5 (dstep G)))) W1a S1 C1 O1a 6).2.1) ((pbN ky 1 32 64 M (upd L1a d (nI (drw 5 (dstep G)))) W1a S1 C1 O1a 6).2.2) (upd L1a d (nI (drw 5 (dstep G)))) W1a (upN MP (d / 8) (drw 2 G)) u (upd ML (cn % 64) (nI l0)) (upd DL (cn % 64) (nI M)) TH NM SZ PT TK)) 0 0 := by
  refine k_headI (cc := cX5_read) (maxL := 4) (ret := (some .int)) (by decide) rfl (Nat.le_of_ble_eq_true rfl) ?_
  intro p e s m below meth c A ls args Q hx hb hr hml hts hown hlk hnm hA hK hP hD hS hl hQ
  have hl : lv_has ls 4 [(0, .ref mo), (1, .int (nI f)), (2, .int (nI i))] := hl
  refine lv_aload_n hx hb dX5_read_0 rfl (lv_at hl 0 rfl) ?_
  refine lv_iload_n hx hb dX5_read_1 rfl (lv_at hl 1 rfl) ?_
  refine k_vi (As := [.int (nI f)]) (rest := []) (w2 := fun u : Unit => (wM cI cZ cJ mo se co ou le wo ma pl tl tm th na si pa ta thr G ky DE cn got S0 C0 O0 L0 W0 S1 C1 O1 L1 W1 MP PL ML DL TH NM SZ PT TK)) ⟨hx, hb, hml, hown, hts⟩ (c_m_isFile_y l D cI cZ cJ mo se co ou le wo ma pl tl tm th na si pa ta thr G ky DE cn got S0 C0 O0 L0 W0 S1 C1 O1 L1 W1 MP PL ML DL TH NM SZ PT TK f hf ht) (cwV 1 hts gX5_read_X5_isFile rfl rfl rfl (by decide +kernel) ⟨Nat.le_of_ble_eq_true rfl, Nat.le_of_ble_eq_true rfl⟩) hP hD hK hS hA [0, 1, 2, 3, 4, 5, 6, 7, 8, 9, 10, 11, 12, 13, 14] [] [0, 1, 2, 3, 4, 5, 6, 7, 8, 9, 10, 11, 12, 13, 14] rfl rfl (by decide) (fun u => rfl) rfl rfl (q0 := 0) rfl rfl hl.1 rfl (Nat.le_of_ble_eq_true rfl) dX5_read_2 ⟨Nat.le_of_ble_eq_true rfl, Nat.le_of_ble_eq_true rfl⟩ (fun r u H locs hu1 hP hD hS => ?_)
  refine k_t1 (show r = 1 from hu1) ?_
  refine lv_if_eq (tgt := 26) hx hb dX5_read_5 (by decide) (fun c1 => ?_) (fun c1 => ?_)
  · skip
    exact absurd c1 (by decide)
  · skip
    refine lv_iload_n hx hb dX5_read_8 rfl (lv_at hl 2 rfl) ?_
    refine lv_if_lt (tgt := 26) hx hb dX5_read_9 (by decide) (fun c2 => ?_) (fun c2 => ?_)
    · skip
      exact absurd c2 (nI_pos (by omega))
    · skip
      refine lv_iload_n hx hb dX5_read_12 rfl (lv_at hl 2 rfl) ?_
      refine lv_aload_n hx hb dX5_read_13 rfl (lv_at hl 0 rfl) ?_
      refine va_get (D := D) (ci := 5) (v := .ref si) (C := RX5) (T := TX5) (N := 20) hx hb hts (by decide +kernel) hown hK hP 0 rfl rfl 16 (by decide) (hts (.fieldLink RX5 45 "VeiledFilesModel" "size" "[I") (by decide +kernel)) (fun _ h9 => h9) rfl dX5_read_14 ?_
      refine lv_iload_n hx hb dX5_read_17 rfl (lv_at hl 1 rfl) ?_
      refine k_iald hx hb hK hP 12 0 rfl rfl f (by omega) (by omega) (v := nI (SZ f)) (rfl) dX5_read_18 ?_
      refine k_icmp_ge (tgt := 26) hx hb (by omega) (by omega) dX5_read_19 (by decide) (fun c3 => ?_) (fun c3 => ?_)
      · skip
        omega
      · skip
        refine lv_iconst (v := nI 1) hx hb dX5_read_22 (by decide) ?_
        refine lv_goto (tgt := 27) hx hb dX5_read_23 (by decide) ?_
        refine lv_istore_n (lv' := [(3, .int (nI 1)), (0, .ref mo), (1, .int (nI f)), (2, .int (nI i))]) hx hb dX5_read_27 rfl hl (by decide) rfl (fun ls hl => ?_)
        refine lv_iload_n hx hb dX5_read_28 rfl (lv_at hl 0 rfl) ?_
        refine lv_if_ne (tgt := 38) hx hb dX5_read_29 (by decide) (fun c4 => ?_) (fun c4 => ?_)
        · skip
          refine lv_aload_n hx hb dX5_read_38 rfl (lv_at hl 1 rfl) ?_
          refine va_get (D := D) (ci := 5) (v := .int DE) (C := RX5) (T := TX5) (N := 20) hx hb hts (by decide +kernel) hown hK hP 0 rfl rfl 3 (by decide) (hts (.fieldLink RX5 131 "VeiledFilesModel" "dead" "Z") (by decide +kernel)) (fun _ h9 => h9) rfl dX5_read_39 ?_
          refine lv_if_ne (tgt := 71) hx hb dX5_read_42 (by decide) (fun c5 => ?_) (fun c5 => ?_)
          · skip
            exact absurd hDE c5
          · skip
            refine lv_aload_n hx hb dX5_read_45 rfl (lv_at hl 1 rfl) ?_
            refine lv_aload_n hx hb dX5_read_46 rfl (lv_at hl 1 rfl) ?_
            refine va_get (D := D) (ci := 5) (v := .ref pa) (C := RX5) (T := TX5) (N := 20) hx hb hts (by decide +kernel) hown hK hP 0 rfl rfl 17 (by decide) (hts (.fieldLink RX5 48 "VeiledFilesModel" "part" "[I") (by decide +kernel)) (fun _ h9 => h9) rfl dX5_read_47 ?_
            refine lv_bipush (v := nI 6) hx hb dX5_read_50 (by decide) ?_
            refine lv_iload_n hx hb dX5_read_52 rfl (lv_at hl 2 rfl) ?_
            refine lv_imul hx hb dX5_read_53 ?_
            refine k_t1 (show (nI 6) * (nI f) = nI (6 * f) from pk_mul _ _) ?_
            refine lv_iload_n hx hb dX5_read_54 rfl (lv_at hl 3 rfl) ?_
            refine lv_iconst (v := nI 4) hx hb dX5_read_55 (by decide) ?_
            refine lv_idiv hx hb dX5_read_56 (by decide) ?_
            refine k_t1 (show (nI i) / (nI 4) = nI (i / 4) from pk_div (by omega) (by omega) (by omega)) ?_
            refine lv_iadd hx hb dX5_read_57 ?_
            refine k_t1 (show (nI (6 * f)) + (nI (i / 4)) = nI (6 * f + (i / 4)) from nI_add _ _) ?_
            refine k_iald hx hb hK hP 13 0 rfl rfl (6 * f + (i / 4)) (by omega) (by omega) (v := nI d) (congrArg nI hdd.symm) dX5_read_58 ?_
            refine lv_iload_n hx hb dX5_read_59 rfl (lv_at hl 3 rfl) ?_
            refine lv_iconst (v := nI 4) hx hb dX5_read_60 (by decide) ?_
            refine lv_irem hx hb dX5_read_61 (by decide) ?_
            refine k_t1 (show (nI i) - (nI i) / (nI 4) * (nI 4) = nI (i % 4) from pk_rem (by omega) (by omega) (by omega)) ?_
            refine lv_iconst (v := nI 0) hx hb dX5_read_62 (by decide) ?_
            refine lv_iconst (v := nI 0) hx hb dX5_read_63 (by decide) ?_
            refine lv_iconst (v := nI 0) hx hb dX5_read_64 (by decide) ?_
            refine k_vi (As := [.int (nI d), .int (nI (i % 4)), .int (nI 0), .int (nI 0), .int (nI 0)]) (rest := []) (w2 := fun P1 : Nat → Int32 => (wM cI cZ cJ mo se co ou le wo ma pl tl tm th na si pa ta thr (dstep (dstep G)) ky DE (cn + 1) (W1a d (i % 4)) ((pbN ky 0 4 8 l0 (upd L0a (d / 8) (nI (drw 2 G))) (setRow W0a (d / 8) (upd (W0a (d / 8)) (d % 8 / 2) (setE (W0a (d / 8) (d % 8 / 2)) (d % 8 % 2) (nI (drw 5 (dstep G)))))) S0 C0 O0a 3).1) ((pbN ky 0 4 8 l0 (upd L0a (d / 8) (nI (drw 2 G))) (setRow W0a (d / 8) (upd (W0a (d / 8)) (d % 8 / 2) (setE (W0a (d / 8) (d % 8 / 2)) (d % 8 % 2) (nI (drw 5 (dstep G)))))) S0 C0 O0a 3).2.1) ((pbN ky 0 4 8 l0 (upd L0a (d / 8) (nI (drw 2 G))) (setRow W0a (d / 8) (upd (W0a (d / 8)) (d % 8 / 2) (setE (W0a (d / 8) (d % 8 / 2)) (d % 8 % 2) (nI (drw 5 (dstep G)))))) S0 C0 O0a 3).2.2) (upd L0a (d / 8) (nI (drw 2 G))) (setRow W0a (d / 8) (upd (W0a (d / 8)) (d % 8 / 2) (setE (W0a (d / 8) (d % 8 / 2)) (d % 8 % 2) (nI (drw 5 (dstep G)))))) ((pbN ky 1 32 64 M (upd L1a d (nI (drw 5 (dstep G)))) W1a S1 C1 O1a 6).1) ((pbN ky 1 32 64 M (upd L1a d (nI (drw 5 (dstep G)))) W1a S1 C1 O1a 6).2.1) ((pbN ky 1 32 64 M (upd L1a d (nI (drw 5 (dstep G)))) W1a S1 C1 O1a 6).2.2) (upd L1a d (nI (drw 5 (dstep G)))) W1a (upN MP (d / 8) (drw 2 G)) P1 (upd ML (cn % 64) (nI l0)) (upd DL (cn % 64) (nI M)) TH NM SZ PT TK)) ⟨hx, hb, hml, hown, hts⟩ (c_m_acc_C00 l D cI cZ cJ mo se co ou le wo ma pl tl tm th na si pa ta thr G ky DE cn got S0 C0 O0 L0 W0 S1 C1 O1 L1 W1 MP PL ML DL TH NM SZ PT TK d l0 (i % 4) (nI 0) hd hMl hl4 hc (by omega) O0a L0a W0a hO0a hL0a hW0a hw0 hv0 M hM O1a L1a W1a hO1a hL1a hW1a hw1 hv1) (cwV 5 hts gX5_read_X5_access rfl rfl rfl (by decide +kernel) ⟨Nat.le_of_ble_eq_true rfl, Nat.le_of_ble_eq_true rfl⟩) hP hD hK hS hA [0, 1, 2, 3, 4, 5, 6, 7, 8, 9, 10, 11, 12, 13, 14] [] [0, 1, 2, 3, 4, 5, 6, 7, 8, 9, 10, 11, 12, 13, 14] rfl rfl (by decide) (fun u => rfl) rfl rfl (q0 := 0) rfl rfl hl.1 rfl (Nat.le_of_ble_eq_true rfl) dX5_read_65 ⟨Nat.le_of_ble_eq_true rfl, Nat.le_of_ble_eq_true rfl⟩ (fun r P1 H locs hu2 hP hD hS => ?_)
            refine k_t1 (show r = 1 from hu2) ?_
            refine lv_if_ne (tgt := 77) hx hb dX5_read_68 (by decide) (fun c6 => ?_) (fun c6 => ?_)
            · skip
              refine lv_aload_n hx hb dX5_read_77 rfl (lv_at hl 1 rfl) ?_
              refine lv_iconst (v := nI 0) hx hb dX5_read_78 (by decide) ?_
              refine va_put (D := D) (ci := 5) (v := .int (nI 0)) (ty := .int) (C := RX5) (T := TX5) (N := 20) hx hb hts (by decide +kernel) tyX5 tyX5_ok nmX5 hown hK hP hD hS 0 rfl rfl 0 (by decide) (hts (.fieldLink RX5 58 "VeiledFilesModel" "thrown" "I") (by decide +kernel)) (fun _ h9 => h9) rfl (by decide +kernel) rfl rfl (Nat.le_of_ble_eq_true rfl) dX5_read_79 (fun H locs hP hD hS => ?_)
              have hP : va_P D vwCl (wM cI cZ cJ mo se co ou le wo ma pl tl tm th na si pa ta 0 (dstep (dstep G)) ky DE (cn + 1) (W1a d (i % 4)) ((pbN ky 0 4 8 l0 (upd L0a (d / 8) (nI (drw 2 G))) (setRow W0a (d / 8) (upd (W0a (d / 8)) (d % 8 / 2) (setE (W0a (d / 8) (d % 8 / 2)) (d % 8 % 2) (nI (drw 5 (dstep G)))))) S0 C0 O0a 3).1) ((pbN ky 0 4 8 l0 (upd L0a (d / 8) (nI (drw 2 G))) (setRow W0a (d / 8) (upd (W0a (d / 8)) (d % 8 / 2) (setE (W0a (d / 8) (d % 8 / 2)) (d % 8 % 2) (nI (drw 5 (dstep G)))))) S0 C0 O0a 3).2.1) ((pbN ky 0 4 8 l0 (upd L0a (d / 8) (nI (drw 2 G))) (setRow W0a (d / 8) (upd (W0a (d / 8)) (d % 8 / 2) (setE (W0a (d / 8) (d % 8 / 2)) (d % 8 % 2) (nI (drw 5 (dstep G)))))) S0 C0 O0a 3).2.2) (upd L0a (d / 8) (nI (drw 2 G))) (setRow W0a (d / 8) (upd (W0a (d / 8)) (d % 8 / 2) (setE (W0a (d / 8) (d % 8 / 2)) (d % 8 % 2) (nI (drw 5 (dstep G)))))) ((pbN ky 1 32 64 M (upd L1a d (nI (drw 5 (dstep G)))) W1a S1 C1 O1a 6).1) ((pbN ky 1 32 64 M (upd L1a d (nI (drw 5 (dstep G)))) W1a S1 C1 O1a 6).2.1) ((pbN ky 1 32 64 M (upd L1a d (nI (drw 5 (dstep G)))) W1a S1 C1 O1a 6).2.2) (upd L1a d (nI (drw 5 (dstep G)))) W1a (upN MP (d / 8) (drw 2 G)) P1 (upd ML (cn % 64) (nI l0)) (upd DL (cn % 64) (nI M)) TH NM SZ PT TK) _ := hP
              have hD : va_D A (wM cI cZ cJ mo se co ou le wo ma pl tl tm th na si pa ta 0 (dstep (dstep G)) ky DE (cn + 1) (W1a d (i % 4)) ((pbN ky 0 4 8 l0 (upd L0a (d / 8) (nI (drw 2 G))) (setRow W0a (d / 8) (upd (W0a (d / 8)) (d % 8 / 2) (setE (W0a (d / 8) (d % 8 / 2)) (d % 8 % 2) (nI (drw 5 (dstep G)))))) S0 C0 O0a 3).1) ((pbN ky 0 4 8 l0 (upd L0a (d / 8) (nI (drw 2 G))) (setRow W0a (d / 8) (upd (W0a (d / 8)) (d % 8 / 2) (setE (W0a (d / 8) (d % 8 / 2)) (d % 8 % 2) (nI (drw 5 (dstep G)))))) S0 C0 O0a 3).2.1) ((pbN ky 0 4 8 l0 (upd L0a (d / 8) (nI (drw 2 G))) (setRow W0a (d / 8) (upd (W0a (d / 8)) (d % 8 / 2) (setE (W0a (d / 8) (d % 8 / 2)) (d % 8 % 2) (nI (drw 5 (dstep G)))))) S0 C0 O0a 3).2.2) (upd L0a (d / 8) (nI (drw 2 G))) (setRow W0a (d / 8) (upd (W0a (d / 8)) (d % 8 / 2) (setE (W0a (d / 8) (d % 8 / 2)) (d % 8 % 2) (nI (drw 5 (dstep G)))))) ((pbN ky 1 32 64 M (upd L1a d (nI (drw 5 (dstep G)))) W1a S1 C1 O1a 6).1) ((pbN ky 1 32 64 M (upd L1a d (nI (drw 5 (dstep G)))) W1a S1 C1 O1a 6).2.1) ((pbN ky 1 32 64 M (upd L1a d (nI (drw 5 (dstep G)))) W1a S1 C1 O1a 6).2.2) (upd L1a d (nI (drw 5 (dstep G)))) W1a (upN MP (d / 8) (drw 2 G)) P1 (upd ML (cn % 64) (nI l0)) (upd DL (cn % 64) (nI M)) TH NM SZ PT TK) := hD
              refine lv_aload_n hx hb dX5_read_82 rfl (lv_at hl 1 rfl) ?_
              refine va_get (D := D) (ci := 5) (v := .int (W1a d (i % 4))) (C := RX5) (T := TX5) (N := 20) hx hb hts (by decide +kernel) hown hK hP 0 rfl rfl 19 (by decide) (hts (.fieldLink RX5 138 "VeiledFilesModel" "got" "I") (by decide +kernel)) (fun _ h9 => h9) rfl dX5_read_83 ?_
              exact k_reti P1 hx hb hr hK hS hlk dX5_read_86 hP hD (by exact rfl) hQ
            · skip
              exact absurd c6 (by decide)
        · skip
          exact absurd c4 (by decide)

set_option maxHeartbeats 800000 in
set_option maxRecDepth 100000 in
theorem c_m_write_bad (l : Launch) (D : va_G) (cI cZ cJ : ClassId) (mo : Nat) (se : Nat) (co : Nat) (ou : Nat) (le : Nat) (wo : Nat) (ma : Nat) (pl : Nat) (tl : Nat) (tm : Nat) (th : Nat) (na : Nat) (si : Nat) (pa : Nat) (ta : Nat) (thr : Int32) (G : Int32) (ky : Int32) (DE : Int32) (cn : Nat) (got : Int32) (S0 : Nat → Nat → Int32) (C0 : Nat → Int32) (O0 : Nat → Int32) (L0 : Nat → Int32) (W0 : Nat → Nat → Int32) (S1 : Nat → Nat → Int32) (C1 : Nat → Int32) (O1 : Nat → Int32) (L1 : Nat → Int32) (W1 : Nat → Nat → Int32) (MP : Nat → Nat) (PL : Nat → Int32) (ML : Nat → Int32) (DL : Nat → Int32) (TH : Nat → Int32) (NM : Nat → Int64) (SZ : Nat → Nat) (PT : Nat → Nat) (TK : Nat → Int32) (x i v : Int32) (hfx : notF TH x ∨ ∃ f, f < 8 ∧ x = nI f ∧ ¬ TH f = 0) (hbad : badW TH SZ x i) : KV l yX5_write wsX5_write ({ frames := 1, cells := 0, slots := 0, locals := 21 }) D (kty cI cZ cJ) [.ref mo, .int x, .int i, .int v] (wM cI cZ cJ mo se co ou le wo ma pl tl tm th na si pa ta thr G ky DE cn got S0 C0 O0 L0 W0 S1 C1 O1 L1 W1 MP PL ML DL TH NM SZ PT TK) (fun (_ : Unit) => True) (fun _ : Unit => (wM cI cZ cJ mo se co ou le wo ma pl tl tm th na si pa ta 1 G ky DE cn got S0 C0 O0 L0 W0 S1 C1 O1 L1 W1 MP PL ML DL TH NM SZ PT TK)) 0 0 := by
  refine k_headV (cc := cX5_write) (maxL := 7) (ret := none) (by decide) rfl (Nat.le_of_ble_eq_true rfl) ?_
  intro p e s m below meth c A ls args Q hx hb hr hml hts hown hlk hnm hA hK hP hD hS hl hQ
  have hl : lv_has ls 7 [(0, .ref mo), (1, .int x), (2, .int i), (3, .int v)] := hl
  refine lv_aload_n hx hb dX5_write_0 rfl (lv_at hl 0 rfl) ?_
  refine lv_iload_n hx hb dX5_write_1 rfl (lv_at hl 1 rfl) ?_
  rcases hfx with hf | ⟨f, hf, rfl, ht⟩
  · skip
    refine k_vi (As := [.int x]) (rest := []) (w2 := fun u : Unit => (wM cI cZ cJ mo se co ou le wo ma pl tl tm th na si pa ta thr G ky DE cn got S0 C0 O0 L0 W0 S1 C1 O1 L1 W1 MP PL ML DL TH NM SZ PT TK)) ⟨hx, hb, hml, hown, hts⟩ (c_m_isFile_n l D cI cZ cJ mo se co ou le wo ma pl tl tm th na si pa ta thr G ky DE cn got S0 C0 O0 L0 W0 S1 C1 O1 L1 W1 MP PL ML DL TH NM SZ PT TK x hf) (cwV 1 hts gX5_write_X5_isFile rfl rfl rfl (by decide +kernel) ⟨Nat.le_of_ble_eq_true rfl, Nat.le_of_ble_eq_true rfl⟩) hP hD hK hS hA [0, 1, 2, 3, 4, 5, 6, 7, 8, 9, 10, 11, 12, 13, 14] [] [0, 1, 2, 3, 4, 5, 6, 7, 8, 9, 10, 11, 12, 13, 14] rfl rfl (by decide) (fun u => rfl) rfl rfl (q0 := 0) rfl rfl hl.1 rfl (Nat.le_of_ble_eq_true rfl) dX5_write_2 ⟨Nat.le_of_ble_eq_true rfl, Nat.le_of_ble_eq_true rfl⟩ (fun r u H locs hu1 hP hD hS => ?_)
    refine k_t1 (show r = 0 from hu1) ?_
    refine lv_if_eq (tgt := 32) hx hb dX5_write_5 (by decide) (fun c1 => ?_) (fun c1 => ?_)
    · skip
      refine lv_iconst (v := nI 0) hx hb dX5_write_32 (by decide) ?_
      refine lv_istore (lv' := [(4, .int (nI 0)), (0, .ref mo), (1, .int x), (2, .int i), (3, .int v)]) hx hb dX5_write_33 hl (by decide) rfl (fun ls hl => ?_)
      refine lv_aload_n hx hb dX5_write_35 rfl (lv_at hl 1 rfl) ?_
      refine lv_iload hx hb dX5_write_36 (lv_at hl 0 rfl) ?_
      refine lv_if_ne (tgt := 45) hx hb dX5_write_38 (by decide) (fun cb => ?_) (fun cb => ?_)
      · skip
        exact absurd rfl cb
      · skip
        refine lv_iconst (v := nI 1) hx hb dX5_write_41 (by decide) ?_
        refine lv_goto (tgt := 57) hx hb dX5_write_42 (by decide) ?_
        refine va_put (D := D) (ci := 5) (v := .int (nI 1)) (ty := .int) (C := RX5) (T := TX5) (N := 20) hx hb hts (by decide +kernel) tyX5 tyX5_ok nmX5 hown hK hP hD hS 0 rfl rfl 0 (by decide) (hts (.fieldLink RX5 58 "VeiledFilesModel" "thrown" "I") (by decide +kernel)) (fun _ h9 => h9) rfl (by decide +kernel) rfl rfl (Nat.le_of_ble_eq_true rfl) dX5_write_57 (fun H locs hP hD hS => ?_)
        have hP : va_P D vwCl (wM cI cZ cJ mo se co ou le wo ma pl tl tm th na si pa ta 1 G ky DE cn got S0 C0 O0 L0 W0 S1 C1 O1 L1 W1 MP PL ML DL TH NM SZ PT TK) _ := hP
        have hD : va_D A (wM cI cZ cJ mo se co ou le wo ma pl tl tm th na si pa ta 1 G ky DE cn got S0 C0 O0 L0 W0 S1 C1 O1 L1 W1 MP PL ML DL TH NM SZ PT TK) := hD
        refine lv_aload_n hx hb dX5_write_60 rfl (lv_at hl 1 rfl) ?_
        refine va_get (D := D) (ci := 5) (v := .int 1) (C := RX5) (T := TX5) (N := 20) hx hb hts (by decide +kernel) hown hK hP 0 rfl rfl 0 (by decide) (hts (.fieldLink RX5 58 "VeiledFilesModel" "thrown" "I") (by decide +kernel)) (fun _ h9 => h9) rfl dX5_write_61 ?_
        refine lv_if_eq (tgt := 68) hx hb dX5_write_64 (by decide) (fun cd => ?_) (fun cd => ?_)
        · skip
          exact absurd cd (by decide)
        · skip
          exact k_retv () hx hb hr hK hS hlk dX5_write_67 hP hD (trivial) hQ
    · skip
      exact absurd rfl c1
  · skip
    refine k_vi (As := [.int (nI f)]) (rest := []) (w2 := fun u : Unit => (wM cI cZ cJ mo se co ou le wo ma pl tl tm th na si pa ta thr G ky DE cn got S0 C0 O0 L0 W0 S1 C1 O1 L1 W1 MP PL ML DL TH NM SZ PT TK)) ⟨hx, hb, hml, hown, hts⟩ (c_m_isFile_y l D cI cZ cJ mo se co ou le wo ma pl tl tm th na si pa ta thr G ky DE cn got S0 C0 O0 L0 W0 S1 C1 O1 L1 W1 MP PL ML DL TH NM SZ PT TK f hf ht) (cwV 1 hts gX5_write_X5_isFile rfl rfl rfl (by decide +kernel) ⟨Nat.le_of_ble_eq_true rfl, Nat.le_of_ble_eq_true rfl⟩) hP hD hK hS hA [0, 1, 2, 3, 4, 5, 6, 7, 8, 9, 10, 11, 12, 13, 14] [] [0, 1, 2, 3, 4, 5, 6, 7, 8, 9, 10, 11, 12, 13, 14] rfl rfl (by decide) (fun u => rfl) rfl rfl (q0 := 0) rfl rfl hl.1 rfl (Nat.le_of_ble_eq_true rfl) dX5_write_2 ⟨Nat.le_of_ble_eq_true rfl, Nat.le_of_ble_eq_true rfl⟩ (fun r u H locs hu2 hP hD hS => ?_)
    refine k_t1 (show r = 1 from hu2) ?_
    refine lv_if_eq (tgt := 32) hx hb dX5_write_5 (by decide) (fun c1 => ?_) (fun c1 => ?_)
    · skip
      exact absurd c1 (by decide)
    · skip
      refine lv_iload_n hx hb dX5_write_8 rfl (lv_at hl 2 rfl) ?_
      refine lv_if_lt (tgt := 32) hx hb dX5_write_9 (by decide) (fun c2 => ?_) (fun c2 => ?_)
      · skip
        refine lv_iconst (v := nI 0) hx hb dX5_write_32 (by decide) ?_
        refine lv_istore (lv' := [(4, .int (nI 0)), (0, .ref mo), (1, .int (nI f)), (2, .int i), (3, .int v)]) hx hb dX5_write_33 hl (by decide) rfl (fun ls hl => ?_)
        refine lv_aload_n hx hb dX5_write_35 rfl (lv_at hl 1 rfl) ?_
        refine lv_iload hx hb dX5_write_36 (lv_at hl 0 rfl) ?_
        refine lv_if_ne (tgt := 45) hx hb dX5_write_38 (by decide) (fun cb => ?_) (fun cb => ?_)
        · skip
          exact absurd rfl cb
        · skip
          refine lv_iconst (v := nI 1) hx hb dX5_write_41 (by decide) ?_
          refine lv_goto (tgt := 57) hx hb dX5_write_42 (by decide) ?_
          refine va_put (D := D) (ci := 5) (v := .int (nI 1)) (ty := .int) (C := RX5) (T := TX5) (N := 20) hx hb hts (by decide +kernel) tyX5 tyX5_ok nmX5 hown hK hP hD hS 0 rfl rfl 0 (by decide) (hts (.fieldLink RX5 58 "VeiledFilesModel" "thrown" "I") (by decide +kernel)) (fun _ h9 => h9) rfl (by decide +kernel) rfl rfl (Nat.le_of_ble_eq_true rfl) dX5_write_57 (fun H locs hP hD hS => ?_)
          have hP : va_P D vwCl (wM cI cZ cJ mo se co ou le wo ma pl tl tm th na si pa ta 1 G ky DE cn got S0 C0 O0 L0 W0 S1 C1 O1 L1 W1 MP PL ML DL TH NM SZ PT TK) _ := hP
          have hD : va_D A (wM cI cZ cJ mo se co ou le wo ma pl tl tm th na si pa ta 1 G ky DE cn got S0 C0 O0 L0 W0 S1 C1 O1 L1 W1 MP PL ML DL TH NM SZ PT TK) := hD
          refine lv_aload_n hx hb dX5_write_60 rfl (lv_at hl 1 rfl) ?_
          refine va_get (D := D) (ci := 5) (v := .int 1) (C := RX5) (T := TX5) (N := 20) hx hb hts (by decide +kernel) hown hK hP 0 rfl rfl 0 (by decide) (hts (.fieldLink RX5 58 "VeiledFilesModel" "thrown" "I") (by decide +kernel)) (fun _ h9 => h9) rfl dX5_write_61 ?_
          refine lv_if_eq (tgt := 68) hx hb dX5_write_64 (by decide) (fun cd => ?_) (fun cd => ?_)
          · skip
            exact absurd cd (by decide)
          · skip
            exact k_retv () hx hb hr hK hS hlk dX5_write_67 hP hD (trivial) hQ
      · skip
        refine lv_iload_n hx hb dX5_write_12 rfl (lv_at hl 2 rfl) ?_
        refine lv_aload_n hx hb dX5_write_13 rfl (lv_at hl 0 rfl) ?_
        refine va_get (D := D) (ci := 5) (v := .ref si) (C := RX5) (T := TX5) (N := 20) hx hb hts (by decide +kernel) hown hK hP 0 rfl rfl 16 (by decide) (hts (.fieldLink RX5 45 "VeiledFilesModel" "size" "[I") (by decide +kernel)) (fun _ h9 => h9) rfl dX5_write_14 ?_
        refine lv_iload_n hx hb dX5_write_17 rfl (lv_at hl 1 rfl) ?_
        refine k_iald hx hb hK hP 12 0 rfl rfl f (by omega) (by omega) (v := nI (SZ f)) (rfl) dX5_write_18 ?_
        refine lv_icmp_gt (tgt := 32) hx hb dX5_write_19 (by decide) (fun c3 => ?_) (fun c3 => ?_)
        · skip
          refine lv_iconst (v := nI 0) hx hb dX5_write_32 (by decide) ?_
          refine lv_istore (lv' := [(4, .int (nI 0)), (0, .ref mo), (1, .int (nI f)), (2, .int i), (3, .int v)]) hx hb dX5_write_33 hl (by decide) rfl (fun ls hl => ?_)
          refine lv_aload_n hx hb dX5_write_35 rfl (lv_at hl 1 rfl) ?_
          refine lv_iload hx hb dX5_write_36 (lv_at hl 0 rfl) ?_
          refine lv_if_ne (tgt := 45) hx hb dX5_write_38 (by decide) (fun cb => ?_) (fun cb => ?_)
          · skip
            exact absurd rfl cb
          · skip
            refine lv_iconst (v := nI 1) hx hb dX5_write_41 (by decide) ?_
            refine lv_goto (tgt := 57) hx hb dX5_write_42 (by decide) ?_
            refine va_put (D := D) (ci := 5) (v := .int (nI 1)) (ty := .int) (C := RX5) (T := TX5) (N := 20) hx hb hts (by decide +kernel) tyX5 tyX5_ok nmX5 hown hK hP hD hS 0 rfl rfl 0 (by decide) (hts (.fieldLink RX5 58 "VeiledFilesModel" "thrown" "I") (by decide +kernel)) (fun _ h9 => h9) rfl (by decide +kernel) rfl rfl (Nat.le_of_ble_eq_true rfl) dX5_write_57 (fun H locs hP hD hS => ?_)
            have hP : va_P D vwCl (wM cI cZ cJ mo se co ou le wo ma pl tl tm th na si pa ta 1 G ky DE cn got S0 C0 O0 L0 W0 S1 C1 O1 L1 W1 MP PL ML DL TH NM SZ PT TK) _ := hP
            have hD : va_D A (wM cI cZ cJ mo se co ou le wo ma pl tl tm th na si pa ta 1 G ky DE cn got S0 C0 O0 L0 W0 S1 C1 O1 L1 W1 MP PL ML DL TH NM SZ PT TK) := hD
            refine lv_aload_n hx hb dX5_write_60 rfl (lv_at hl 1 rfl) ?_
            refine va_get (D := D) (ci := 5) (v := .int 1) (C := RX5) (T := TX5) (N := 20) hx hb hts (by decide +kernel) hown hK hP 0 rfl rfl 0 (by decide) (hts (.fieldLink RX5 58 "VeiledFilesModel" "thrown" "I") (by decide +kernel)) (fun _ h9 => h9) rfl dX5_write_61 ?_
            refine lv_if_eq (tgt := 68) hx hb dX5_write_64 (by decide) (fun cd => ?_) (fun cd => ?_)
            · skip
              exact absurd cd (by decide)
            · skip
              exact k_retv () hx hb hr hK hS hlk dX5_write_67 hP hD (trivial) hQ
        · skip
          refine lv_iload_n hx hb dX5_write_22 rfl (lv_at hl 2 rfl) ?_
          refine lv_bipush (v := nI 24) hx hb dX5_write_23 (by decide) ?_
          refine lv_icmp_ge (tgt := 32) hx hb dX5_write_25 (by decide) (fun c4 => ?_) (fun c4 => ?_)
          · skip
            refine lv_iconst (v := nI 0) hx hb dX5_write_32 (by decide) ?_
            refine lv_istore (lv' := [(4, .int (nI 0)), (0, .ref mo), (1, .int (nI f)), (2, .int i), (3, .int v)]) hx hb dX5_write_33 hl (by decide) rfl (fun ls hl => ?_)
            refine lv_aload_n hx hb dX5_write_35 rfl (lv_at hl 1 rfl) ?_
            refine lv_iload hx hb dX5_write_36 (lv_at hl 0 rfl) ?_
            refine lv_if_ne (tgt := 45) hx hb dX5_write_38 (by decide) (fun cb => ?_) (fun cb => ?_)
            · skip
              exact absurd rfl cb
            · skip
              refine lv_iconst (v := nI 1) hx hb dX5_write_41 (by decide) ?_
              refine lv_goto (tgt := 57) hx hb dX5_write_42 (by decide) ?_
              refine va_put (D := D) (ci := 5) (v := .int (nI 1)) (ty := .int) (C := RX5) (T := TX5) (N := 20) hx hb hts (by decide +kernel) tyX5 tyX5_ok nmX5 hown hK hP hD hS 0 rfl rfl 0 (by decide) (hts (.fieldLink RX5 58 "VeiledFilesModel" "thrown" "I") (by decide +kernel)) (fun _ h9 => h9) rfl (by decide +kernel) rfl rfl (Nat.le_of_ble_eq_true rfl) dX5_write_57 (fun H locs hP hD hS => ?_)
              have hP : va_P D vwCl (wM cI cZ cJ mo se co ou le wo ma pl tl tm th na si pa ta 1 G ky DE cn got S0 C0 O0 L0 W0 S1 C1 O1 L1 W1 MP PL ML DL TH NM SZ PT TK) _ := hP
              have hD : va_D A (wM cI cZ cJ mo se co ou le wo ma pl tl tm th na si pa ta 1 G ky DE cn got S0 C0 O0 L0 W0 S1 C1 O1 L1 W1 MP PL ML DL TH NM SZ PT TK) := hD
              refine lv_aload_n hx hb dX5_write_60 rfl (lv_at hl 1 rfl) ?_
              refine va_get (D := D) (ci := 5) (v := .int 1) (C := RX5) (T := TX5) (N := 20) hx hb hts (by decide +kernel) hown hK hP 0 rfl rfl 0 (by decide) (hts (.fieldLink RX5 58 "VeiledFilesModel" "thrown" "I") (by decide +kernel)) (fun _ h9 => h9) rfl dX5_write_61 ?_
              refine lv_if_eq (tgt := 68) hx hb dX5_write_64 (by decide) (fun cd => ?_) (fun cd => ?_)
              · skip
                exact absurd cd (by decide)
              · skip
                exact k_retv () hx hb hr hK hS hlk dX5_write_67 hP hD (trivial) hQ
          · skip
            rcases hbad with h | h | ⟨f2, hf2, he, ht2, h⟩
            · exact absurd h c2
            · exact absurd ht (notF_live hf h)
            · rw [live_eq hf hf2 he] at h
              rcases h with h | h
              · exact absurd h c3
              · exact absurd h c4

set_option maxHeartbeats 800000 in
set_option maxRecDepth 100000 in
theorem c_m_write_D (l : Launch) (D : va_G) (cI cZ cJ : ClassId) (mo : Nat) (se : Nat) (co : Nat) (ou : Nat) (le : Nat) (wo : Nat) (ma : Nat) (pl : Nat) (tl : Nat) (tm : Nat) (th : Nat) (na : Nat) (si : Nat) (pa : Nat) (ta : Nat) (thr : Int32) (G : Int32) (ky : Int32) (DE : Int32) (cn : Nat) (got : Int32) (S0 : Nat → Nat → Int32) (C0 : Nat → Int32) (O0 : Nat → Int32) (L0 : Nat → Int32) (W0 : Nat → Nat → Int32) (S1 : Nat → Nat → Int32) (C1 : Nat → Int32) (O1 : Nat → Int32) (L1 : Nat → Int32) (W1 : Nat → Nat → Int32) (MP : Nat → Nat) (PL : Nat → Int32) (ML : Nat → Int32) (DL : Nat → Int32) (TH : Nat → Int32) (NM : Nat → Int64) (SZ : Nat → Nat) (PT : Nat → Nat) (TK : Nat → Int32) (f i : Nat) (v : Int32) (hf : f < 8) (ht : ¬ TH f = 0) (hi : i ≤ SZ f) (hi2 : i < 24) (hs : SZ f ≤ 24) (hDE : ¬ DE = 0) : KV l yX5_write wsX5_write ({ frames := 1, cells := 0, slots := 0, locals := 21 }) D (kty cI cZ cJ) [.ref mo, .int (nI f), .int (nI i), .int v] (wM cI cZ cJ mo se co ou le wo ma pl tl tm th na si pa ta thr G ky DE cn got S0 C0 O0 L0 W0 S1 C1 O1 L1 W1 MP PL ML DL TH NM SZ PT TK) (fun (_ : Unit) => True) (fun _ : Unit => (wM cI cZ cJ mo se co ou le wo ma pl tl tm th na si pa ta 2 G ky DE cn got S0 C0 O0 L0 W0 S1 C1 O1 L1 W1 MP PL ML DL TH NM SZ PT TK)) 0 0 := by
  refine k_headV (cc := cX5_write) (maxL := 7) (ret := none) (by decide) rfl (Nat.le_of_ble_eq_true rfl) ?_
  intro p e s m below meth c A ls args Q hx hb hr hml hts hown hlk hnm hA hK hP hD hS hl hQ
  have hl : lv_has ls 7 [(0, .ref mo), (1, .int (nI f)), (2, .int (nI i)), (3, .int v)] := hl
  refine lv_aload_n hx hb dX5_write_0 rfl (lv_at hl 0 rfl) ?_
  refine lv_iload_n hx hb dX5_write_1 rfl (lv_at hl 1 rfl) ?_
  refine k_vi (As := [.int (nI f)]) (rest := []) (w2 := fun u : Unit => (wM cI cZ cJ mo se co ou le wo ma pl tl tm th na si pa ta thr G ky DE cn got S0 C0 O0 L0 W0 S1 C1 O1 L1 W1 MP PL ML DL TH NM SZ PT TK)) ⟨hx, hb, hml, hown, hts⟩ (c_m_isFile_y l D cI cZ cJ mo se co ou le wo ma pl tl tm th na si pa ta thr G ky DE cn got S0 C0 O0 L0 W0 S1 C1 O1 L1 W1 MP PL ML DL TH NM SZ PT TK f hf ht) (cwV 1 hts gX5_write_X5_isFile rfl rfl rfl (by decide +kernel) ⟨Nat.le_of_ble_eq_true rfl, Nat.le_of_ble_eq_true rfl⟩) hP hD hK hS hA [0, 1, 2, 3, 4, 5, 6, 7, 8, 9, 10, 11, 12, 13, 14] [] [0, 1, 2, 3, 4, 5, 6, 7, 8, 9, 10, 11, 12, 13, 14] rfl rfl (by decide) (fun u => rfl) rfl rfl (q0 := 0) rfl rfl hl.1 rfl (Nat.le_of_ble_eq_true rfl) dX5_write_2 ⟨Nat.le_of_ble_eq_true rfl, Nat.le_of_ble_eq_true rfl⟩ (fun r u H locs hu1 hP hD hS => ?_)
  refine k_t1 (show r = 1 from hu1) ?_
  refine lv_if_eq (tgt := 32) hx hb dX5_write_5 (by decide) (fun c1 => ?_) (fun c1 => ?_)
  · skip
    exact absurd c1 (by decide)
  · skip
    refine lv_iload_n hx hb dX5_write_8 rfl (lv_at hl 2 rfl) ?_
    refine lv_if_lt (tgt := 32) hx hb dX5_write_9 (by decide) (fun c2 => ?_) (fun c2 => ?_)
    · skip
      exact absurd c2 (nI_pos (by omega))
    · skip
      refine lv_iload_n hx hb dX5_write_12 rfl (lv_at hl 2 rfl) ?_
      refine lv_aload_n hx hb dX5_write_13 rfl (lv_at hl 0 rfl) ?_
      refine va_get (D := D) (ci := 5) (v := .ref si) (C := RX5) (T := TX5) (N := 20) hx hb hts (by decide +kernel) hown hK hP 0 rfl rfl 16 (by decide) (hts (.fieldLink RX5 45 "VeiledFilesModel" "size" "[I") (by decide +kernel)) (fun _ h9 => h9) rfl dX5_write_14 ?_
      refine lv_iload_n hx hb dX5_write_17 rfl (lv_at hl 1 rfl) ?_
      refine k_iald hx hb hK hP 12 0 rfl rfl f (by omega) (by omega) (v := nI (SZ f)) (rfl) dX5_write_18 ?_
      refine k_icmp_gt (tgt := 32) hx hb (by omega) (by omega) dX5_write_19 (by decide) (fun c3 => ?_) (fun c3 => ?_)
      · skip
        omega
      · skip
        refine lv_iload_n hx hb dX5_write_22 rfl (lv_at hl 2 rfl) ?_
        refine lv_bipush (v := nI 24) hx hb dX5_write_23 (by decide) ?_
        refine k_icmp_ge (tgt := 32) hx hb (by omega) (by omega) dX5_write_25 (by decide) (fun c4 => ?_) (fun c4 => ?_)
        · skip
          omega
        · skip
          refine lv_iconst (v := nI 1) hx hb dX5_write_28 (by decide) ?_
          refine lv_goto (tgt := 33) hx hb dX5_write_29 (by decide) ?_
          refine lv_istore (lv' := [(4, .int (nI 1)), (0, .ref mo), (1, .int (nI f)), (2, .int (nI i)), (3, .int v)]) hx hb dX5_write_33 hl (by decide) rfl (fun ls hl => ?_)
          refine lv_aload_n hx hb dX5_write_35 rfl (lv_at hl 1 rfl) ?_
          refine lv_iload hx hb dX5_write_36 (lv_at hl 0 rfl) ?_
          refine lv_if_ne (tgt := 45) hx hb dX5_write_38 (by decide) (fun c5 => ?_) (fun c5 => ?_)
          · skip
            refine lv_aload_n hx hb dX5_write_45 rfl (lv_at hl 1 rfl) ?_
            refine va_get (D := D) (ci := 5) (v := .int DE) (C := RX5) (T := TX5) (N := 20) hx hb hts (by decide +kernel) hown hK hP 0 rfl rfl 3 (by decide) (hts (.fieldLink RX5 131 "VeiledFilesModel" "dead" "Z") (by decide +kernel)) (fun _ h9 => h9) rfl dX5_write_46 ?_
            refine lv_if_eq (tgt := 56) hx hb dX5_write_49 (by decide) (fun c6 => ?_) (fun c6 => ?_)
            · skip
              exact absurd c6 hDE
            · skip
              refine lv_iconst (v := nI 2) hx hb dX5_write_52 (by decide) ?_
              refine lv_goto (tgt := 57) hx hb dX5_write_53 (by decide) ?_
              refine va_put (D := D) (ci := 5) (v := .int (nI 2)) (ty := .int) (C := RX5) (T := TX5) (N := 20) hx hb hts (by decide +kernel) tyX5 tyX5_ok nmX5 hown hK hP hD hS 0 rfl rfl 0 (by decide) (hts (.fieldLink RX5 58 "VeiledFilesModel" "thrown" "I") (by decide +kernel)) (fun _ h9 => h9) rfl (by decide +kernel) rfl rfl (Nat.le_of_ble_eq_true rfl) dX5_write_57 (fun H locs hP hD hS => ?_)
              have hP : va_P D vwCl (wM cI cZ cJ mo se co ou le wo ma pl tl tm th na si pa ta 2 G ky DE cn got S0 C0 O0 L0 W0 S1 C1 O1 L1 W1 MP PL ML DL TH NM SZ PT TK) _ := hP
              have hD : va_D A (wM cI cZ cJ mo se co ou le wo ma pl tl tm th na si pa ta 2 G ky DE cn got S0 C0 O0 L0 W0 S1 C1 O1 L1 W1 MP PL ML DL TH NM SZ PT TK) := hD
              refine lv_aload_n hx hb dX5_write_60 rfl (lv_at hl 1 rfl) ?_
              refine va_get (D := D) (ci := 5) (v := .int 2) (C := RX5) (T := TX5) (N := 20) hx hb hts (by decide +kernel) hown hK hP 0 rfl rfl 0 (by decide) (hts (.fieldLink RX5 58 "VeiledFilesModel" "thrown" "I") (by decide +kernel)) (fun _ h9 => h9) rfl dX5_write_61 ?_
              refine lv_if_eq (tgt := 68) hx hb dX5_write_64 (by decide) (fun c7 => ?_) (fun c7 => ?_)
              · skip
                exact absurd c7 (by decide)
              · skip
                exact k_retv () hx hb hr hK hS hlk dX5_write_67 hP hD (trivial) hQ
          · skip
            exact absurd c5 (by decide)

set_option maxHeartbeats 800000 in
set_option maxRecDepth 100000 in
theorem c_m_write_Ao (l : Launch) (D : va_G) (cI cZ cJ : ClassId) (mo : Nat) (se : Nat) (co : Nat) (ou : Nat) (le : Nat) (wo : Nat) (ma : Nat) (pl : Nat) (tl : Nat) (tm : Nat) (th : Nat) (na : Nat) (si : Nat) (pa : Nat) (ta : Nat) (thr : Int32) (G : Int32) (ky : Int32) (DE : Int32) (cn : Nat) (got : Int32) (S0 : Nat → Nat → Int32) (C0 : Nat → Int32) (O0 : Nat → Int32) (L0 : Nat → Int32) (W0 : Nat → Nat → Int32) (S1 : Nat → Nat → Int32) (C1 : Nat → Int32) (O1 : Nat → Int32) (L1 : Nat → Int32) (W1 : Nat → Nat → Int32) (MP : Nat → Nat) (PL : Nat → Int32) (ML : Nat → Int32) (DL : Nat → Int32) (TH : Nat → Int32) (NM : Nat → Int64) (SZ : Nat → Nat) (PT : Nat → Nat) (TK : Nat → Int32) (f i d l0 : Nat) (v : Int32) (hDE : DE = 0) (hf : f < 8) (ht : ¬ TH f = 0) (hi : i ≤ SZ f) (hi2 : i < 24) (hs : SZ f ≤ 24) (hsz : i = SZ f) (hm : i % 4 = 0) (hdd : d = frQ TK 64) (hd : d < 64) (hMl : MP (d / 8) = l0) (hl4 : l0 < 4) (hc : cn < 100000) (j0 : Nat) (hj : j0 < 3) (hw : ∀ up, up < j0 → wholeB ky 0 C0 S0 (pathB 4 l0 up)) (hn : ¬ wholeB ky 0 C0 S0 (pathB 4 l0 j0)) : KV l yX5_write wsX5_write ({ frames := 5, cells := 0, slots := 0, locals := 127 }) D (kty cI cZ cJ) [.ref mo, .int (nI f), .int (nI i), .int v] (wM cI cZ cJ mo se co ou le wo ma pl tl tm th na si pa ta thr G ky DE cn got S0 C0 O0 L0 W0 S1 C1 O1 L1 W1 MP PL ML DL TH NM SZ PT TK) (fun (_ : Nat → Int32) => True) (fun u : Nat → Int32 => (wM cI cZ cJ mo se co ou le wo ma pl tl tm th na si pa ta 2 (dstep G) ky 1 (cn + 1) got S0 C0 O0 L0 W0 S1 C1 O1 L1 W1 (upN MP (d / 8) (drw 2 G)) u (upd ML (cn % 64) (nI l0)) (upd DL (cn % 64) (-1)) TH NM SZ PT TK)) 0 0 := by
  refine k_headV (cc := cX5_write) (maxL := 7) (ret := none) (by decide) rfl (Nat.le_of_ble_eq_true rfl) ?_
  intro p e s m below meth c A ls args Q hx hb hr hml hts hown hlk hnm hA hK hP hD hS hl hQ
  have hl : lv_has ls 7 [(0, .ref mo), (1, .int (nI f)), (2, .int (nI i)), (3, .int v)] := hl
  refine lv_aload_n hx hb dX5_write_0 rfl (lv_at hl 0 rfl) ?_
  refine lv_iload_n hx hb dX5_write_1 rfl (lv_at hl 1 rfl) ?_
  refine k_vi (As := [.int (nI f)]) (rest := []) (w2 := fun u : Unit => (wM cI cZ cJ mo se co ou le wo ma pl tl tm th na si pa ta thr G ky DE cn got S0 C0 O0 L0 W0 S1 C1 O1 L1 W1 MP PL ML DL TH NM SZ PT TK)) ⟨hx, hb, hml, hown, hts⟩ (c_m_isFile_y l D cI cZ cJ mo se co ou le wo ma pl tl tm th na si pa ta thr G ky DE cn got S0 C0 O0 L0 W0 S1 C1 O1 L1 W1 MP PL ML DL TH NM SZ PT TK f hf ht) (cwV 1 hts gX5_write_X5_isFile rfl rfl rfl (by decide +kernel) ⟨Nat.le_of_ble_eq_true rfl, Nat.le_of_ble_eq_true rfl⟩) hP hD hK hS hA [0, 1, 2, 3, 4, 5, 6, 7, 8, 9, 10, 11, 12, 13, 14] [] [0, 1, 2, 3, 4, 5, 6, 7, 8, 9, 10, 11, 12, 13, 14] rfl rfl (by decide) (fun u => rfl) rfl rfl (q0 := 0) rfl rfl hl.1 rfl (Nat.le_of_ble_eq_true rfl) dX5_write_2 ⟨Nat.le_of_ble_eq_true rfl, Nat.le_of_ble_eq_true rfl⟩ (fun r u H locs hu1 hP hD hS => ?_)
  refine k_t1 (show r = 1 from hu1) ?_
  refine lv_if_eq (tgt := 32) hx hb dX5_write_5 (by decide) (fun c1 => ?_) (fun c1 => ?_)
  · skip
    exact absurd c1 (by decide)
  · skip
    refine lv_iload_n hx hb dX5_write_8 rfl (lv_at hl 2 rfl) ?_
    refine lv_if_lt (tgt := 32) hx hb dX5_write_9 (by decide) (fun c2 => ?_) (fun c2 => ?_)
    · skip
      exact absurd c2 (nI_pos (by omega))
    · skip
      refine lv_iload_n hx hb dX5_write_12 rfl (lv_at hl 2 rfl) ?_
      refine lv_aload_n hx hb dX5_write_13 rfl (lv_at hl 0 rfl) ?_
      refine va_get (D := D) (ci := 5) (v := .ref si) (C := RX5) (T := TX5) (N := 20) hx hb hts (by decide +kernel) hown hK hP 0 rfl rfl 16 (by decide) (hts (.fieldLink RX5 45 "VeiledFilesModel" "size" "[I") (by decide +kernel)) (fun _ h9 => h9) rfl dX5_write_14 ?_
      refine lv_iload_n hx hb dX5_write_17 rfl (lv_at hl 1 rfl) ?_
      refine k_iald hx hb hK hP 12 0 rfl rfl f (by omega) (by omega) (v := nI (SZ f)) (rfl) dX5_write_18 ?_
      refine k_icmp_gt (tgt := 32) hx hb (by omega) (by omega) dX5_write_19 (by decide) (fun c3 => ?_) (fun c3 => ?_)
      · skip
        omega
      · skip
        refine lv_iload_n hx hb dX5_write_22 rfl (lv_at hl 2 rfl) ?_
        refine lv_bipush (v := nI 24) hx hb dX5_write_23 (by decide) ?_
        refine k_icmp_ge (tgt := 32) hx hb (by omega) (by omega) dX5_write_25 (by decide) (fun c4 => ?_) (fun c4 => ?_)
        · skip
          omega
        · skip
          refine lv_iconst (v := nI 1) hx hb dX5_write_28 (by decide) ?_
          refine lv_goto (tgt := 33) hx hb dX5_write_29 (by decide) ?_
          refine lv_istore (lv' := [(4, .int (nI 1)), (0, .ref mo), (1, .int (nI f)), (2, .int (nI i)), (3, .int v)]) hx hb dX5_write_33 hl (by decide) rfl (fun ls hl => ?_)
          refine lv_aload_n hx hb dX5_write_35 rfl (lv_at hl 1 rfl) ?_
          refine lv_iload hx hb dX5_write_36 (lv_at hl 0 rfl) ?_
          refine lv_if_ne (tgt := 45) hx hb dX5_write_38 (by decide) (fun c5 => ?_) (fun c5 => ?_)
          · skip
            refine lv_aload_n hx hb dX5_write_45 rfl (lv_at hl 1 rfl) ?_
            refine va_get (D := D) (ci := 5) (v := .int DE) (C := RX5) (T := TX5) (N := 20) hx hb hts (by decide +kernel) hown hK hP 0 rfl rfl 3 (by decide) (hts (.fieldLink RX5 131 "VeiledFilesModel" "dead" "Z") (by decide +kernel)) (fun _ h9 => h9) rfl dX5_write_46 ?_
            refine lv_if_eq (tgt := 56) hx hb dX5_write_49 (by decide) (fun c6 => ?_) (fun c6 => ?_)
            · skip
              refine lv_iconst (v := nI 0) hx hb dX5_write_56 (by decide) ?_
              refine va_put (D := D) (ci := 5) (v := .int (nI 0)) (ty := .int) (C := RX5) (T := TX5) (N := 20) hx hb hts (by decide +kernel) tyX5 tyX5_ok nmX5 hown hK hP hD hS 0 rfl rfl 0 (by decide) (hts (.fieldLink RX5 58 "VeiledFilesModel" "thrown" "I") (by decide +kernel)) (fun _ h9 => h9) rfl (by decide +kernel) rfl rfl (Nat.le_of_ble_eq_true rfl) dX5_write_57 (fun H locs hP hD hS => ?_)
              have hP : va_P D vwCl (wM cI cZ cJ mo se co ou le wo ma pl tl tm th na si pa ta 0 G ky DE cn got S0 C0 O0 L0 W0 S1 C1 O1 L1 W1 MP PL ML DL TH NM SZ PT TK) _ := hP
              have hD : va_D A (wM cI cZ cJ mo se co ou le wo ma pl tl tm th na si pa ta 0 G ky DE cn got S0 C0 O0 L0 W0 S1 C1 O1 L1 W1 MP PL ML DL TH NM SZ PT TK) := hD
              refine lv_aload_n hx hb dX5_write_60 rfl (lv_at hl 1 rfl) ?_
              refine va_get (D := D) (ci := 5) (v := .int 0) (C := RX5) (T := TX5) (N := 20) hx hb hts (by decide +kernel) hown hK hP 0 rfl rfl 0 (by decide) (hts (.fieldLink RX5 58 "VeiledFilesModel" "thrown" "I") (by decide +kernel)) (fun _ h9 => h9) rfl dX5_write_61 ?_
              refine lv_if_eq (tgt := 68) hx hb dX5_write_64 (by decide) (fun c7 => ?_) (fun c7 => ?_)
              · skip
                refine lv_iload_n hx hb dX5_write_68 rfl (lv_at hl 3 rfl) ?_
                refine lv_aload_n hx hb dX5_write_69 rfl (lv_at hl 1 rfl) ?_
                refine va_get (D := D) (ci := 5) (v := .ref si) (C := RX5) (T := TX5) (N := 20) hx hb hts (by decide +kernel) hown hK hP 0 rfl rfl 16 (by decide) (hts (.fieldLink RX5 45 "VeiledFilesModel" "size" "[I") (by decide +kernel)) (fun _ h9 => h9) rfl dX5_write_70 ?_
                refine lv_iload_n hx hb dX5_write_73 rfl (lv_at hl 2 rfl) ?_
                refine k_iald hx hb hK hP 12 0 rfl rfl f (by omega) (by omega) (v := nI (SZ f)) (rfl) dX5_write_74 ?_
                refine k_icmp_ne (tgt := 88) hx hb (by omega) (by omega) dX5_write_75 (by decide) (fun c8 => ?_) (fun c8 => ?_)
                · skip
                  omega
                · skip
                  refine lv_iload_n hx hb dX5_write_78 rfl (lv_at hl 3 rfl) ?_
                  refine lv_iconst (v := nI 4) hx hb dX5_write_79 (by decide) ?_
                  refine lv_irem hx hb dX5_write_80 (by decide) ?_
                  refine k_t1 (show (nI i) - (nI i) / (nI 4) * (nI 4) = nI (i % 4) from pk_rem (by omega) (by omega) (by omega)) ?_
                  refine lv_if_ne (tgt := 88) hx hb dX5_write_81 (by decide) (fun cf => ?_) (fun cf => ?_)
                  · skip
                    exact absurd (show nI (i % 4) = 0 by rw [hm]; rfl) cf
                  · skip
                    refine lv_iconst (v := nI 1) hx hb dX5_write_84 (by decide) ?_
                    refine lv_goto (tgt := 89) hx hb dX5_write_85 (by decide) ?_
                    refine lv_istore (lv' := [(5, .int (nI 1)), (4, .int (nI 1)), (0, .ref mo), (1, .int (nI f)), (2, .int (nI i)), (3, .int v)]) hx hb dX5_write_89 hl (by decide) rfl (fun ls hl => ?_)
                    refine lv_iconst (v := nI 0) hx hb dX5_write_91 (by decide) ?_
                    refine lv_istore (lv' := [(6, .int (nI 0)), (5, .int (nI 1)), (4, .int (nI 1)), (0, .ref mo), (1, .int (nI f)), (2, .int (nI i)), (3, .int v)]) hx hb dX5_write_92 hl (by decide) rfl (fun ls hl => ?_)
                    refine lv_iload hx hb dX5_write_94 (lv_at hl 1 rfl) ?_
                    refine lv_if_eq (tgt := 115) hx hb dX5_write_96 (by decide) (fun c9 => ?_) (fun c9 => ?_)
                    · skip
                      exact absurd c9 (by decide)
                    · skip
                      have hfq := (ff_spec (fun d => decide (TK d = 0)) 64)
                      have hfd : frQ TK 64 = d := hdd.symm
                      have hlt : ∀ j, j < d → ¬ TK j = 0 := fun j hj => by have h9 := hfq.2.1 j (by rw [show ff (fun d => decide (TK d = 0)) 64 = d from hfd]; exact hj); simpa using h9
                      have hz : TK d = 0 := by have h9 := hfq.2.2 (by rw [show ff (fun d => decide (TK d = 0)) 64 = d from hfd]; exact hd); rw [show ff (fun d => decide (TK d = 0)) 64 = d from hfd] at h9; simpa using h9
                      have Lw : ∀ (nf q : Nat) (hvLw : q ≤ d) (hFLw : d - q < nf) (H : Heap) (locs : List Loc) (ls : Array Slot), va_P D vwCl (wM cI cZ cJ mo se co ou le wo ma pl tl tm th na si pa ta 0 G ky DE cn got S0 C0 O0 L0 W0 S1 C1 O1 L1 W1 MP PL ML DL TH NM SZ PT TK) H → va_D A (wM cI cZ cJ mo se co ou le wo ma pl tl tm th na si pa ta 0 G ky DE cn got S0 C0 O0 L0 W0 S1 C1 O1 L1 W1 MP PL ML DL TH NM SZ PT TK) → va_S A s.heap H locs → lv_has ls 7 [(0, .ref mo), (1, .int (nI f)), (2, .int (nI i)), (3, .int v), (5, .int (nI 1)), (6, .int (nI q))] → W p l e ({ frames := 5, cells := 0, slots := 0, locals := 127 } : Room) s m args below meth c H locs 0 0 Q (F0 m 99 ls []) := by
                        intro nf
                        induction nf with
                        | zero => intro q  hvLw hFLw; omega
                        | succ nf ihLw =>
                          intro q  hvLw hFLw  H locs ls hP hD hS hl
                          refine lv_aload_n hx hb dX5_write_99 rfl (lv_at hl 0 rfl) ?_
                          refine va_get (D := D) (ci := 5) (v := .ref ta) (C := RX5) (T := TX5) (N := 20) hx hb hts (by decide +kernel) hown hK hP 0 rfl rfl 18 (by decide) (hts (.fieldLink RX5 51 "VeiledFilesModel" "taken" "[Z") (by decide +kernel)) (fun _ h9 => h9) rfl dX5_write_100 ?_
                          refine lv_iload hx hb dX5_write_103 (lv_at hl 5 rfl) ?_
                          refine k_zald hx hb hK hP 14 1 rfl rfl q (by omega) (by omega) (v := TK q) (rfl) dX5_write_105 ?_
                          refine lv_if_eq (tgt := 130) hx hb dX5_write_106 (by decide) (fun ca => ?_) (fun ca => ?_)
                          · skip
                            have hqd : q = d := Classical.byContradiction fun z => hlt q (by omega) ca
                            subst hqd
                            refine lv_aload_n hx hb dX5_write_130 rfl (lv_at hl 0 rfl) ?_
                            refine lv_iload hx hb dX5_write_131 (lv_at hl 5 rfl) ?_
                            refine lv_iload_n hx hb dX5_write_133 rfl (lv_at hl 2 rfl) ?_
                            refine lv_iconst (v := nI 4) hx hb dX5_write_134 (by decide) ?_
                            refine lv_irem hx hb dX5_write_135 (by decide) ?_
                            refine k_t1 (show (nI i) - (nI i) / (nI 4) * (nI 4) = nI (i % 4) from pk_rem (by omega) (by omega) (by omega)) ?_
                            refine lv_iconst (v := nI 1) hx hb dX5_write_136 (by decide) ?_
                            refine lv_iload hx hb dX5_write_137 (lv_at hl 4 rfl) ?_
                            refine lv_iload_n hx hb dX5_write_139 rfl (lv_at hl 3 rfl) ?_
                            refine k_vi (As := [.int (nI q), .int (nI (i % 4)), .int (nI 1), .int (nI 1), .int v]) (rest := []) (w2 := fun P1 : Nat → Int32 => (wM cI cZ cJ mo se co ou le wo ma pl tl tm th na si pa ta 0 (dstep G) ky 1 (cn + 1) got S0 C0 O0 L0 W0 S1 C1 O1 L1 W1 (upN MP (q / 8) (drw 2 G)) P1 (upd ML (cn % 64) (nI l0)) (upd DL (cn % 64) (-1)) TH NM SZ PT TK)) ⟨hx, hb, hml, hown, hts⟩ (c_m_acc_A l D cI cZ cJ mo se co ou le wo ma pl tl tm th na si pa ta 0 G ky DE cn got S0 C0 O0 L0 W0 S1 C1 O1 L1 W1 MP PL ML DL TH NM SZ PT TK q l0 (i % 4) 1 1 v hd hMl hl4 hc j0 hj hw hn) (cwV 5 hts gX5_write_X5_access rfl rfl rfl (by decide +kernel) ⟨Nat.le_of_ble_eq_true rfl, Nat.le_of_ble_eq_true rfl⟩) hP hD hK hS hA [0, 1, 2, 3, 4, 5, 6, 7, 8, 9, 10, 11, 12, 13, 14] [] [0, 1, 2, 3, 4, 5, 6, 7, 8, 9, 10, 11, 12, 13, 14] rfl rfl (by decide) (fun u => rfl) rfl rfl (q0 := 0) rfl rfl hl.1 rfl (Nat.le_of_ble_eq_true rfl) dX5_write_140 ⟨Nat.le_of_ble_eq_true rfl, Nat.le_of_ble_eq_true rfl⟩ (fun r P1 H locs hu2 hP hD hS => ?_)
                            refine k_t1 (show r = 0 from hu2) ?_
                            refine lv_if_ne (tgt := 152) hx hb dX5_write_143 (by decide) (fun cc => ?_) (fun cc => ?_)
                            · skip
                              exact absurd rfl cc
                            · skip
                              refine lv_aload_n hx hb dX5_write_146 rfl (lv_at hl 0 rfl) ?_
                              refine lv_iconst (v := nI 2) hx hb dX5_write_147 (by decide) ?_
                              refine va_put (D := D) (ci := 5) (v := .int (nI 2)) (ty := .int) (C := RX5) (T := TX5) (N := 20) hx hb hts (by decide +kernel) tyX5 tyX5_ok nmX5 hown hK hP hD hS 0 rfl rfl 0 (by decide) (hts (.fieldLink RX5 58 "VeiledFilesModel" "thrown" "I") (by decide +kernel)) (fun _ h9 => h9) rfl (by decide +kernel) rfl rfl (Nat.le_of_ble_eq_true rfl) dX5_write_148 (fun H locs hP hD hS => ?_)
                              have hP : va_P D vwCl (wM cI cZ cJ mo se co ou le wo ma pl tl tm th na si pa ta 2 (dstep G) ky 1 (cn + 1) got S0 C0 O0 L0 W0 S1 C1 O1 L1 W1 (upN MP (q / 8) (drw 2 G)) P1 (upd ML (cn % 64) (nI l0)) (upd DL (cn % 64) (-1)) TH NM SZ PT TK) _ := hP
                              have hD : va_D A (wM cI cZ cJ mo se co ou le wo ma pl tl tm th na si pa ta 2 (dstep G) ky 1 (cn + 1) got S0 C0 O0 L0 W0 S1 C1 O1 L1 W1 (upN MP (q / 8) (drw 2 G)) P1 (upd ML (cn % 64) (nI l0)) (upd DL (cn % 64) (-1)) TH NM SZ PT TK) := hD
                              exact k_retv P1 hx hb hr hK hS hlk dX5_write_151 hP hD (trivial) hQ
                          · skip
                            have hqd : q ≠ d := fun z => ca (by rw [z]; exact hz)
                            refine lv_iinc (v := nI (q + 1)) (lv' := [(6, .int (nI (q + 1))), (0, .ref mo), (1, .int (nI f)), (2, .int (nI i)), (3, .int v), (5, .int (nI 1))]) hx hb dX5_write_109 hl (k := 5) rfl (nI_add q 1) (by decide) rfl (fun ls hl => ?_)
                            refine lv_goto (tgt := 99) hx hb dX5_write_112 (by decide) ?_
                            exact ihLw (q + 1)  (by omega) (by omega)  _ _ _ hP hD hS (lv_sub hl [1, 2, 3, 4, 5, 0] rfl)
                      exact Lw (d + 1) 0  (by omega) (by omega)  _ _ _ hP hD hS (lv_sub hl [3, 4, 5, 6, 1, 0] rfl)
              · skip
                exact absurd rfl c7
            · skip
              exact absurd hDE c6
          · skip
            exact absurd c5 (by decide)

set_option maxHeartbeats 800000 in
set_option maxRecDepth 100000 in
theorem c_m_write_An (l : Launch) (D : va_G) (cI cZ cJ : ClassId) (mo : Nat) (se : Nat) (co : Nat) (ou : Nat) (le : Nat) (wo : Nat) (ma : Nat) (pl : Nat) (tl : Nat) (tm : Nat) (th : Nat) (na : Nat) (si : Nat) (pa : Nat) (ta : Nat) (thr : Int32) (G : Int32) (ky : Int32) (DE : Int32) (cn : Nat) (got : Int32) (S0 : Nat → Nat → Int32) (C0 : Nat → Int32) (O0 : Nat → Int32) (L0 : Nat → Int32) (W0 : Nat → Nat → Int32) (S1 : Nat → Nat → Int32) (C1 : Nat → Int32) (O1 : Nat → Int32) (L1 : Nat → Int32) (W1 : Nat → Nat → Int32) (MP : Nat → Nat) (PL : Nat → Int32) (ML : Nat → Int32) (DL : Nat → Int32) (TH : Nat → Int32) (NM : Nat → Int64) (SZ : Nat → Nat) (PT : Nat → Nat) (TK : Nat → Int32) (f i d l0 : Nat) (v : Int32) (hDE : DE = 0) (hf : f < 8) (ht : ¬ TH f = 0) (hi : i ≤ SZ f) (hi2 : i < 24) (hs : SZ f ≤ 24) (hsz : ¬ (i = SZ f ∧ i % 4 = 0)) (hdd : d = PT (6 * f + i / 4)) (hd : d < 64) (hMl : MP (d / 8) = l0) (hl4 : l0 < 4) (hc : cn < 100000) (j0 : Nat) (hj : j0 < 3) (hw : ∀ up, up < j0 → wholeB ky 0 C0 S0 (pathB 4 l0 up)) (hn : ¬ wholeB ky 0 C0 S0 (pathB 4 l0 j0)) : KV l yX5_write wsX5_write ({ frames := 5, cells := 0, slots := 0, locals := 127 }) D (kty cI cZ cJ) [.ref mo, .int (nI f), .int (nI i), .int v] (wM cI cZ cJ mo se co ou le wo ma pl tl tm th na si pa ta thr G ky DE cn got S0 C0 O0 L0 W0 S1 C1 O1 L1 W1 MP PL ML DL TH NM SZ PT TK) (fun (_ : Nat → Int32) => True) (fun u : Nat → Int32 => (wM cI cZ cJ mo se co ou le wo ma pl tl tm th na si pa ta 2 (dstep G) ky 1 (cn + 1) got S0 C0 O0 L0 W0 S1 C1 O1 L1 W1 (upN MP (d / 8) (drw 2 G)) u (upd ML (cn % 64) (nI l0)) (upd DL (cn % 64) (-1)) TH NM SZ PT TK)) 0 0 := by
  refine k_headV (cc := cX5_write) (maxL := 7) (ret := none) (by decide) rfl (Nat.le_of_ble_eq_true rfl) ?_
  intro p e s m below meth c A ls args Q hx hb hr hml hts hown hlk hnm hA hK hP hD hS hl hQ
  have hl : lv_has ls 7 [(0, .ref mo), (1, .int (nI f)), (2, .int (nI i)), (3, .int v)] := hl
  refine lv_aload_n hx hb dX5_write_0 rfl (lv_at hl 0 rfl) ?_
  refine lv_iload_n hx hb dX5_write_1 rfl (lv_at hl 1 rfl) ?_
  refine k_vi (As := [.int (nI f)]) (rest := []) (w2 := fun u : Unit => (wM cI cZ cJ mo se co ou le wo ma pl tl tm th na si pa ta thr G ky DE cn got S0 C0 O0 L0 W0 S1 C1 O1 L1 W1 MP PL ML DL TH NM SZ PT TK)) ⟨hx, hb, hml, hown, hts⟩ (c_m_isFile_y l D cI cZ cJ mo se co ou le wo ma pl tl tm th na si pa ta thr G ky DE cn got S0 C0 O0 L0 W0 S1 C1 O1 L1 W1 MP PL ML DL TH NM SZ PT TK f hf ht) (cwV 1 hts gX5_write_X5_isFile rfl rfl rfl (by decide +kernel) ⟨Nat.le_of_ble_eq_true rfl, Nat.le_of_ble_eq_true rfl⟩) hP hD hK hS hA [0, 1, 2, 3, 4, 5, 6, 7, 8, 9, 10, 11, 12, 13, 14] [] [0, 1, 2, 3, 4, 5, 6, 7, 8, 9, 10, 11, 12, 13, 14] rfl rfl (by decide) (fun u => rfl) rfl rfl (q0 := 0) rfl rfl hl.1 rfl (Nat.le_of_ble_eq_true rfl) dX5_write_2 ⟨Nat.le_of_ble_eq_true rfl, Nat.le_of_ble_eq_true rfl⟩ (fun r u H locs hu1 hP hD hS => ?_)
  refine k_t1 (show r = 1 from hu1) ?_
  refine lv_if_eq (tgt := 32) hx hb dX5_write_5 (by decide) (fun c1 => ?_) (fun c1 => ?_)
  · skip
    exact absurd c1 (by decide)
  · skip
    refine lv_iload_n hx hb dX5_write_8 rfl (lv_at hl 2 rfl) ?_
    refine lv_if_lt (tgt := 32) hx hb dX5_write_9 (by decide) (fun c2 => ?_) (fun c2 => ?_)
    · skip
      exact absurd c2 (nI_pos (by omega))
    · skip
      refine lv_iload_n hx hb dX5_write_12 rfl (lv_at hl 2 rfl) ?_
      refine lv_aload_n hx hb dX5_write_13 rfl (lv_at hl 0 rfl) ?_
      refine va_get (D := D) (ci := 5) (v := .ref si) (C := RX5) (T := TX5) (N := 20) hx hb hts (by decide +kernel) hown hK hP 0 rfl rfl 16 (by decide) (hts (.fieldLink RX5 45 "VeiledFilesModel" "size" "[I") (by decide +kernel)) (fun _ h9 => h9) rfl dX5_write_14 ?_
      refine lv_iload_n hx hb dX5_write_17 rfl (lv_at hl 1 rfl) ?_
      refine k_iald hx hb hK hP 12 0 rfl rfl f (by omega) (by omega) (v := nI (SZ f)) (rfl) dX5_write_18 ?_
      refine k_icmp_gt (tgt := 32) hx hb (by omega) (by omega) dX5_write_19 (by decide) (fun c3 => ?_) (fun c3 => ?_)
      · skip
        omega
      · skip
        refine lv_iload_n hx hb dX5_write_22 rfl (lv_at hl 2 rfl) ?_
        refine lv_bipush (v := nI 24) hx hb dX5_write_23 (by decide) ?_
        refine k_icmp_ge (tgt := 32) hx hb (by omega) (by omega) dX5_write_25 (by decide) (fun c4 => ?_) (fun c4 => ?_)
        · skip
          omega
        · skip
          refine lv_iconst (v := nI 1) hx hb dX5_write_28 (by decide) ?_
          refine lv_goto (tgt := 33) hx hb dX5_write_29 (by decide) ?_
          refine lv_istore (lv' := [(4, .int (nI 1)), (0, .ref mo), (1, .int (nI f)), (2, .int (nI i)), (3, .int v)]) hx hb dX5_write_33 hl (by decide) rfl (fun ls hl => ?_)
          refine lv_aload_n hx hb dX5_write_35 rfl (lv_at hl 1 rfl) ?_
          refine lv_iload hx hb dX5_write_36 (lv_at hl 0 rfl) ?_
          refine lv_if_ne (tgt := 45) hx hb dX5_write_38 (by decide) (fun c5 => ?_) (fun c5 => ?_)
          · skip
            refine lv_aload_n hx hb dX5_write_45 rfl (lv_at hl 1 rfl) ?_
            refine va_get (D := D) (ci := 5) (v := .int DE) (C := RX5) (T := TX5) (N := 20) hx hb hts (by decide +kernel) hown hK hP 0 rfl rfl 3 (by decide) (hts (.fieldLink RX5 131 "VeiledFilesModel" "dead" "Z") (by decide +kernel)) (fun _ h9 => h9) rfl dX5_write_46 ?_
            refine lv_if_eq (tgt := 56) hx hb dX5_write_49 (by decide) (fun c6 => ?_) (fun c6 => ?_)
            · skip
              refine lv_iconst (v := nI 0) hx hb dX5_write_56 (by decide) ?_
              refine va_put (D := D) (ci := 5) (v := .int (nI 0)) (ty := .int) (C := RX5) (T := TX5) (N := 20) hx hb hts (by decide +kernel) tyX5 tyX5_ok nmX5 hown hK hP hD hS 0 rfl rfl 0 (by decide) (hts (.fieldLink RX5 58 "VeiledFilesModel" "thrown" "I") (by decide +kernel)) (fun _ h9 => h9) rfl (by decide +kernel) rfl rfl (Nat.le_of_ble_eq_true rfl) dX5_write_57 (fun H locs hP hD hS => ?_)
              have hP : va_P D vwCl (wM cI cZ cJ mo se co ou le wo ma pl tl tm th na si pa ta 0 G ky DE cn got S0 C0 O0 L0 W0 S1 C1 O1 L1 W1 MP PL ML DL TH NM SZ PT TK) _ := hP
              have hD : va_D A (wM cI cZ cJ mo se co ou le wo ma pl tl tm th na si pa ta 0 G ky DE cn got S0 C0 O0 L0 W0 S1 C1 O1 L1 W1 MP PL ML DL TH NM SZ PT TK) := hD
              refine lv_aload_n hx hb dX5_write_60 rfl (lv_at hl 1 rfl) ?_
              refine va_get (D := D) (ci := 5) (v := .int 0) (C := RX5) (T := TX5) (N := 20) hx hb hts (by decide +kernel) hown hK hP 0 rfl rfl 0 (by decide) (hts (.fieldLink RX5 58 "VeiledFilesModel" "thrown" "I") (by decide +kernel)) (fun _ h9 => h9) rfl dX5_write_61 ?_
              refine lv_if_eq (tgt := 68) hx hb dX5_write_64 (by decide) (fun c7 => ?_) (fun c7 => ?_)
              · skip
                refine lv_iload_n hx hb dX5_write_68 rfl (lv_at hl 3 rfl) ?_
                refine lv_aload_n hx hb dX5_write_69 rfl (lv_at hl 1 rfl) ?_
                refine va_get (D := D) (ci := 5) (v := .ref si) (C := RX5) (T := TX5) (N := 20) hx hb hts (by decide +kernel) hown hK hP 0 rfl rfl 16 (by decide) (hts (.fieldLink RX5 45 "VeiledFilesModel" "size" "[I") (by decide +kernel)) (fun _ h9 => h9) rfl dX5_write_70 ?_
                refine lv_iload_n hx hb dX5_write_73 rfl (lv_at hl 2 rfl) ?_
                refine k_iald hx hb hK hP 12 0 rfl rfl f (by omega) (by omega) (v := nI (SZ f)) (rfl) dX5_write_74 ?_
                refine k_icmp_ne (tgt := 88) hx hb (by omega) (by omega) dX5_write_75 (by decide) (fun c8 => ?_) (fun c8 => ?_)
                · skip
                  refine lv_iconst (v := nI 0) hx hb dX5_write_88 (by decide) ?_
                  refine lv_istore (lv' := [(5, .int (nI 0)), (4, .int (nI 1)), (0, .ref mo), (1, .int (nI f)), (2, .int (nI i)), (3, .int v)]) hx hb dX5_write_89 hl (by decide) rfl (fun ls hl => ?_)
                  refine lv_iconst (v := nI 0) hx hb dX5_write_91 (by decide) ?_
                  refine lv_istore (lv' := [(6, .int (nI 0)), (5, .int (nI 0)), (4, .int (nI 1)), (0, .ref mo), (1, .int (nI f)), (2, .int (nI i)), (3, .int v)]) hx hb dX5_write_92 hl (by decide) rfl (fun ls hl => ?_)
                  refine lv_iload hx hb dX5_write_94 (lv_at hl 1 rfl) ?_
                  refine lv_if_eq (tgt := 115) hx hb dX5_write_96 (by decide) (fun c9 => ?_) (fun c9 => ?_)
                  · skip
                    refine lv_aload_n hx hb dX5_write_115 rfl (lv_at hl 3 rfl) ?_
                    refine va_get (D := D) (ci := 5) (v := .ref pa) (C := RX5) (T := TX5) (N := 20) hx hb hts (by decide +kernel) hown hK hP 0 rfl rfl 17 (by decide) (hts (.fieldLink RX5 48 "VeiledFilesModel" "part" "[I") (by decide +kernel)) (fun _ h9 => h9) rfl dX5_write_116 ?_
                    refine lv_bipush (v := nI 6) hx hb dX5_write_119 (by decide) ?_
                    refine lv_iload_n hx hb dX5_write_121 rfl (lv_at hl 4 rfl) ?_
                    refine lv_imul hx hb dX5_write_122 ?_
                    refine k_t1 (show (nI 6) * (nI f) = nI (6 * f) from pk_mul _ _) ?_
                    refine lv_iload_n hx hb dX5_write_123 rfl (lv_at hl 5 rfl) ?_
                    refine lv_iconst (v := nI 4) hx hb dX5_write_124 (by decide) ?_
                    refine lv_idiv hx hb dX5_write_125 (by decide) ?_
                    refine k_t1 (show (nI i) / (nI 4) = nI (i / 4) from pk_div (by omega) (by omega) (by omega)) ?_
                    refine lv_iadd hx hb dX5_write_126 ?_
                    refine k_t1 (show (nI (6 * f)) + (nI (i / 4)) = nI (6 * f + (i / 4)) from nI_add _ _) ?_
                    refine k_iald hx hb hK hP 13 0 rfl rfl (6 * f + (i / 4)) (by omega) (by omega) (v := nI d) (congrArg nI hdd.symm) dX5_write_127 ?_
                    refine lv_istore (lv' := [(6, .int (nI d)), (5, .int (nI 0)), (4, .int (nI 1)), (0, .ref mo), (1, .int (nI f)), (2, .int (nI i)), (3, .int v)]) hx hb dX5_write_128 hl (by decide) rfl (fun ls hl => ?_)
                    refine lv_aload_n hx hb dX5_write_130 rfl (lv_at hl 3 rfl) ?_
                    refine lv_iload hx hb dX5_write_131 (lv_at hl 0 rfl) ?_
                    refine lv_iload_n hx hb dX5_write_133 rfl (lv_at hl 5 rfl) ?_
                    refine lv_iconst (v := nI 4) hx hb dX5_write_134 (by decide) ?_
                    refine lv_irem hx hb dX5_write_135 (by decide) ?_
                    refine k_t1 (show (nI i) - (nI i) / (nI 4) * (nI 4) = nI (i % 4) from pk_rem (by omega) (by omega) (by omega)) ?_
                    refine lv_iconst (v := nI 1) hx hb dX5_write_136 (by decide) ?_
                    refine lv_iload hx hb dX5_write_137 (lv_at hl 1 rfl) ?_
                    refine lv_iload_n hx hb dX5_write_139 rfl (lv_at hl 6 rfl) ?_
                    refine k_vi (As := [.int (nI d), .int (nI (i % 4)), .int (nI 1), .int (nI 0), .int v]) (rest := []) (w2 := fun P1 : Nat → Int32 => (wM cI cZ cJ mo se co ou le wo ma pl tl tm th na si pa ta 0 (dstep G) ky 1 (cn + 1) got S0 C0 O0 L0 W0 S1 C1 O1 L1 W1 (upN MP (d / 8) (drw 2 G)) P1 (upd ML (cn % 64) (nI l0)) (upd DL (cn % 64) (-1)) TH NM SZ PT TK)) ⟨hx, hb, hml, hown, hts⟩ (c_m_acc_A l D cI cZ cJ mo se co ou le wo ma pl tl tm th na si pa ta 0 G ky DE cn got S0 C0 O0 L0 W0 S1 C1 O1 L1 W1 MP PL ML DL TH NM SZ PT TK d l0 (i % 4) 1 0 (v) hd hMl hl4 hc j0 hj hw hn) (cwV 5 hts gX5_write_X5_access rfl rfl rfl (by decide +kernel) ⟨Nat.le_of_ble_eq_true rfl, Nat.le_of_ble_eq_true rfl⟩) hP hD hK hS hA [0, 1, 2, 3, 4, 5, 6, 7, 8, 9, 10, 11, 12, 13, 14] [] [0, 1, 2, 3, 4, 5, 6, 7, 8, 9, 10, 11, 12, 13, 14] rfl rfl (by decide) (fun u => rfl) rfl rfl (q0 := 0) rfl rfl hl.1 rfl (Nat.le_of_ble_eq_true rfl) dX5_write_140 ⟨Nat.le_of_ble_eq_true rfl, Nat.le_of_ble_eq_true rfl⟩ (fun r P1 H locs hu2 hP hD hS => ?_)
                    refine k_t1 (show r = 0 from hu2) ?_
                    refine lv_if_ne (tgt := 152) hx hb dX5_write_143 (by decide) (fun cc => ?_) (fun cc => ?_)
                    · skip
                      exact absurd rfl cc
                    · skip
                      refine lv_aload_n hx hb dX5_write_146 rfl (lv_at hl 3 rfl) ?_
                      refine lv_iconst (v := nI 2) hx hb dX5_write_147 (by decide) ?_
                      refine va_put (D := D) (ci := 5) (v := .int (nI 2)) (ty := .int) (C := RX5) (T := TX5) (N := 20) hx hb hts (by decide +kernel) tyX5 tyX5_ok nmX5 hown hK hP hD hS 0 rfl rfl 0 (by decide) (hts (.fieldLink RX5 58 "VeiledFilesModel" "thrown" "I") (by decide +kernel)) (fun _ h9 => h9) rfl (by decide +kernel) rfl rfl (Nat.le_of_ble_eq_true rfl) dX5_write_148 (fun H locs hP hD hS => ?_)
                      have hP : va_P D vwCl (wM cI cZ cJ mo se co ou le wo ma pl tl tm th na si pa ta 2 (dstep G) ky 1 (cn + 1) got S0 C0 O0 L0 W0 S1 C1 O1 L1 W1 (upN MP (d / 8) (drw 2 G)) P1 (upd ML (cn % 64) (nI l0)) (upd DL (cn % 64) (-1)) TH NM SZ PT TK) _ := hP
                      have hD : va_D A (wM cI cZ cJ mo se co ou le wo ma pl tl tm th na si pa ta 2 (dstep G) ky 1 (cn + 1) got S0 C0 O0 L0 W0 S1 C1 O1 L1 W1 (upN MP (d / 8) (drw 2 G)) P1 (upd ML (cn % 64) (nI l0)) (upd DL (cn % 64) (-1)) TH NM SZ PT TK) := hD
                      exact k_retv P1 hx hb hr hK hS hlk dX5_write_151 hP hD (trivial) hQ
                  · skip
                    exact absurd rfl c9
                · skip
                  refine lv_iload_n hx hb dX5_write_78 rfl (lv_at hl 3 rfl) ?_
                  refine lv_iconst (v := nI 4) hx hb dX5_write_79 (by decide) ?_
                  refine lv_irem hx hb dX5_write_80 (by decide) ?_
                  refine k_t1 (show (nI i) - (nI i) / (nI 4) * (nI 4) = nI (i % 4) from pk_rem (by omega) (by omega) (by omega)) ?_
                  refine lv_if_ne (tgt := 88) hx hb dX5_write_81 (by decide) (fun cf => ?_) (fun cf => ?_)
                  · skip
                    refine lv_iconst (v := nI 0) hx hb dX5_write_88 (by decide) ?_
                    refine lv_istore (lv' := [(5, .int (nI 0)), (4, .int (nI 1)), (0, .ref mo), (1, .int (nI f)), (2, .int (nI i)), (3, .int v)]) hx hb dX5_write_89 hl (by decide) rfl (fun ls hl => ?_)
                    refine lv_iconst (v := nI 0) hx hb dX5_write_91 (by decide) ?_
                    refine lv_istore (lv' := [(6, .int (nI 0)), (5, .int (nI 0)), (4, .int (nI 1)), (0, .ref mo), (1, .int (nI f)), (2, .int (nI i)), (3, .int v)]) hx hb dX5_write_92 hl (by decide) rfl (fun ls hl => ?_)
                    refine lv_iload hx hb dX5_write_94 (lv_at hl 1 rfl) ?_
                    refine lv_if_eq (tgt := 115) hx hb dX5_write_96 (by decide) (fun c9 => ?_) (fun c9 => ?_)
                    · skip
                      refine lv_aload_n hx hb dX5_write_115 rfl (lv_at hl 3 rfl) ?_
                      refine va_get (D := D) (ci := 5) (v := .ref pa) (C := RX5) (T := TX5) (N := 20) hx hb hts (by decide +kernel) hown hK hP 0 rfl rfl 17 (by decide) (hts (.fieldLink RX5 48 "VeiledFilesModel" "part" "[I") (by decide +kernel)) (fun _ h9 => h9) rfl dX5_write_116 ?_
                      refine lv_bipush (v := nI 6) hx hb dX5_write_119 (by decide) ?_
                      refine lv_iload_n hx hb dX5_write_121 rfl (lv_at hl 4 rfl) ?_
                      refine lv_imul hx hb dX5_write_122 ?_
                      refine k_t1 (show (nI 6) * (nI f) = nI (6 * f) from pk_mul _ _) ?_
                      refine lv_iload_n hx hb dX5_write_123 rfl (lv_at hl 5 rfl) ?_
                      refine lv_iconst (v := nI 4) hx hb dX5_write_124 (by decide) ?_
                      refine lv_idiv hx hb dX5_write_125 (by decide) ?_
                      refine k_t1 (show (nI i) / (nI 4) = nI (i / 4) from pk_div (by omega) (by omega) (by omega)) ?_
                      refine lv_iadd hx hb dX5_write_126 ?_
                      refine k_t1 (show (nI (6 * f)) + (nI (i / 4)) = nI (6 * f + (i / 4)) from nI_add _ _) ?_
                      refine k_iald hx hb hK hP 13 0 rfl rfl (6 * f + (i / 4)) (by omega) (by omega) (v := nI d) (congrArg nI hdd.symm) dX5_write_127 ?_
                      refine lv_istore (lv' := [(6, .int (nI d)), (5, .int (nI 0)), (4, .int (nI 1)), (0, .ref mo), (1, .int (nI f)), (2, .int (nI i)), (3, .int v)]) hx hb dX5_write_128 hl (by decide) rfl (fun ls hl => ?_)
                      refine lv_aload_n hx hb dX5_write_130 rfl (lv_at hl 3 rfl) ?_
                      refine lv_iload hx hb dX5_write_131 (lv_at hl 0 rfl) ?_
                      refine lv_iload_n hx hb dX5_write_133 rfl (lv_at hl 5 rfl) ?_
                      refine lv_iconst (v := nI 4) hx hb dX5_write_134 (by decide) ?_
                      refine lv_irem hx hb dX5_write_135 (by decide) ?_
                      refine k_t1 (show (nI i) - (nI i) / (nI 4) * (nI 4) = nI (i % 4) from pk_rem (by omega) (by omega) (by omega)) ?_
                      refine lv_iconst (v := nI 1) hx hb dX5_write_136 (by decide) ?_
                      refine lv_iload hx hb dX5_write_137 (lv_at hl 1 rfl) ?_
                      refine lv_iload_n hx hb dX5_write_139 rfl (lv_at hl 6 rfl) ?_
                      refine k_vi (As := [.int (nI d), .int (nI (i % 4)), .int (nI 1), .int (nI 0), .int v]) (rest := []) (w2 := fun P1 : Nat → Int32 => (wM cI cZ cJ mo se co ou le wo ma pl tl tm th na si pa ta 0 (dstep G) ky 1 (cn + 1) got S0 C0 O0 L0 W0 S1 C1 O1 L1 W1 (upN MP (d / 8) (drw 2 G)) P1 (upd ML (cn % 64) (nI l0)) (upd DL (cn % 64) (-1)) TH NM SZ PT TK)) ⟨hx, hb, hml, hown, hts⟩ (c_m_acc_A l D cI cZ cJ mo se co ou le wo ma pl tl tm th na si pa ta 0 G ky DE cn got S0 C0 O0 L0 W0 S1 C1 O1 L1 W1 MP PL ML DL TH NM SZ PT TK d l0 (i % 4) 1 0 (v) hd hMl hl4 hc j0 hj hw hn) (cwV 5 hts gX5_write_X5_access rfl rfl rfl (by decide +kernel) ⟨Nat.le_of_ble_eq_true rfl, Nat.le_of_ble_eq_true rfl⟩) hP hD hK hS hA [0, 1, 2, 3, 4, 5, 6, 7, 8, 9, 10, 11, 12, 13, 14] [] [0, 1, 2, 3, 4, 5, 6, 7, 8, 9, 10, 11, 12, 13, 14] rfl rfl (by decide) (fun u => rfl) rfl rfl (q0 := 0) rfl rfl hl.1 rfl (Nat.le_of_ble_eq_true rfl) dX5_write_140 ⟨Nat.le_of_ble_eq_true rfl, Nat.le_of_ble_eq_true rfl⟩ (fun r P1 H locs hu3 hP hD hS => ?_)
                      refine k_t1 (show r = 0 from hu3) ?_
                      refine lv_if_ne (tgt := 152) hx hb dX5_write_143 (by decide) (fun cc => ?_) (fun cc => ?_)
                      · skip
                        exact absurd rfl cc
                      · skip
                        refine lv_aload_n hx hb dX5_write_146 rfl (lv_at hl 3 rfl) ?_
                        refine lv_iconst (v := nI 2) hx hb dX5_write_147 (by decide) ?_
                        refine va_put (D := D) (ci := 5) (v := .int (nI 2)) (ty := .int) (C := RX5) (T := TX5) (N := 20) hx hb hts (by decide +kernel) tyX5 tyX5_ok nmX5 hown hK hP hD hS 0 rfl rfl 0 (by decide) (hts (.fieldLink RX5 58 "VeiledFilesModel" "thrown" "I") (by decide +kernel)) (fun _ h9 => h9) rfl (by decide +kernel) rfl rfl (Nat.le_of_ble_eq_true rfl) dX5_write_148 (fun H locs hP hD hS => ?_)
                        have hP : va_P D vwCl (wM cI cZ cJ mo se co ou le wo ma pl tl tm th na si pa ta 2 (dstep G) ky 1 (cn + 1) got S0 C0 O0 L0 W0 S1 C1 O1 L1 W1 (upN MP (d / 8) (drw 2 G)) P1 (upd ML (cn % 64) (nI l0)) (upd DL (cn % 64) (-1)) TH NM SZ PT TK) _ := hP
                        have hD : va_D A (wM cI cZ cJ mo se co ou le wo ma pl tl tm th na si pa ta 2 (dstep G) ky 1 (cn + 1) got S0 C0 O0 L0 W0 S1 C1 O1 L1 W1 (upN MP (d / 8) (drw 2 G)) P1 (upd ML (cn % 64) (nI l0)) (upd DL (cn % 64) (-1)) TH NM SZ PT TK) := hD
                        exact k_retv P1 hx hb hr hK hS hlk dX5_write_151 hP hD (trivial) hQ
                    · skip
                      exact absurd rfl c9
                  · skip
                    exact absurd cf (nI_ne0 (by omega) (by omega))
              · skip
                exact absurd rfl c7
            · skip
              exact absurd hDE c6
          · skip
            exact absurd c5 (by decide)

set_option maxHeartbeats 800000 in
set_option maxRecDepth 100000 in
theorem c_m_write_Bo (l : Launch) (D : va_G) (cI cZ cJ : ClassId) (mo : Nat) (se : Nat) (co : Nat) (ou : Nat) (le : Nat) (wo : Nat) (ma : Nat) (pl : Nat) (tl : Nat) (tm : Nat) (th : Nat) (na : Nat) (si : Nat) (pa : Nat) (ta : Nat) (thr : Int32) (G : Int32) (ky : Int32) (DE : Int32) (cn : Nat) (got : Int32) (S0 : Nat → Nat → Int32) (C0 : Nat → Int32) (O0 : Nat → Int32) (L0 : Nat → Int32) (W0 : Nat → Nat → Int32) (S1 : Nat → Nat → Int32) (C1 : Nat → Int32) (O1 : Nat → Int32) (L1 : Nat → Int32) (W1 : Nat → Nat → Int32) (MP : Nat → Nat) (PL : Nat → Int32) (ML : Nat → Int32) (DL : Nat → Int32) (TH : Nat → Int32) (NM : Nat → Int64) (SZ : Nat → Nat) (PT : Nat → Nat) (TK : Nat → Int32) (f i d l0 : Nat) (v : Int32) (hDE : DE = 0) (hf : f < 8) (ht : ¬ TH f = 0) (hi : i ≤ SZ f) (hi2 : i < 24) (hs : SZ f ≤ 24) (hsz : i = SZ f) (hm : i % 4 = 0) (hdd : d = frQ TK 64) (hd : d < 64) (hMl : MP (d / 8) = l0) (hl4 : l0 < 4) (hc : cn < 100000) (O0a L0a : Nat → Int32) (W0a : Nat → Nat → Int32) (hO0a : O0a = tkO 8 (rowsP ky 0 C0 S0 4 l0) O0 3) (hL0a : L0a = tkL 8 (rowsP ky 0 C0 S0 4 l0) L0 3) (hW0a : W0a = tkW 8 (rowsP ky 0 C0 S0 4 l0) W0 3) (hw0 : ∀ up, up < 3 → wholeB ky 0 C0 S0 (pathB 4 l0 up)) (hv0 : ∀ n, n < 8 → O0a n ≠ 0 → ∃ l0, l0 < 4 ∧ (upd L0a (d / 8) (nI (drw 2 G))) n = nI l0) (M : Nat) (hM : M = entM (W0a (d / 8) (d % 8 / 2)) (d % 8 % 2)) (j0 : Nat) (hj : j0 < 6) (hw : ∀ up, up < j0 → wholeB ky 1 C1 S1 (pathB 32 M up)) (hn : ¬ wholeB ky 1 C1 S1 (pathB 32 M j0)) : KV l yX5_write wsX5_write ({ frames := 6, cells := 0, slots := 0, locals := 153 }) D (kty cI cZ cJ) [.ref mo, .int (nI f), .int (nI i), .int v] (wM cI cZ cJ mo se co ou le wo ma pl tl tm th na si pa ta thr G ky DE cn got S0 C0 O0 L0 W0 S1 C1 O1 L1 W1 MP PL ML DL TH NM SZ PT TK) (fun (_ : Nat → Int32) => True) (fun u : Nat → Int32 => (wM cI cZ cJ mo se co ou le wo ma pl tl tm th na si pa ta 2 (dstep (dstep G)) ky 1 (cn + 1) got ((pbN ky 0 4 8 l0 (upd L0a (d / 8) (nI (drw 2 G))) (setRow W0a (d / 8) (upd (W0a (d / 8)) (d % 8 / 2) (setE (W0a (d / 8) (d % 8 / 2)) (d % 8 % 2) (nI (drw 5 (dstep G)))))) S0 C0 O0a 3).1) ((pbN ky 0 4 8 l0 (upd L0a (d / 8) (nI (drw 2 G))) (setRow W0a (d / 8) (upd (W0a (d / 8)) (d % 8 / 2) (setE (W0a (d / 8) (d % 8 / 2)) (d % 8 % 2) (nI (drw 5 (dstep G)))))) S0 C0 O0a 3).2.1) ((pbN ky 0 4 8 l0 (upd L0a (d / 8) (nI (drw 2 G))) (setRow W0a (d / 8) (upd (W0a (d / 8)) (d % 8 / 2) (setE (W0a (d / 8) (d % 8 / 2)) (d % 8 % 2) (nI (drw 5 (dstep G)))))) S0 C0 O0a 3).2.2) (upd L0a (d / 8) (nI (drw 2 G))) (setRow W0a (d / 8) (upd (W0a (d / 8)) (d % 8 / 2) (setE (W0a (d / 8) (d % 8 / 2)) (d % 8 % 2) (nI (drw 5 (dstep G)))))) S1 C1 O1 L1 W1 (upN MP (d / 8) (drw 2 G)) u (upd ML (cn % 64) (nI l0)) (upd DL (cn % 64) (nI M)) TH NM SZ PT TK)) 0 0 := by
  refine k_headV (cc := cX5_write) (maxL := 7) (ret := none) (by decide) rfl (Nat.le_of_ble_eq_true rfl) ?_
  intro p e s m below meth c A ls args Q hx hb hr hml hts hown hlk hnm hA hK hP hD hS hl hQ
  have hl : lv_has ls 7 [(0, .ref mo), (1, .int (nI f)), (2, .int (nI i)), (3, .int v)] := hl
  refine lv_aload_n hx hb dX5_write_0 rfl (lv_at hl 0 rfl) ?_
  refine lv_iload_n hx hb dX5_write_1 rfl (lv_at hl 1 rfl) ?_
  refine k_vi (As := [.int (nI f)]) (rest := []) (w2 := fun u : Unit => (wM cI cZ cJ mo se co ou le wo ma pl tl tm th na si pa ta thr G ky DE cn got S0 C0 O0 L0 W0 S1 C1 O1 L1 W1 MP PL ML DL TH NM SZ PT TK)) ⟨hx, hb, hml, hown, hts⟩ (c_m_isFile_y l D cI cZ cJ mo se co ou le wo ma pl tl tm th na si pa ta thr G ky DE cn got S0 C0 O0 L0 W0 S1 C1 O1 L1 W1 MP PL ML DL TH NM SZ PT TK f hf ht) (cwV 1 hts gX5_write_X5_isFile rfl rfl rfl (by decide +kernel) ⟨Nat.le_of_ble_eq_true rfl, Nat.le_of_ble_eq_true rfl⟩) hP hD hK hS hA [0, 1, 2, 3, 4, 5, 6, 7, 8, 9, 10, 11, 12, 13, 14] [] [0, 1, 2, 3, 4, 5, 6, 7, 8, 9, 10, 11, 12, 13, 14] rfl rfl (by decide) (fun u => rfl) rfl rfl (q0 := 0) rfl rfl hl.1 rfl (Nat.le_of_ble_eq_true rfl) dX5_write_2 ⟨Nat.le_of_ble_eq_true rfl, Nat.le_of_ble_eq_true rfl⟩ (fun r u H locs hu1 hP hD hS => ?_)
  refine k_t1 (show r = 1 from hu1) ?_
  refine lv_if_eq (tgt := 32) hx hb dX5_write_5 (by decide) (fun c1 => ?_) (fun c1 => ?_)
  · skip
    exact absurd c1 (by decide)
  · skip
    refine lv_iload_n hx hb dX5_write_8 rfl (lv_at hl 2 rfl) ?_
    refine lv_if_lt (tgt := 32) hx hb dX5_write_9 (by decide) (fun c2 => ?_) (fun c2 => ?_)
    · skip
      exact absurd c2 (nI_pos (by omega))
    · skip
      refine lv_iload_n hx hb dX5_write_12 rfl (lv_at hl 2 rfl) ?_
      refine lv_aload_n hx hb dX5_write_13 rfl (lv_at hl 0 rfl) ?_
      refine va_get (D := D) (ci := 5) (v := .ref si) (C := RX5) (T := TX5) (N := 20) hx hb hts (by decide +kernel) hown hK hP 0 rfl rfl 16 (by decide) (hts (.fieldLink RX5 45 "VeiledFilesModel" "size" "[I") (by decide +kernel)) (fun _ h9 => h9) rfl dX5_write_14 ?_
      refine lv_iload_n hx hb dX5_write_17 rfl (lv_at hl 1 rfl) ?_
      refine k_iald hx hb hK hP 12 0 rfl rfl f (by omega) (by omega) (v := nI (SZ f)) (rfl) dX5_write_18 ?_
      refine k_icmp_gt (tgt := 32) hx hb (by omega) (by omega) dX5_write_19 (by decide) (fun c3 => ?_) (fun c3 => ?_)
      · skip
        omega
      · skip
        refine lv_iload_n hx hb dX5_write_22 rfl (lv_at hl 2 rfl) ?_
        refine lv_bipush (v := nI 24) hx hb dX5_write_23 (by decide) ?_
        refine k_icmp_ge (tgt := 32) hx hb (by omega) (by omega) dX5_write_25 (by decide) (fun c4 => ?_) (fun c4 => ?_)
        · skip
          omega
        · skip
          refine lv_iconst (v := nI 1) hx hb dX5_write_28 (by decide) ?_
          refine lv_goto (tgt := 33) hx hb dX5_write_29 (by decide) ?_
          refine lv_istore (lv' := [(4, .int (nI 1)), (0, .ref mo), (1, .int (nI f)), (2, .int (nI i)), (3, .int v)]) hx hb dX5_write_33 hl (by decide) rfl (fun ls hl => ?_)
          refine lv_aload_n hx hb dX5_write_35 rfl (lv_at hl 1 rfl) ?_
          refine lv_iload hx hb dX5_write_36 (lv_at hl 0 rfl) ?_
          refine lv_if_ne (tgt := 45) hx hb dX5_write_38 (by decide) (fun c5 => ?_) (fun c5 => ?_)
          · skip
            refine lv_aload_n hx hb dX5_write_45 rfl (lv_at hl 1 rfl) ?_
            refine va_get (D := D) (ci := 5) (v := .int DE) (C := RX5) (T := TX5) (N := 20) hx hb hts (by decide +kernel) hown hK hP 0 rfl rfl 3 (by decide) (hts (.fieldLink RX5 131 "VeiledFilesModel" "dead" "Z") (by decide +kernel)) (fun _ h9 => h9) rfl dX5_write_46 ?_
            refine lv_if_eq (tgt := 56) hx hb dX5_write_49 (by decide) (fun c6 => ?_) (fun c6 => ?_)
            · skip
              refine lv_iconst (v := nI 0) hx hb dX5_write_56 (by decide) ?_
              refine va_put (D := D) (ci := 5) (v := .int (nI 0)) (ty := .int) (C := RX5) (T := TX5) (N := 20) hx hb hts (by decide +kernel) tyX5 tyX5_ok nmX5 hown hK hP hD hS 0 rfl rfl 0 (by decide) (hts (.fieldLink RX5 58 "VeiledFilesModel" "thrown" "I") (by decide +kernel)) (fun _ h9 => h9) rfl (by decide +kernel) rfl rfl (Nat.le_of_ble_eq_true rfl) dX5_write_57 (fun H locs hP hD hS => ?_)
              have hP : va_P D vwCl (wM cI cZ cJ mo se co ou le wo ma pl tl tm th na si pa ta 0 G ky DE cn got S0 C0 O0 L0 W0 S1 C1 O1 L1 W1 MP PL ML DL TH NM SZ PT TK) _ := hP
              have hD : va_D A (wM cI cZ cJ mo se co ou le wo ma pl tl tm th na si pa ta 0 G ky DE cn got S0 C0 O0 L0 W0 S1 C1 O1 L1 W1 MP PL ML DL TH NM SZ PT TK) := hD
              refine lv_aload_n hx hb dX5_write_60 rfl (lv_at hl 1 rfl) ?_
              refine va_get (D := D) (ci := 5) (v := .int 0) (C := RX5) (T := TX5) (N := 20) hx hb hts (by decide +kernel) hown hK hP 0 rfl rfl 0 (by decide) (hts (.fieldLink RX5 58 "VeiledFilesModel" "thrown" "I") (by decide +kernel)) (fun _ h9 => h9) rfl dX5_write_61 ?_
              refine lv_if_eq (tgt := 68) hx hb dX5_write_64 (by decide) (fun c7 => ?_) (fun c7 => ?_)
              · skip
                refine lv_iload_n hx hb dX5_write_68 rfl (lv_at hl 3 rfl) ?_
                refine lv_aload_n hx hb dX5_write_69 rfl (lv_at hl 1 rfl) ?_
                refine va_get (D := D) (ci := 5) (v := .ref si) (C := RX5) (T := TX5) (N := 20) hx hb hts (by decide +kernel) hown hK hP 0 rfl rfl 16 (by decide) (hts (.fieldLink RX5 45 "VeiledFilesModel" "size" "[I") (by decide +kernel)) (fun _ h9 => h9) rfl dX5_write_70 ?_
                refine lv_iload_n hx hb dX5_write_73 rfl (lv_at hl 2 rfl) ?_
                refine k_iald hx hb hK hP 12 0 rfl rfl f (by omega) (by omega) (v := nI (SZ f)) (rfl) dX5_write_74 ?_
                refine k_icmp_ne (tgt := 88) hx hb (by omega) (by omega) dX5_write_75 (by decide) (fun c8 => ?_) (fun c8 => ?_)
                · skip
                  omega
                · skip
                  refine lv_iload_n hx hb dX5_write_78 rfl (lv_at hl 3 rfl) ?_
                  refine lv_iconst (v := nI 4) hx hb dX5_write_79 (by decide) ?_
                  refine lv_irem hx hb dX5_write_80 (by decide) ?_
                  refine k_t1 (show (nI i) - (nI i) / (nI 4) * (nI 4) = nI (i % 4) from pk_rem (by omega) (by omega) (by omega)) ?_
                  refine lv_if_ne (tgt := 88) hx hb dX5_write_81 (by decide) (fun cf => ?_) (fun cf => ?_)
                  · skip
                    exact absurd (show nI (i % 4) = 0 by rw [hm]; rfl) cf
                  · skip
                    refine lv_iconst (v := nI 1) hx hb dX5_write_84 (by decide) ?_
                    refine lv_goto (tgt := 89) hx hb dX5_write_85 (by decide) ?_
                    refine lv_istore (lv' := [(5, .int (nI 1)), (4, .int (nI 1)), (0, .ref mo), (1, .int (nI f)), (2, .int (nI i)), (3, .int v)]) hx hb dX5_write_89 hl (by decide) rfl (fun ls hl => ?_)
                    refine lv_iconst (v := nI 0) hx hb dX5_write_91 (by decide) ?_
                    refine lv_istore (lv' := [(6, .int (nI 0)), (5, .int (nI 1)), (4, .int (nI 1)), (0, .ref mo), (1, .int (nI f)), (2, .int (nI i)), (3, .int v)]) hx hb dX5_write_92 hl (by decide) rfl (fun ls hl => ?_)
                    refine lv_iload hx hb dX5_write_94 (lv_at hl 1 rfl) ?_
                    refine lv_if_eq (tgt := 115) hx hb dX5_write_96 (by decide) (fun c9 => ?_) (fun c9 => ?_)
                    · skip
                      exact absurd c9 (by decide)
                    · skip
                      have hfq := (ff_spec (fun d => decide (TK d = 0)) 64)
                      have hfd : frQ TK 64 = d := hdd.symm
                      have hlt : ∀ j, j < d → ¬ TK j = 0 := fun j hj => by have h9 := hfq.2.1 j (by rw [show ff (fun d => decide (TK d = 0)) 64 = d from hfd]; exact hj); simpa using h9
                      have hz : TK d = 0 := by have h9 := hfq.2.2 (by rw [show ff (fun d => decide (TK d = 0)) 64 = d from hfd]; exact hd); rw [show ff (fun d => decide (TK d = 0)) 64 = d from hfd] at h9; simpa using h9
                      have Lw : ∀ (nf q : Nat) (hvLw : q ≤ d) (hFLw : d - q < nf) (H : Heap) (locs : List Loc) (ls : Array Slot), va_P D vwCl (wM cI cZ cJ mo se co ou le wo ma pl tl tm th na si pa ta 0 G ky DE cn got S0 C0 O0 L0 W0 S1 C1 O1 L1 W1 MP PL ML DL TH NM SZ PT TK) H → va_D A (wM cI cZ cJ mo se co ou le wo ma pl tl tm th na si pa ta 0 G ky DE cn got S0 C0 O0 L0 W0 S1 C1 O1 L1 W1 MP PL ML DL TH NM SZ PT TK) → va_S A s.heap H locs → lv_has ls 7 [(0, .ref mo), (1, .int (nI f)), (2, .int (nI i)), (3, .int v), (5, .int (nI 1)), (6, .int (nI q))] → W p l e ({ frames := 6, cells := 0, slots := 0, locals := 153 } : Room) s m args below meth c H locs 0 0 Q (F0 m 99 ls []) := by
                        intro nf
                        induction nf with
                        | zero => intro q  hvLw hFLw; omega
                        | succ nf ihLw =>
                          intro q  hvLw hFLw  H locs ls hP hD hS hl
                          refine lv_aload_n hx hb dX5_write_99 rfl (lv_at hl 0 rfl) ?_
                          refine va_get (D := D) (ci := 5) (v := .ref ta) (C := RX5) (T := TX5) (N := 20) hx hb hts (by decide +kernel) hown hK hP 0 rfl rfl 18 (by decide) (hts (.fieldLink RX5 51 "VeiledFilesModel" "taken" "[Z") (by decide +kernel)) (fun _ h9 => h9) rfl dX5_write_100 ?_
                          refine lv_iload hx hb dX5_write_103 (lv_at hl 5 rfl) ?_
                          refine k_zald hx hb hK hP 14 1 rfl rfl q (by omega) (by omega) (v := TK q) (rfl) dX5_write_105 ?_
                          refine lv_if_eq (tgt := 130) hx hb dX5_write_106 (by decide) (fun ca => ?_) (fun ca => ?_)
                          · skip
                            have hqd : q = d := Classical.byContradiction fun z => hlt q (by omega) ca
                            subst hqd
                            refine lv_aload_n hx hb dX5_write_130 rfl (lv_at hl 0 rfl) ?_
                            refine lv_iload hx hb dX5_write_131 (lv_at hl 5 rfl) ?_
                            refine lv_iload_n hx hb dX5_write_133 rfl (lv_at hl 2 rfl) ?_
                            refine lv_iconst (v := nI 4) hx hb dX5_write_134 (by decide) ?_
                            refine lv_irem hx hb dX5_write_135 (by decide) ?_
                            refine k_t1 (show (nI i) - (nI i) / (nI 4) * (nI 4) = nI (i % 4) from pk_rem (by omega) (by omega) (by omega)) ?_
                            refine lv_iconst (v := nI 1) hx hb dX5_write_136 (by decide) ?_
                            refine lv_iload hx hb dX5_write_137 (lv_at hl 4 rfl) ?_
                            refine lv_iload_n hx hb dX5_write_139 rfl (lv_at hl 3 rfl) ?_
                            refine k_vi (As := [.int (nI q), .int (nI (i % 4)), .int (nI 1), .int (nI 1), .int v]) (rest := []) (w2 := fun P1 : Nat → Int32 => (wM cI cZ cJ mo se co ou le wo ma pl tl tm th na si pa ta 0 (dstep (dstep G)) ky 1 (cn + 1) got ((pbN ky 0 4 8 l0 (upd L0a (q / 8) (nI (drw 2 G))) (setRow W0a (q / 8) (upd (W0a (q / 8)) (q % 8 / 2) (setE (W0a (q / 8) (q % 8 / 2)) (q % 8 % 2) (nI (drw 5 (dstep G)))))) S0 C0 O0a 3).1) ((pbN ky 0 4 8 l0 (upd L0a (q / 8) (nI (drw 2 G))) (setRow W0a (q / 8) (upd (W0a (q / 8)) (q % 8 / 2) (setE (W0a (q / 8) (q % 8 / 2)) (q % 8 % 2) (nI (drw 5 (dstep G)))))) S0 C0 O0a 3).2.1) ((pbN ky 0 4 8 l0 (upd L0a (q / 8) (nI (drw 2 G))) (setRow W0a (q / 8) (upd (W0a (q / 8)) (q % 8 / 2) (setE (W0a (q / 8) (q % 8 / 2)) (q % 8 % 2) (nI (drw 5 (dstep G)))))) S0 C0 O0a 3).2.2) (upd L0a (q / 8) (nI (drw 2 G))) (setRow W0a (q / 8) (upd (W0a (q / 8)) (q % 8 / 2) (setE (W0a (q / 8) (q % 8 / 2)) (q % 8 % 2) (nI (drw 5 (dstep G)))))) S1 C1 O1 L1 W1 (upN MP (q / 8) (drw 2 G)) P1 (upd ML (cn % 64) (nI l0)) (upd DL (cn % 64) (nI M)) TH NM SZ PT TK)) ⟨hx, hb, hml, hown, hts⟩ (c_m_acc_B l D cI cZ cJ mo se co ou le wo ma pl tl tm th na si pa ta 0 G ky DE cn got S0 C0 O0 L0 W0 S1 C1 O1 L1 W1 MP PL ML DL TH NM SZ PT TK q l0 (i % 4) 1 1 v hd hMl hl4 hc O0a L0a W0a hO0a hL0a hW0a hw0 hv0 M hM j0 hj hw hn) (cwV 5 hts gX5_write_X5_access rfl rfl rfl (by decide +kernel) ⟨Nat.le_of_ble_eq_true rfl, Nat.le_of_ble_eq_true rfl⟩) hP hD hK hS hA [0, 1, 2, 3, 4, 5, 6, 7, 8, 9, 10, 11, 12, 13, 14] [] [0, 1, 2, 3, 4, 5, 6, 7, 8, 9, 10, 11, 12, 13, 14] rfl rfl (by decide) (fun u => rfl) rfl rfl (q0 := 0) rfl rfl hl.1 rfl (Nat.le_of_ble_eq_true rfl) dX5_write_140 ⟨Nat.le_of_ble_eq_true rfl, Nat.le_of_ble_eq_true rfl⟩ (fun r P1 H locs hu2 hP hD hS => ?_)
                            refine k_t1 (show r = 0 from hu2) ?_
                            refine lv_if_ne (tgt := 152) hx hb dX5_write_143 (by decide) (fun cc => ?_) (fun cc => ?_)
                            · skip
                              exact absurd rfl cc
                            · skip
                              refine lv_aload_n hx hb dX5_write_146 rfl (lv_at hl 0 rfl) ?_
                              refine lv_iconst (v := nI 2) hx hb dX5_write_147 (by decide) ?_
                              refine va_put (D := D) (ci := 5) (v := .int (nI 2)) (ty := .int) (C := RX5) (T := TX5) (N := 20) hx hb hts (by decide +kernel) tyX5 tyX5_ok nmX5 hown hK hP hD hS 0 rfl rfl 0 (by decide) (hts (.fieldLink RX5 58 "VeiledFilesModel" "thrown" "I") (by decide +kernel)) (fun _ h9 => h9) rfl (by decide +kernel) rfl rfl (Nat.le_of_ble_eq_true rfl) dX5_write_148 (fun H locs hP hD hS => ?_)
                              have hP : va_P D vwCl (wM cI cZ cJ mo se co ou le wo ma pl tl tm th na si pa ta 2 (dstep (dstep G)) ky 1 (cn + 1) got ((pbN ky 0 4 8 l0 (upd L0a (q / 8) (nI (drw 2 G))) (setRow W0a (q / 8) (upd (W0a (q / 8)) (q % 8 / 2) (setE (W0a (q / 8) (q % 8 / 2)) (q % 8 % 2) (nI (drw 5 (dstep G)))))) S0 C0 O0a 3).1) ((pbN ky 0 4 8 l0 (upd L0a (q / 8) (nI (drw 2 G))) (setRow W0a (q / 8) (upd (W0a (q / 8)) (q % 8 / 2) (setE (W0a (q / 8) (q % 8 / 2)) (q % 8 % 2) (nI (drw 5 (dstep G)))))) S0 C0 O0a 3).2.1) ((pbN ky 0 4 8 l0 (upd L0a (q / 8) (nI (drw 2 G))) (setRow W0a (q / 8) (upd (W0a (q / 8)) (q % 8 / 2) (setE (W0a (q / 8) (q % 8 / 2)) (q % 8 % 2) (nI (drw 5 (dstep G)))))) S0 C0 O0a 3).2.2) (upd L0a (q / 8) (nI (drw 2 G))) (setRow W0a (q / 8) (upd (W0a (q / 8)) (q % 8 / 2) (setE (W0a (q / 8) (q % 8 / 2)) (q % 8 % 2) (nI (drw 5 (dstep G)))))) S1 C1 O1 L1 W1 (upN MP (q / 8) (drw 2 G)) P1 (upd ML (cn % 64) (nI l0)) (upd DL (cn % 64) (nI M)) TH NM SZ PT TK) _ := hP
                              have hD : va_D A (wM cI cZ cJ mo se co ou le wo ma pl tl tm th na si pa ta 2 (dstep (dstep G)) ky 1 (cn + 1) got ((pbN ky 0 4 8 l0 (upd L0a (q / 8) (nI (drw 2 G))) (setRow W0a (q / 8) (upd (W0a (q / 8)) (q % 8 / 2) (setE (W0a (q / 8) (q % 8 / 2)) (q % 8 % 2) (nI (drw 5 (dstep G)))))) S0 C0 O0a 3).1) ((pbN ky 0 4 8 l0 (upd L0a (q / 8) (nI (drw 2 G))) (setRow W0a (q / 8) (upd (W0a (q / 8)) (q % 8 / 2) (setE (W0a (q / 8) (q % 8 / 2)) (q % 8 % 2) (nI (drw 5 (dstep G)))))) S0 C0 O0a 3).2.1) ((pbN ky 0 4 8 l0 (upd L0a (q / 8) (nI (drw 2 G))) (setRow W0a (q / 8) (upd (W0a (q / 8)) (q % 8 / 2) (setE (W0a (q / 8) (q % 8 / 2)) (q % 8 % 2) (nI (drw 5 (dstep G)))))) S0 C0 O0a 3).2.2) (upd L0a (q / 8) (nI (drw 2 G))) (setRow W0a (q / 8) (upd (W0a (q / 8)) (q % 8 / 2) (setE (W0a (q / 8) (q % 8 / 2)) (q % 8 % 2) (nI (drw 5 (dstep G)))))) S1 C1 O1 L1 W1 (upN MP (q / 8) (drw 2 G)) P1 (upd ML (cn % 64) (nI l0)) (upd DL (cn % 64) (nI M)) TH NM SZ PT TK) := hD
                              exact k_retv P1 hx hb hr hK hS hlk dX5_write_151 hP hD (trivial) hQ
                          · skip
                            have hqd : q ≠ d := fun z => ca (by rw [z]; exact hz)
                            refine lv_iinc (v := nI (q + 1)) (lv' := [(6, .int (nI (q + 1))), (0, .ref mo), (1, .int (nI f)), (2, .int (nI i)), (3, .int v), (5, .int (nI 1))]) hx hb dX5_write_109 hl (k := 5) rfl (nI_add q 1) (by decide) rfl (fun ls hl => ?_)
                            refine lv_goto (tgt := 99) hx hb dX5_write_112 (by decide) ?_
                            exact ihLw (q + 1)  (by omega) (by omega)  _ _ _ hP hD hS (lv_sub hl [1, 2, 3, 4, 5, 0] rfl)
                      exact Lw (d + 1) 0  (by omega) (by omega)  _ _ _ hP hD hS (lv_sub hl [3, 4, 5, 6, 1, 0] rfl)
              · skip
                exact absurd rfl c7
            · skip
              exact absurd hDE c6
          · skip
            exact absurd c5 (by decide)

set_option maxHeartbeats 800000 in
set_option maxRecDepth 100000 in
theorem c_m_write_Bn (l : Launch) (D : va_G) (cI cZ cJ : ClassId) (mo : Nat) (se : Nat) (co : Nat) (ou : Nat) (le : Nat) (wo : Nat) (ma : Nat) (pl : Nat) (tl : Nat) (tm : Nat) (th : Nat) (na : Nat) (si : Nat) (pa : Nat) (ta : Nat) (thr : Int32) (G : Int32) (ky : Int32) (DE : Int32) (cn : Nat) (got : Int32) (S0 : Nat → Nat → Int32) (C0 : Nat → Int32) (O0 : Nat → Int32) (L0 : Nat → Int32) (W0 : Nat → Nat → Int32) (S1 : Nat → Nat → Int32) (C1 : Nat → Int32) (O1 : Nat → Int32) (L1 : Nat → Int32) (W1 : Nat → Nat → Int32) (MP : Nat → Nat) (PL : Nat → Int32) (ML : Nat → Int32) (DL : Nat → Int32) (TH : Nat → Int32) (NM : Nat → Int64) (SZ : Nat → Nat) (PT : Nat → Nat) (TK : Nat → Int32) (f i d l0 : Nat) (v : Int32) (hDE : DE = 0) (hf : f < 8) (ht : ¬ TH f = 0) (hi : i ≤ SZ f) (hi2 : i < 24) (hs : SZ f ≤ 24) (hsz : ¬ (i = SZ f ∧ i % 4 = 0)) (hdd : d = PT (6 * f + i / 4)) (hd : d < 64) (hMl : MP (d / 8) = l0) (hl4 : l0 < 4) (hc : cn < 100000) (O0a L0a : Nat → Int32) (W0a : Nat → Nat → Int32) (hO0a : O0a = tkO 8 (rowsP ky 0 C0 S0 4 l0) O0 3) (hL0a : L0a = tkL 8 (rowsP ky 0 C0 S0 4 l0) L0 3) (hW0a : W0a = tkW 8 (rowsP ky 0 C0 S0 4 l0) W0 3) (hw0 : ∀ up, up < 3 → wholeB ky 0 C0 S0 (pathB 4 l0 up)) (hv0 : ∀ n, n < 8 → O0a n ≠ 0 → ∃ l0, l0 < 4 ∧ (upd L0a (d / 8) (nI (drw 2 G))) n = nI l0) (M : Nat) (hM : M = entM (W0a (d / 8) (d % 8 / 2)) (d % 8 % 2)) (j0 : Nat) (hj : j0 < 6) (hw : ∀ up, up < j0 → wholeB ky 1 C1 S1 (pathB 32 M up)) (hn : ¬ wholeB ky 1 C1 S1 (pathB 32 M j0)) : KV l yX5_write wsX5_write ({ frames := 6, cells := 0, slots := 0, locals := 153 }) D (kty cI cZ cJ) [.ref mo, .int (nI f), .int (nI i), .int v] (wM cI cZ cJ mo se co ou le wo ma pl tl tm th na si pa ta thr G ky DE cn got S0 C0 O0 L0 W0 S1 C1 O1 L1 W1 MP PL ML DL TH NM SZ PT TK) (fun (_ : Nat → Int32) => True) (fun u : Nat → Int32 => (wM cI cZ cJ mo se co ou le wo ma pl tl tm th na si pa ta 2 (dstep (dstep G)) ky 1 (cn + 1) got ((pbN ky 0 4 8 l0 (upd L0a (d / 8) (nI (drw 2 G))) (setRow W0a (d / 8) (upd (W0a (d / 8)) (d % 8 / 2) (setE (W0a (d / 8) (d % 8 / 2)) (d % 8 % 2) (nI (drw 5 (dstep G)))))) S0 C0 O0a 3).1) ((pbN ky 0 4 8 l0 (upd L0a (d / 8) (nI (drw 2 G))) (setRow W0a (d / 8) (upd (W0a (d / 8)) (d % 8 / 2) (setE (W0a (d / 8) (d % 8 / 2)) (d % 8 % 2) (nI (drw 5 (dstep G)))))) S0 C0 O0a 3).2.1) ((pbN ky 0 4 8 l0 (upd L0a (d / 8) (nI (drw 2 G))) (setRow W0a (d / 8) (upd (W0a (d / 8)) (d % 8 / 2) (setE (W0a (d / 8) (d % 8 / 2)) (d % 8 % 2) (nI (drw 5 (dstep G)))))) S0 C0 O0a 3).2.2) (upd L0a (d / 8) (nI (drw 2 G))) (setRow W0a (d / 8) (upd (W0a (d / 8)) (d % 8 / 2) (setE (W0a (d / 8) (d % 8 / 2)) (d % 8 % 2) (nI (drw 5 (dstep G)))))) S1 C1 O1 L1 W1 (upN MP (d / 8) (drw 2 G)) u (upd ML (cn % 64) (nI l0)) (upd DL (cn % 64) (nI M)) TH NM SZ PT TK)) 0 0 := by
  refine k_headV (cc := cX5_write) (maxL := 7) (ret := none) (by decide) rfl (Nat.le_of_ble_eq_true rfl) ?_
  intro p e s m below meth c A ls args Q hx hb hr hml hts hown hlk hnm hA hK hP hD hS hl hQ
  have hl : lv_has ls 7 [(0, .ref mo), (1, .int (nI f)), (2, .int (nI i)), (3, .int v)] := hl
  refine lv_aload_n hx hb dX5_write_0 rfl (lv_at hl 0 rfl) ?_
  refine lv_iload_n hx hb dX5_write_1 rfl (lv_at hl 1 rfl) ?_
  refine k_vi (As := [.int (nI f)]) (rest := []) (w2 := fun u : Unit => (wM cI cZ cJ mo se co ou le wo ma pl tl tm th na si pa ta thr G ky DE cn got S0 C0 O0 L0 W0 S1 C1 O1 L1 W1 MP PL ML DL TH NM SZ PT TK)) ⟨hx, hb, hml, hown, hts⟩ (c_m_isFile_y l D cI cZ cJ mo se co ou le wo ma pl tl tm th na si pa ta thr G ky DE cn got S0 C0 O0 L0 W0 S1 C1 O1 L1 W1 MP PL ML DL TH NM SZ PT TK f hf ht) (cwV 1 hts gX5_write_X5_isFile rfl rfl rfl (by decide +kernel) ⟨Nat.le_of_ble_eq_true rfl, Nat.le_of_ble_eq_true rfl⟩) hP hD hK hS hA [0, 1, 2, 3, 4, 5, 6, 7, 8, 9, 10, 11, 12, 13, 14] [] [0, 1, 2, 3, 4, 5, 6, 7, 8, 9, 10, 11, 12, 13, 14] rfl rfl (by decide) (fun u => rfl) rfl rfl (q0 := 0) rfl rfl hl.1 rfl (Nat.le_of_ble_eq_true rfl) dX5_write_2 ⟨Nat.le_of_ble_eq_true rfl, Nat.le_of_ble_eq_true rfl⟩ (fun r u H locs hu1 hP hD hS => ?_)
  refine k_t1 (show r = 1 from hu1) ?_
  refine lv_if_eq (tgt := 32) hx hb dX5_write_5 (by decide) (fun c1 => ?_) (fun c1 => ?_)
  · skip
    exact absurd c1 (by decide)
  · skip
    refine lv_iload_n hx hb dX5_write_8 rfl (lv_at hl 2 rfl) ?_
    refine lv_if_lt (tgt := 32) hx hb dX5_write_9 (by decide) (fun c2 => ?_) (fun c2 => ?_)
    · skip
      exact absurd c2 (nI_pos (by omega))
    · skip
      refine lv_iload_n hx hb dX5_write_12 rfl (lv_at hl 2 rfl) ?_
      refine lv_aload_n hx hb dX5_write_13 rfl (lv_at hl 0 rfl) ?_
      refine va_get (D := D) (ci := 5) (v := .ref si) (C := RX5) (T := TX5) (N := 20) hx hb hts (by decide +kernel) hown hK hP 0 rfl rfl 16 (by decide) (hts (.fieldLink RX5 45 "VeiledFilesModel" "size" "[I") (by decide +kernel)) (fun _ h9 => h9) rfl dX5_write_14 ?_
      refine lv_iload_n hx hb dX5_write_17 rfl (lv_at hl 1 rfl) ?_
      refine k_iald hx hb hK hP 12 0 rfl rfl f (by omega) (by omega) (v := nI (SZ f)) (rfl) dX5_write_18 ?_
      refine k_icmp_gt (tgt := 32) hx hb (by omega) (by omega) dX5_write_19 (by decide) (fun c3 => ?_) (fun c3 => ?_)
      · skip
        omega
      · skip
        refine lv_iload_n hx hb dX5_write_22 rfl (lv_at hl 2 rfl) ?_
        refine lv_bipush (v := nI 24) hx hb dX5_write_23 (by decide) ?_
        refine k_icmp_ge (tgt := 32) hx hb (by omega) (by omega) dX5_write_25 (by decide) (fun c4 => ?_) (fun c4 => ?_)
        · skip
          omega
        · skip
          refine lv_iconst (v := nI 1) hx hb dX5_write_28 (by decide) ?_
          refine lv_goto (tgt := 33) hx hb dX5_write_29 (by decide) ?_
          refine lv_istore (lv' := [(4, .int (nI 1)), (0, .ref mo), (1, .int (nI f)), (2, .int (nI i)), (3, .int v)]) hx hb dX5_write_33 hl (by decide) rfl (fun ls hl => ?_)
          refine lv_aload_n hx hb dX5_write_35 rfl (lv_at hl 1 rfl) ?_
          refine lv_iload hx hb dX5_write_36 (lv_at hl 0 rfl) ?_
          refine lv_if_ne (tgt := 45) hx hb dX5_write_38 (by decide) (fun c5 => ?_) (fun c5 => ?_)
          · skip
            refine lv_aload_n hx hb dX5_write_45 rfl (lv_at hl 1 rfl) ?_
            refine va_get (D := D) (ci := 5) (v := .int DE) (C := RX5) (T := TX5) (N := 20) hx hb hts (by decide +kernel) hown hK hP 0 rfl rfl 3 (by decide) (hts (.fieldLink RX5 131 "VeiledFilesModel" "dead" "Z") (by decide +kernel)) (fun _ h9 => h9) rfl dX5_write_46 ?_
            refine lv_if_eq (tgt := 56) hx hb dX5_write_49 (by decide) (fun c6 => ?_) (fun c6 => ?_)
            · skip
              refine lv_iconst (v := nI 0) hx hb dX5_write_56 (by decide) ?_
              refine va_put (D := D) (ci := 5) (v := .int (nI 0)) (ty := .int) (C := RX5) (T := TX5) (N := 20) hx hb hts (by decide +kernel) tyX5 tyX5_ok nmX5 hown hK hP hD hS 0 rfl rfl 0 (by decide) (hts (.fieldLink RX5 58 "VeiledFilesModel" "thrown" "I") (by decide +kernel)) (fun _ h9 => h9) rfl (by decide +kernel) rfl rfl (Nat.le_of_ble_eq_true rfl) dX5_write_57 (fun H locs hP hD hS => ?_)
              have hP : va_P D vwCl (wM cI cZ cJ mo se co ou le wo ma pl tl tm th na si pa ta 0 G ky DE cn got S0 C0 O0 L0 W0 S1 C1 O1 L1 W1 MP PL ML DL TH NM SZ PT TK) _ := hP
              have hD : va_D A (wM cI cZ cJ mo se co ou le wo ma pl tl tm th na si pa ta 0 G ky DE cn got S0 C0 O0 L0 W0 S1 C1 O1 L1 W1 MP PL ML DL TH NM SZ PT TK) := hD
              refine lv_aload_n hx hb dX5_write_60 rfl (lv_at hl 1 rfl) ?_
              refine va_get (D := D) (ci := 5) (v := .int 0) (C := RX5) (T := TX5) (N := 20) hx hb hts (by decide +kernel) hown hK hP 0 rfl rfl 0 (by decide) (hts (.fieldLink RX5 58 "VeiledFilesModel" "thrown" "I") (by decide +kernel)) (fun _ h9 => h9) rfl dX5_write_61 ?_
              refine lv_if_eq (tgt := 68) hx hb dX5_write_64 (by decide) (fun c7 => ?_) (fun c7 => ?_)
              · skip
                refine lv_iload_n hx hb dX5_write_68 rfl (lv_at hl 3 rfl) ?_
                refine lv_aload_n hx hb dX5_write_69 rfl (lv_at hl 1 rfl) ?_
                refine va_get (D := D) (ci := 5) (v := .ref si) (C := RX5) (T := TX5) (N := 20) hx hb hts (by decide +kernel) hown hK hP 0 rfl rfl 16 (by decide) (hts (.fieldLink RX5 45 "VeiledFilesModel" "size" "[I") (by decide +kernel)) (fun _ h9 => h9) rfl dX5_write_70 ?_
                refine lv_iload_n hx hb dX5_write_73 rfl (lv_at hl 2 rfl) ?_
                refine k_iald hx hb hK hP 12 0 rfl rfl f (by omega) (by omega) (v := nI (SZ f)) (rfl) dX5_write_74 ?_
                refine k_icmp_ne (tgt := 88) hx hb (by omega) (by omega) dX5_write_75 (by decide) (fun c8 => ?_) (fun c8 => ?_)
                · skip
                  refine lv_iconst (v := nI 0) hx hb dX5_write_88 (by decide) ?_
                  refine lv_istore (lv' := [(5, .int (nI 0)), (4, .int (nI 1)), (0, .ref mo), (1, .int (nI f)), (2, .int (nI i)), (3, .int v)]) hx hb dX5_write_89 hl (by decide) rfl (fun ls hl => ?_)
                  refine lv_iconst (v := nI 0) hx hb dX5_write_91 (by decide) ?_
                  refine lv_istore (lv' := [(6, .int (nI 0)), (5, .int (nI 0)), (4, .int (nI 1)), (0, .ref mo), (1, .int (nI f)), (2, .int (nI i)), (3, .int v)]) hx hb dX5_write_92 hl (by decide) rfl (fun ls hl => ?_)
                  refine lv_iload hx hb dX5_write_94 (lv_at hl 1 rfl) ?_
                  refine lv_if_eq (tgt := 115) hx hb dX5_write_96 (by decide) (fun c9 => ?_) (fun c9 => ?_)
                  · skip
                    refine lv_aload_n hx hb dX5_write_115 rfl (lv_at hl 3 rfl) ?_
                    refine va_get (D := D) (ci := 5) (v := .ref pa) (C := RX5) (T := TX5) (N := 20) hx hb hts (by decide +kernel) hown hK hP 0 rfl rfl 17 (by decide) (hts (.fieldLink RX5 48 "VeiledFilesModel" "part" "[I") (by decide +kernel)) (fun _ h9 => h9) rfl dX5_write_116 ?_
                    refine lv_bipush (v := nI 6) hx hb dX5_write_119 (by decide) ?_
                    refine lv_iload_n hx hb dX5_write_121 rfl (lv_at hl 4 rfl) ?_
                    refine lv_imul hx hb dX5_write_122 ?_
                    refine k_t1 (show (nI 6) * (nI f) = nI (6 * f) from pk_mul _ _) ?_
                    refine lv_iload_n hx hb dX5_write_123 rfl (lv_at hl 5 rfl) ?_
                    refine lv_iconst (v := nI 4) hx hb dX5_write_124 (by decide) ?_
                    refine lv_idiv hx hb dX5_write_125 (by decide) ?_
                    refine k_t1 (show (nI i) / (nI 4) = nI (i / 4) from pk_div (by omega) (by omega) (by omega)) ?_
                    refine lv_iadd hx hb dX5_write_126 ?_
                    refine k_t1 (show (nI (6 * f)) + (nI (i / 4)) = nI (6 * f + (i / 4)) from nI_add _ _) ?_
                    refine k_iald hx hb hK hP 13 0 rfl rfl (6 * f + (i / 4)) (by omega) (by omega) (v := nI d) (congrArg nI hdd.symm) dX5_write_127 ?_
                    refine lv_istore (lv' := [(6, .int (nI d)), (5, .int (nI 0)), (4, .int (nI 1)), (0, .ref mo), (1, .int (nI f)), (2, .int (nI i)), (3, .int v)]) hx hb dX5_write_128 hl (by decide) rfl (fun ls hl => ?_)
                    refine lv_aload_n hx hb dX5_write_130 rfl (lv_at hl 3 rfl) ?_
                    refine lv_iload hx hb dX5_write_131 (lv_at hl 0 rfl) ?_
                    refine lv_iload_n hx hb dX5_write_133 rfl (lv_at hl 5 rfl) ?_
                    refine lv_iconst (v := nI 4) hx hb dX5_write_134 (by decide) ?_
                    refine lv_irem hx hb dX5_write_135 (by decide) ?_
                    refine k_t1 (show (nI i) - (nI i) / (nI 4) * (nI 4) = nI (i % 4) from pk_rem (by omega) (by omega) (by omega)) ?_
                    refine lv_iconst (v := nI 1) hx hb dX5_write_136 (by decide) ?_
                    refine lv_iload hx hb dX5_write_137 (lv_at hl 1 rfl) ?_
                    refine lv_iload_n hx hb dX5_write_139 rfl (lv_at hl 6 rfl) ?_
                    refine k_vi (As := [.int (nI d), .int (nI (i % 4)), .int (nI 1), .int (nI 0), .int v]) (rest := []) (w2 := fun P1 : Nat → Int32 => (wM cI cZ cJ mo se co ou le wo ma pl tl tm th na si pa ta 0 (dstep (dstep G)) ky 1 (cn + 1) got ((pbN ky 0 4 8 l0 (upd L0a (d / 8) (nI (drw 2 G))) (setRow W0a (d / 8) (upd (W0a (d / 8)) (d % 8 / 2) (setE (W0a (d / 8) (d % 8 / 2)) (d % 8 % 2) (nI (drw 5 (dstep G)))))) S0 C0 O0a 3).1) ((pbN ky 0 4 8 l0 (upd L0a (d / 8) (nI (drw 2 G))) (setRow W0a (d / 8) (upd (W0a (d / 8)) (d % 8 / 2) (setE (W0a (d / 8) (d % 8 / 2)) (d % 8 % 2) (nI (drw 5 (dstep G)))))) S0 C0 O0a 3).2.1) ((pbN ky 0 4 8 l0 (upd L0a (d / 8) (nI (drw 2 G))) (setRow W0a (d / 8) (upd (W0a (d / 8)) (d % 8 / 2) (setE (W0a (d / 8) (d % 8 / 2)) (d % 8 % 2) (nI (drw 5 (dstep G)))))) S0 C0 O0a 3).2.2) (upd L0a (d / 8) (nI (drw 2 G))) (setRow W0a (d / 8) (upd (W0a (d / 8)) (d % 8 / 2) (setE (W0a (d / 8) (d % 8 / 2)) (d % 8 % 2) (nI (drw 5 (dstep G)))))) S1 C1 O1 L1 W1 (upN MP (d / 8) (drw 2 G)) P1 (upd ML (cn % 64) (nI l0)) (upd DL (cn % 64) (nI M)) TH NM SZ PT TK)) ⟨hx, hb, hml, hown, hts⟩ (c_m_acc_B l D cI cZ cJ mo se co ou le wo ma pl tl tm th na si pa ta 0 G ky DE cn got S0 C0 O0 L0 W0 S1 C1 O1 L1 W1 MP PL ML DL TH NM SZ PT TK d l0 (i % 4) 1 0 (v) hd hMl hl4 hc O0a L0a W0a hO0a hL0a hW0a hw0 hv0 M hM j0 hj hw hn) (cwV 5 hts gX5_write_X5_access rfl rfl rfl (by decide +kernel) ⟨Nat.le_of_ble_eq_true rfl, Nat.le_of_ble_eq_true rfl⟩) hP hD hK hS hA [0, 1, 2, 3, 4, 5, 6, 7, 8, 9, 10, 11, 12, 13, 14] [] [0, 1, 2, 3, 4, 5, 6, 7, 8, 9, 10, 11, 12, 13, 14] rfl rfl (by decide) (fun u => rfl) rfl rfl (q0 := 0) rfl rfl hl.1 rfl (Nat.le_of_ble_eq_true rfl) dX5_write_140 ⟨Nat.le_of_ble_eq_true rfl, Nat.le_of_ble_eq_true rfl⟩ (fun r P1 H locs hu2 hP hD hS => ?_)
                    refine k_t1 (show r = 0 from hu2) ?_
                    refine lv_if_ne (tgt := 152) hx hb dX5_write_143 (by decide) (fun cc => ?_) (fun cc => ?_)
                    · skip
                      exact absurd rfl cc
                    · skip
                      refine lv_aload_n hx hb dX5_write_146 rfl (lv_at hl 3 rfl) ?_
                      refine lv_iconst (v := nI 2) hx hb dX5_write_147 (by decide) ?_
                      refine va_put (D := D) (ci := 5) (v := .int (nI 2)) (ty := .int) (C := RX5) (T := TX5) (N := 20) hx hb hts (by decide +kernel) tyX5 tyX5_ok nmX5 hown hK hP hD hS 0 rfl rfl 0 (by decide) (hts (.fieldLink RX5 58 "VeiledFilesModel" "thrown" "I") (by decide +kernel)) (fun _ h9 => h9) rfl (by decide +kernel) rfl rfl (Nat.le_of_ble_eq_true rfl) dX5_write_148 (fun H locs hP hD hS => ?_)
                      have hP : va_P D vwCl (wM cI cZ cJ mo se co ou le wo ma pl tl tm th na si pa ta 2 (dstep (dstep G)) ky 1 (cn + 1) got ((pbN ky 0 4 8 l0 (upd L0a (d / 8) (nI (drw 2 G))) (setRow W0a (d / 8) (upd (W0a (d / 8)) (d % 8 / 2) (setE (W0a (d / 8) (d % 8 / 2)) (d % 8 % 2) (nI (drw 5 (dstep G)))))) S0 C0 O0a 3).1) ((pbN ky 0 4 8 l0 (upd L0a (d / 8) (nI (drw 2 G))) (setRow W0a (d / 8) (upd (W0a (d / 8)) (d % 8 / 2) (setE (W0a (d / 8) (d % 8 / 2)) (d % 8 % 2) (nI (drw 5 (dstep G)))))) S0 C0 O0a 3).2.1) ((pbN ky 0 4 8 l0 (upd L0a (d / 8) (nI (drw 2 G))) (setRow W0a (d / 8) (upd (W0a (d / 8)) (d % 8 / 2) (setE (W0a (d / 8) (d % 8 / 2)) (d % 8 % 2) (nI (drw 5 (dstep G)))))) S0 C0 O0a 3).2.2) (upd L0a (d / 8) (nI (drw 2 G))) (setRow W0a (d / 8) (upd (W0a (d / 8)) (d % 8 / 2) (setE (W0a (d / 8) (d % 8 / 2)) (d % 8 % 2) (nI (drw 5 (dstep G)))))) S1 C1 O1 L1 W1 (upN MP (d / 8) (drw 2 G)) P1 (upd ML (cn % 64) (nI l0)) (upd DL (cn % 64) (nI M)) TH NM SZ PT TK) _ := hP
                      have hD : va_D A (wM cI cZ cJ mo se co ou le wo ma pl tl tm th na si pa ta 2 (dstep (dstep G)) ky 1 (cn + 1) got ((pbN ky 0 4 8 l0 (upd L0a (d / 8) (nI (drw 2 G))) (setRow W0a (d / 8) (upd (W0a (d / 8)) (d % 8 / 2) (setE (W0a (d / 8) (d % 8 / 2)) (d % 8 % 2) (nI (drw 5 (dstep G)))))) S0 C0 O0a 3).1) ((pbN ky 0 4 8 l0 (upd L0a (d / 8) (nI (drw 2 G))) (setRow W0a (d / 8) (upd (W0a (d / 8)) (d % 8 / 2) (setE (W0a (d / 8) (d % 8 / 2)) (d % 8 % 2) (nI (drw 5 (dstep G)))))) S0 C0 O0a 3).2.1) ((pbN ky 0 4 8 l0 (upd L0a (d / 8) (nI (drw 2 G))) (setRow W0a (d / 8) (upd (W0a (d / 8)) (d % 8 / 2) (setE (W0a (d / 8) (d % 8 / 2)) (d % 8 % 2) (nI (drw 5 (dstep G)))))) S0 C0 O0a 3).2.2) (upd L0a (d / 8) (nI (drw 2 G))) (setRow W0a (d / 8) (upd (W0a (d / 8)) (d % 8 / 2) (setE (W0a (d / 8) (d % 8 / 2)) (d % 8 % 2) (nI (drw 5 (dstep G)))))) S1 C1 O1 L1 W1 (upN MP (d / 8) (drw 2 G)) P1 (upd ML (cn % 64) (nI l0)) (upd DL (cn % 64) (nI M)) TH NM SZ PT TK) := hD
                      exact k_retv P1 hx hb hr hK hS hlk dX5_write_151 hP hD (trivial) hQ
                  · skip
                    exact absurd rfl c9
                · skip
                  refine lv_iload_n hx hb dX5_write_78 rfl (lv_at hl 3 rfl) ?_
                  refine lv_iconst (v := nI 4) hx hb dX5_write_79 (by decide) ?_
                  refine lv_irem hx hb dX5_write_80 (by decide) ?_
                  refine k_t1 (show (nI i) - (nI i) / (nI 4) * (nI 4) = nI (i % 4) from pk_rem (by omega) (by omega) (by omega)) ?_
                  refine lv_if_ne (tgt := 88) hx hb dX5_write_81 (by decide) (fun cf => ?_) (fun cf => ?_)
                  · skip
                    refine lv_iconst (v := nI 0) hx hb dX5_write_88 (by decide) ?_
                    refine lv_istore (lv' := [(5, .int (nI 0)), (4, .int (nI 1)), (0, .ref mo), (1, .int (nI f)), (2, .int (nI i)), (3, .int v)]) hx hb dX5_write_89 hl (by decide) rfl (fun ls hl => ?_)
                    refine lv_iconst (v := nI 0) hx hb dX5_write_91 (by decide) ?_
                    refine lv_istore (lv' := [(6, .int (nI 0)), (5, .int (nI 0)), (4, .int (nI 1)), (0, .ref mo), (1, .int (nI f)), (2, .int (nI i)), (3, .int v)]) hx hb dX5_write_92 hl (by decide) rfl (fun ls hl => ?_)
                    refine lv_iload hx hb dX5_write_94 (lv_at hl 1 rfl) ?_
                    refine lv_if_eq (tgt := 115) hx hb dX5_write_96 (by decide) (fun c9 => ?_) (fun c9 => ?_)
                    · skip
                      refine lv_aload_n hx hb dX5_write_115 rfl (lv_at hl 3 rfl) ?_
                      refine va_get (D := D) (ci := 5) (v := .ref pa) (C := RX5) (T := TX5) (N := 20) hx hb hts (by decide +kernel) hown hK hP 0 rfl rfl 17 (by decide) (hts (.fieldLink RX5 48 "VeiledFilesModel" "part" "[I") (by decide +kernel)) (fun _ h9 => h9) rfl dX5_write_116 ?_
                      refine lv_bipush (v := nI 6) hx hb dX5_write_119 (by decide) ?_
                      refine lv_iload_n hx hb dX5_write_121 rfl (lv_at hl 4 rfl) ?_
                      refine lv_imul hx hb dX5_write_122 ?_
                      refine k_t1 (show (nI 6) * (nI f) = nI (6 * f) from pk_mul _ _) ?_
                      refine lv_iload_n hx hb dX5_write_123 rfl (lv_at hl 5 rfl) ?_
                      refine lv_iconst (v := nI 4) hx hb dX5_write_124 (by decide) ?_
                      refine lv_idiv hx hb dX5_write_125 (by decide) ?_
                      refine k_t1 (show (nI i) / (nI 4) = nI (i / 4) from pk_div (by omega) (by omega) (by omega)) ?_
                      refine lv_iadd hx hb dX5_write_126 ?_
                      refine k_t1 (show (nI (6 * f)) + (nI (i / 4)) = nI (6 * f + (i / 4)) from nI_add _ _) ?_
                      refine k_iald hx hb hK hP 13 0 rfl rfl (6 * f + (i / 4)) (by omega) (by omega) (v := nI d) (congrArg nI hdd.symm) dX5_write_127 ?_
                      refine lv_istore (lv' := [(6, .int (nI d)), (5, .int (nI 0)), (4, .int (nI 1)), (0, .ref mo), (1, .int (nI f)), (2, .int (nI i)), (3, .int v)]) hx hb dX5_write_128 hl (by decide) rfl (fun ls hl => ?_)
                      refine lv_aload_n hx hb dX5_write_130 rfl (lv_at hl 3 rfl) ?_
                      refine lv_iload hx hb dX5_write_131 (lv_at hl 0 rfl) ?_
                      refine lv_iload_n hx hb dX5_write_133 rfl (lv_at hl 5 rfl) ?_
                      refine lv_iconst (v := nI 4) hx hb dX5_write_134 (by decide) ?_
                      refine lv_irem hx hb dX5_write_135 (by decide) ?_
                      refine k_t1 (show (nI i) - (nI i) / (nI 4) * (nI 4) = nI (i % 4) from pk_rem (by omega) (by omega) (by omega)) ?_
                      refine lv_iconst (v := nI 1) hx hb dX5_write_136 (by decide) ?_
                      refine lv_iload hx hb dX5_write_137 (lv_at hl 1 rfl) ?_
                      refine lv_iload_n hx hb dX5_write_139 rfl (lv_at hl 6 rfl) ?_
                      refine k_vi (As := [.int (nI d), .int (nI (i % 4)), .int (nI 1), .int (nI 0), .int v]) (rest := []) (w2 := fun P1 : Nat → Int32 => (wM cI cZ cJ mo se co ou le wo ma pl tl tm th na si pa ta 0 (dstep (dstep G)) ky 1 (cn + 1) got ((pbN ky 0 4 8 l0 (upd L0a (d / 8) (nI (drw 2 G))) (setRow W0a (d / 8) (upd (W0a (d / 8)) (d % 8 / 2) (setE (W0a (d / 8) (d % 8 / 2)) (d % 8 % 2) (nI (drw 5 (dstep G)))))) S0 C0 O0a 3).1) ((pbN ky 0 4 8 l0 (upd L0a (d / 8) (nI (drw 2 G))) (setRow W0a (d / 8) (upd (W0a (d / 8)) (d % 8 / 2) (setE (W0a (d / 8) (d % 8 / 2)) (d % 8 % 2) (nI (drw 5 (dstep G)))))) S0 C0 O0a 3).2.1) ((pbN ky 0 4 8 l0 (upd L0a (d / 8) (nI (drw 2 G))) (setRow W0a (d / 8) (upd (W0a (d / 8)) (d % 8 / 2) (setE (W0a (d / 8) (d % 8 / 2)) (d % 8 % 2) (nI (drw 5 (dstep G)))))) S0 C0 O0a 3).2.2) (upd L0a (d / 8) (nI (drw 2 G))) (setRow W0a (d / 8) (upd (W0a (d / 8)) (d % 8 / 2) (setE (W0a (d / 8) (d % 8 / 2)) (d % 8 % 2) (nI (drw 5 (dstep G)))))) S1 C1 O1 L1 W1 (upN MP (d / 8) (drw 2 G)) P1 (upd ML (cn % 64) (nI l0)) (upd DL (cn % 64) (nI M)) TH NM SZ PT TK)) ⟨hx, hb, hml, hown, hts⟩ (c_m_acc_B l D cI cZ cJ mo se co ou le wo ma pl tl tm th na si pa ta 0 G ky DE cn got S0 C0 O0 L0 W0 S1 C1 O1 L1 W1 MP PL ML DL TH NM SZ PT TK d l0 (i % 4) 1 0 (v) hd hMl hl4 hc O0a L0a W0a hO0a hL0a hW0a hw0 hv0 M hM j0 hj hw hn) (cwV 5 hts gX5_write_X5_access rfl rfl rfl (by decide +kernel) ⟨Nat.le_of_ble_eq_true rfl, Nat.le_of_ble_eq_true rfl⟩) hP hD hK hS hA [0, 1, 2, 3, 4, 5, 6, 7, 8, 9, 10, 11, 12, 13, 14] [] [0, 1, 2, 3, 4, 5, 6, 7, 8, 9, 10, 11, 12, 13, 14] rfl rfl (by decide) (fun u => rfl) rfl rfl (q0 := 0) rfl rfl hl.1 rfl (Nat.le_of_ble_eq_true rfl) dX5_write_140 ⟨Nat.le_of_ble_eq_true rfl, Nat.le_of_ble_eq_true rfl⟩ (fun r P1 H locs hu3 hP hD hS => ?_)
                      refine k_t1 (show r = 0 from hu3) ?_
                      refine lv_if_ne (tgt := 152) hx hb dX5_write_143 (by decide) (fun cc => ?_) (fun cc => ?_)
                      · skip
                        exact absurd rfl cc
                      · skip
                        refine lv_aload_n hx hb dX5_write_146 rfl (lv_at hl 3 rfl) ?_
                        refine lv_iconst (v := nI 2) hx hb dX5_write_147 (by decide) ?_
                        refine va_put (D := D) (ci := 5) (v := .int (nI 2)) (ty := .int) (C := RX5) (T := TX5) (N := 20) hx hb hts (by decide +kernel) tyX5 tyX5_ok nmX5 hown hK hP hD hS 0 rfl rfl 0 (by decide) (hts (.fieldLink RX5 58 "VeiledFilesModel" "thrown" "I") (by decide +kernel)) (fun _ h9 => h9) rfl (by decide +kernel) rfl rfl (Nat.le_of_ble_eq_true rfl) dX5_write_148 (fun H locs hP hD hS => ?_)
                        have hP : va_P D vwCl (wM cI cZ cJ mo se co ou le wo ma pl tl tm th na si pa ta 2 (dstep (dstep G)) ky 1 (cn + 1) got ((pbN ky 0 4 8 l0 (upd L0a (d / 8) (nI (drw 2 G))) (setRow W0a (d / 8) (upd (W0a (d / 8)) (d % 8 / 2) (setE (W0a (d / 8) (d % 8 / 2)) (d % 8 % 2) (nI (drw 5 (dstep G)))))) S0 C0 O0a 3).1) ((pbN ky 0 4 8 l0 (upd L0a (d / 8) (nI (drw 2 G))) (setRow W0a (d / 8) (upd (W0a (d / 8)) (d % 8 / 2) (setE (W0a (d / 8) (d % 8 / 2)) (d % 8 % 2) (nI (drw 5 (dstep G)))))) S0 C0 O0a 3).2.1) ((pbN ky 0 4 8 l0 (upd L0a (d / 8) (nI (drw 2 G))) (setRow W0a (d / 8) (upd (W0a (d / 8)) (d % 8 / 2) (setE (W0a (d / 8) (d % 8 / 2)) (d % 8 % 2) (nI (drw 5 (dstep G)))))) S0 C0 O0a 3).2.2) (upd L0a (d / 8) (nI (drw 2 G))) (setRow W0a (d / 8) (upd (W0a (d / 8)) (d % 8 / 2) (setE (W0a (d / 8) (d % 8 / 2)) (d % 8 % 2) (nI (drw 5 (dstep G)))))) S1 C1 O1 L1 W1 (upN MP (d / 8) (drw 2 G)) P1 (upd ML (cn % 64) (nI l0)) (upd DL (cn % 64) (nI M)) TH NM SZ PT TK) _ := hP
                        have hD : va_D A (wM cI cZ cJ mo se co ou le wo ma pl tl tm th na si pa ta 2 (dstep (dstep G)) ky 1 (cn + 1) got ((pbN ky 0 4 8 l0 (upd L0a (d / 8) (nI (drw 2 G))) (setRow W0a (d / 8) (upd (W0a (d / 8)) (d % 8 / 2) (setE (W0a (d / 8) (d % 8 / 2)) (d % 8 % 2) (nI (drw 5 (dstep G)))))) S0 C0 O0a 3).1) ((pbN ky 0 4 8 l0 (upd L0a (d / 8) (nI (drw 2 G))) (setRow W0a (d / 8) (upd (W0a (d / 8)) (d % 8 / 2) (setE (W0a (d / 8) (d % 8 / 2)) (d % 8 % 2) (nI (drw 5 (dstep G)))))) S0 C0 O0a 3).2.1) ((pbN ky 0 4 8 l0 (upd L0a (d / 8) (nI (drw 2 G))) (setRow W0a (d / 8) (upd (W0a (d / 8)) (d % 8 / 2) (setE (W0a (d / 8) (d % 8 / 2)) (d % 8 % 2) (nI (drw 5 (dstep G)))))) S0 C0 O0a 3).2.2) (upd L0a (d / 8) (nI (drw 2 G))) (setRow W0a (d / 8) (upd (W0a (d / 8)) (d % 8 / 2) (setE (W0a (d / 8) (d % 8 / 2)) (d % 8 % 2) (nI (drw 5 (dstep G)))))) S1 C1 O1 L1 W1 (upN MP (d / 8) (drw 2 G)) P1 (upd ML (cn % 64) (nI l0)) (upd DL (cn % 64) (nI M)) TH NM SZ PT TK) := hD
                        exact k_retv P1 hx hb hr hK hS hlk dX5_write_151 hP hD (trivial) hQ
                    · skip
                      exact absurd rfl c9
                  · skip
                    exact absurd cf (nI_ne0 (by omega) (by omega))
              · skip
                exact absurd rfl c7
            · skip
              exact absurd hDE c6
          · skip
            exact absurd c5 (by decide)

set_option maxHeartbeats 800000 in
set_option maxRecDepth 100000 in
theorem c_m_settle0 (l : Launch) (D : va_G) (cI cZ cJ : ClassId) (mo : Nat) (se : Nat) (co : Nat) (ou : Nat) (le : Nat) (wo : Nat) (ma : Nat) (pl : Nat) (tl : Nat) (tm : Nat) (th : Nat) (na : Nat) (si : Nat) (pa : Nat) (ta : Nat) (thr : Int32) (G : Int32) (ky : Int32) (DE : Int32) (cn : Nat) (got : Int32) (S0 : Nat → Nat → Int32) (C0 : Nat → Int32) (O0 : Nat → Int32) (L0 : Nat → Int32) (W0 : Nat → Nat → Int32) (S1 : Nat → Nat → Int32) (C1 : Nat → Int32) (O1 : Nat → Int32) (L1 : Nat → Int32) (W1 : Nat → Nat → Int32) (MP : Nat → Nat) (PL : Nat → Int32) (ML : Nat → Int32) (DL : Nat → Int32) (TH : Nat → Int32) (NM : Nat → Int64) (SZ : Nat → Nat) (PT : Nat → Nat) (TK : Nat → Int32) (n l0 : Nat) (hn : n < 8) (hl0 : l0 < 4) (hLn : L0 n = nI l0) (hO : ¬ O0 n = 0) : KV l yX5_settle wsX5_settle ({ frames := 2, cells := 0, slots := 0, locals := 44 }) D (kty cI cZ cJ) [.ref mo, .int (nI 0), .int (nI n)] (wM cI cZ cJ mo se co ou le wo ma pl tl tm th na si pa ta thr G ky DE cn got S0 C0 O0 L0 W0 S1 C1 O1 L1 W1 MP PL ML DL TH NM SZ PT TK) (fun (_ : Unit) => True) (fun _ : Unit => (wM cI cZ cJ mo se co ou le wo ma pl tl tm th na si pa ta thr G ky DE cn got (stS 4 3 l0 n (L0 n) (W0 n) S0) C0 (stO 4 3 l0 n S0 O0) L0 W0 S1 C1 O1 L1 W1 MP PL ML DL TH NM SZ PT TK)) 0 0 := by
  refine k_headV (cc := cX5_settle) (maxL := 8) (ret := none) (by decide) rfl (Nat.le_of_ble_eq_true rfl) ?_
  intro p e s m below meth c A ls args Q hx hb hr hml hts hown hlk hnm hA hK hP hD hS hl hQ
  have hl : lv_has ls 8 [(0, .ref mo), (1, .int (nI 0)), (2, .int (nI n))] := hl
  refine lv_iload_n hx hb dX5_settle_0 rfl (lv_at hl 1 rfl) ?_
  refine k_si (As := [.int (nI 0)]) (rest := []) (w2 := fun u : Unit => (wM cI cZ cJ mo se co ou le wo ma pl tl tm th na si pa ta thr G ky DE cn got S0 C0 O0 L0 W0 S1 C1 O1 L1 W1 MP PL ML DL TH NM SZ PT TK)) ⟨hx, hb, hml, hown, hts⟩ (c_m_first0 l D cI cZ cJ  ) (va_cwS 1 hts gX5_settle_X5_first rfl rfl rfl (by decide +kernel) ⟨Nat.le_of_ble_eq_true rfl, Nat.le_of_ble_eq_true rfl⟩) hP hD hK hS hA [] [0, 1, 2, 3, 4, 5, 6, 7, 8, 9, 10, 11, 12, 13, 14] [0, 1, 2, 3, 4, 5, 6, 7, 8, 9, 10, 11, 12, 13, 14] rfl rfl (by decide) (fun u => rfl) rfl hl.1 rfl (Nat.le_of_ble_eq_true rfl) dX5_settle_1 ⟨Nat.le_of_ble_eq_true rfl, Nat.le_of_ble_eq_true rfl⟩ (fun r u H locs hu1 hP hD hS => ?_)
  refine k_t1 (show r = nI 0 from hu1) ?_
  refine lv_iload_n hx hb dX5_settle_4 rfl (lv_at hl 2 rfl) ?_
  refine lv_iadd hx hb dX5_settle_5 ?_
  refine k_t1 (show (nI 0) + (nI n) = nI (0 + n) from nI_add _ _) ?_
  refine k_t1 (show nI (0 + n) = nI n from congrArg nI (Nat.zero_add _)) ?_
  refine lv_istore_n (lv' := [(3, .int (nI n)), (0, .ref mo), (1, .int (nI 0)), (2, .int (nI n))]) hx hb dX5_settle_6 rfl hl (by decide) rfl (fun ls hl => ?_)
  refine lv_iconst (v := nI 0) hx hb dX5_settle_7 (by decide) ?_
  refine lv_istore (lv' := [(4, .int (nI 0)), (3, .int (nI n)), (0, .ref mo), (1, .int (nI 0)), (2, .int (nI n))]) hx hb dX5_settle_8 hl (by decide) rfl (fun ls hl => ?_)
  have L1l : ∀ (nf up : Nat) (hvL1l : up ≤ 3) (hFL1l : 3 - up < nf) (hf : ∀ j, j < 4 * up → ¬ S0 (pathB 4 l0 (j / 4)) (6 * (j % 4)) = 0) (H : Heap) (locs : List Loc) (ls : Array Slot), va_P D vwCl (wM cI cZ cJ mo se co ou le wo ma pl tl tm th na si pa ta thr G ky DE cn got S0 C0 O0 L0 W0 S1 C1 O1 L1 W1 MP PL ML DL TH NM SZ PT TK) H → va_D A (wM cI cZ cJ mo se co ou le wo ma pl tl tm th na si pa ta thr G ky DE cn got S0 C0 O0 L0 W0 S1 C1 O1 L1 W1 MP PL ML DL TH NM SZ PT TK) → va_S A s.heap H locs → lv_has ls 8 [(0, .ref mo), (1, .int (nI 0)), (2, .int (nI n)), (3, .int (nI n)), (4, .int (nI up))] → W p l e ({ frames := 2, cells := 0, slots := 0, locals := 44 } : Room) s m args below meth c H locs 0 0 Q (F0 m 10 ls []) := by
    intro nf
    induction nf with
    | zero => intro up  hvL1l hFL1l; omega
    | succ nf ihL1l =>
      intro up  hvL1l hFL1l hf H locs ls hP hD hS hl
      refine lv_iload hx hb dX5_settle_10 (lv_at hl 4 rfl) ?_
      refine lv_iload_n hx hb dX5_settle_12 rfl (lv_at hl 1 rfl) ?_
      refine k_si (As := [.int (nI 0)]) (rest := [.int (nI up)]) (w2 := fun u : Unit => (wM cI cZ cJ mo se co ou le wo ma pl tl tm th na si pa ta thr G ky DE cn got S0 C0 O0 L0 W0 S1 C1 O1 L1 W1 MP PL ML DL TH NM SZ PT TK)) ⟨hx, hb, hml, hown, hts⟩ (c_m_levels0 l D cI cZ cJ  ) (va_cwS 1 hts gX5_settle_X5_levels rfl rfl rfl (by decide +kernel) ⟨Nat.le_of_ble_eq_true rfl, Nat.le_of_ble_eq_true rfl⟩) hP hD hK hS hA [] [0, 1, 2, 3, 4, 5, 6, 7, 8, 9, 10, 11, 12, 13, 14] [0, 1, 2, 3, 4, 5, 6, 7, 8, 9, 10, 11, 12, 13, 14] rfl rfl (by decide) (fun u => rfl) rfl hl.1 rfl (Nat.le_of_ble_eq_true rfl) dX5_settle_13 ⟨Nat.le_of_ble_eq_true rfl, Nat.le_of_ble_eq_true rfl⟩ (fun r u H locs hu2 hP hD hS => ?_)
      refine k_t1 (show r = nI 3 from hu2) ?_
      refine k_icmp_ge (tgt := 186) hx hb (by omega) (by omega) dX5_settle_16 (by decide) (fun c1 => ?_) (fun c1 => ?_)
      · skip
        obtain rfl : up = 3 := by omega
        have hst := st_n (n := n) (lf := L0 n) (wd := W0 n) (O := O0) hf
        have hE3 : (wM cI cZ cJ mo se co ou le wo ma pl tl tm th na si pa ta thr G ky DE cn got S0 C0 O0 L0 W0 S1 C1 O1 L1 W1 MP PL ML DL TH NM SZ PT TK) = (wM cI cZ cJ mo se co ou le wo ma pl tl tm th na si pa ta thr G ky DE cn got (stS 4 3 l0 n (L0 n) (W0 n) S0) C0 O0 L0 W0 S1 C1 O1 L1 W1 MP PL ML DL TH NM SZ PT TK) := by rw [hst.1]
        rw [hE3] at hP hD
        have hE4 : (wM cI cZ cJ mo se co ou le wo ma pl tl tm th na si pa ta thr G ky DE cn got (stS 4 3 l0 n (L0 n) (W0 n) S0) C0 O0 L0 W0 S1 C1 O1 L1 W1 MP PL ML DL TH NM SZ PT TK) = (wM cI cZ cJ mo se co ou le wo ma pl tl tm th na si pa ta thr G ky DE cn got (stS 4 3 l0 n (L0 n) (W0 n) S0) C0 (stO 4 3 l0 n S0 O0) L0 W0 S1 C1 O1 L1 W1 MP PL ML DL TH NM SZ PT TK) := by rw [hst.2]
        rw [hE4] at hP hD
        exact k_retv () hx hb hr hK hS hlk dX5_settle_186 hP hD (trivial) hQ
      · skip
        refine lv_aload_n hx hb dX5_settle_19 rfl (lv_at hl 0 rfl) ?_
        refine va_get (D := D) (ci := 5) (v := .ref ou) (C := RX5) (T := TX5) (N := 20) hx hb hts (by decide +kernel) hown hK hP 0 rfl rfl 7 (by decide) (hts (.fieldLink RX5 16 "VeiledFilesModel" "out" "[Z") (by decide +kernel)) (fun _ h9 => h9) rfl dX5_settle_20 ?_
        refine lv_iload_n hx hb dX5_settle_23 rfl (lv_at hl 3 rfl) ?_
        refine k_zald hx hb hK hP 3 1 rfl rfl n (by omega) (by omega) (v := O0 n) (jn_0 (by omega)) dX5_settle_24 ?_
        refine lv_if_eq (tgt := 186) hx hb dX5_settle_25 (by decide) (fun c2 => ?_) (fun c2 => ?_)
        · skip
          exact absurd c2 hO
        · skip
          refine lv_bipush (v := nI 25) hx hb dX5_settle_28 (by decide) ?_
          refine lv_iload_n hx hb dX5_settle_30 rfl (lv_at hl 1 rfl) ?_
          refine lv_iload_n hx hb dX5_settle_31 rfl (lv_at hl 1 rfl) ?_
          refine lv_aload_n hx hb dX5_settle_32 rfl (lv_at hl 0 rfl) ?_
          refine va_get (D := D) (ci := 5) (v := .ref le) (C := RX5) (T := TX5) (N := 20) hx hb hts (by decide +kernel) hown hK hP 0 rfl rfl 8 (by decide) (hts (.fieldLink RX5 20 "VeiledFilesModel" "leaf" "[I") (by decide +kernel)) (fun _ h9 => h9) rfl dX5_settle_33 ?_
          refine lv_iload_n hx hb dX5_settle_36 rfl (lv_at hl 3 rfl) ?_
          refine k_iald hx hb hK hP 4 0 rfl rfl n (by omega) (by omega) (v := nI l0) ((jn_0 (by omega)).trans hLn) dX5_settle_37 ?_
          refine lv_iload hx hb dX5_settle_38 (lv_at hl 4 rfl) ?_
          refine k_si (As := [.int (nI 0), .int (nI l0), .int (nI up)]) (rest := [.int (nI 0), .int (nI 25)]) (w2 := fun u : Unit => (wM cI cZ cJ mo se co ou le wo ma pl tl tm th na si pa ta thr G ky DE cn got S0 C0 O0 L0 W0 S1 C1 O1 L1 W1 MP PL ML DL TH NM SZ PT TK)) ⟨hx, hb, hml, hown, hts⟩ (c_m_onPath0 l D cI cZ cJ  l0 up hl0 c1) (va_cwS 3 hts gX5_settle_X5_onPath rfl rfl rfl (by decide +kernel) ⟨Nat.le_of_ble_eq_true rfl, Nat.le_of_ble_eq_true rfl⟩) hP hD hK hS hA [] [0, 1, 2, 3, 4, 5, 6, 7, 8, 9, 10, 11, 12, 13, 14] [0, 1, 2, 3, 4, 5, 6, 7, 8, 9, 10, 11, 12, 13, 14] rfl rfl (by decide) (fun u => rfl) rfl hl.1 rfl (Nat.le_of_ble_eq_true rfl) dX5_settle_40 ⟨Nat.le_of_ble_eq_true rfl, Nat.le_of_ble_eq_true rfl⟩ (fun r u H locs hu5 hP hD hS => ?_)
          refine k_t1 (show r = nI (pathB 4 l0 up) from hu5) ?_
          have hpb : pathB 4 l0 up < 7 := pathB_lt tp0 hl0
          refine k_si (As := [.int (nI 0), .int (nI (pathB 4 l0 up))]) (rest := [.int (nI 25)]) (w2 := fun u : Unit => (wM cI cZ cJ mo se co ou le wo ma pl tl tm th na si pa ta thr G ky DE cn got S0 C0 O0 L0 W0 S1 C1 O1 L1 W1 MP PL ML DL TH NM SZ PT TK)) ⟨hx, hb, hml, hown, hts⟩ (c_m_place0 l D cI cZ cJ  (pathB 4 l0 up)) (va_cwS 2 hts gX5_settle_X5_place rfl rfl rfl (by decide +kernel) ⟨Nat.le_of_ble_eq_true rfl, Nat.le_of_ble_eq_true rfl⟩) hP hD hK hS hA [] [0, 1, 2, 3, 4, 5, 6, 7, 8, 9, 10, 11, 12, 13, 14] [0, 1, 2, 3, 4, 5, 6, 7, 8, 9, 10, 11, 12, 13, 14] rfl rfl (by decide) (fun u => rfl) rfl hl.1 rfl (Nat.le_of_ble_eq_true rfl) dX5_settle_43 ⟨Nat.le_of_ble_eq_true rfl, Nat.le_of_ble_eq_true rfl⟩ (fun r u H locs hu6 hP hD hS => ?_)
          refine k_t1 (show r = nI (pathB 4 l0 up) from hu6) ?_
          refine lv_imul hx hb dX5_settle_46 ?_
          refine k_t1 (show (nI 25) * (nI (pathB 4 l0 up)) = nI (25 * (pathB 4 l0 up)) from pk_mul _ _) ?_
          refine lv_istore (lv' := [(5, .int (nI (25 * (pathB 4 l0 up)))), (0, .ref mo), (1, .int (nI 0)), (2, .int (nI n)), (3, .int (nI n)), (4, .int (nI up))]) hx hb dX5_settle_47 hl (by decide) rfl (fun ls hl => ?_)
          refine lv_iconst (v := nI 0) hx hb dX5_settle_49 (by decide) ?_
          refine lv_istore (lv' := [(6, .int (nI 0)), (5, .int (nI (25 * (pathB 4 l0 up)))), (0, .ref mo), (1, .int (nI 0)), (2, .int (nI n)), (3, .int (nI n)), (4, .int (nI up))]) hx hb dX5_settle_50 hl (by decide) rfl (fun ls hl => ?_)
          have L2l : ∀ (nf sl : Nat) (hvL2l : sl ≤ 4) (hFL2l : 4 - sl < nf) (hf2 : ∀ j, j < 4 * up + sl → ¬ S0 (pathB 4 l0 (j / 4)) (6 * (j % 4)) = 0) (H : Heap) (locs : List Loc) (ls : Array Slot), va_P D vwCl (wM cI cZ cJ mo se co ou le wo ma pl tl tm th na si pa ta thr G ky DE cn got S0 C0 O0 L0 W0 S1 C1 O1 L1 W1 MP PL ML DL TH NM SZ PT TK) H → va_D A (wM cI cZ cJ mo se co ou le wo ma pl tl tm th na si pa ta thr G ky DE cn got S0 C0 O0 L0 W0 S1 C1 O1 L1 W1 MP PL ML DL TH NM SZ PT TK) → va_S A s.heap H locs → lv_has ls 8 [(0, .ref mo), (1, .int (nI 0)), (2, .int (nI n)), (3, .int (nI n)), (4, .int (nI up)), (5, .int (nI (25 * (pathB 4 l0 up)))), (6, .int (nI sl))] → W p l e ({ frames := 2, cells := 0, slots := 0, locals := 44 } : Room) s m args below meth c H locs 0 0 Q (F0 m 52 ls []) := by
            intro nf
            induction nf with
            | zero => intro sl  hvL2l hFL2l; omega
            | succ nf ihL2l =>
              intro sl  hvL2l hFL2l hf2 H locs ls hP hD hS hl
              refine lv_iload hx hb dX5_settle_52 (lv_at hl 6 rfl) ?_
              refine lv_iconst (v := nI 4) hx hb dX5_settle_54 (by decide) ?_
              refine k_icmp_ge (tgt := 180) hx hb (by omega) (by omega) dX5_settle_55 (by decide) (fun c3 => ?_) (fun c3 => ?_)
              · skip
                obtain rfl : sl = 4 := by omega
                refine lv_iinc (v := nI (up + 1)) (lv' := [(4, .int (nI (up + 1))), (0, .ref mo), (1, .int (nI 0)), (2, .int (nI n)), (3, .int (nI n)), (5, .int (nI (25 * (pathB 4 l0 up)))), (6, .int (nI 4))]) hx hb dX5_settle_180 hl (k := 4) rfl (nI_add up 1) (by decide) rfl (fun ls hl => ?_)
                refine lv_goto (tgt := 10) hx hb dX5_settle_183 (by decide) ?_
                exact ihL1l (up + 1)  (by omega) (by omega) hf2 _ _ _ hP hD hS (lv_sub hl [1, 2, 3, 4, 0] rfl)
              · skip
                refine lv_aload_n hx hb dX5_settle_58 rfl (lv_at hl 0 rfl) ?_
                refine va_get (D := D) (ci := 5) (v := .ref ou) (C := RX5) (T := TX5) (N := 20) hx hb hts (by decide +kernel) hown hK hP 0 rfl rfl 7 (by decide) (hts (.fieldLink RX5 16 "VeiledFilesModel" "out" "[Z") (by decide +kernel)) (fun _ h9 => h9) rfl dX5_settle_59 ?_
                refine lv_iload_n hx hb dX5_settle_62 rfl (lv_at hl 3 rfl) ?_
                refine k_zald hx hb hK hP 3 1 rfl rfl n (by omega) (by omega) (v := O0 n) (jn_0 (by omega)) dX5_settle_63 ?_
                refine lv_if_eq (tgt := 180) hx hb dX5_settle_64 (by decide) (fun c4 => ?_) (fun c4 => ?_)
                · skip
                  exact absurd c4 hO
                · skip
                  refine lv_aload_n hx hb dX5_settle_67 rfl (lv_at hl 0 rfl) ?_
                  refine va_get (D := D) (ci := 5) (v := .ref se) (C := RX5) (T := TX5) (N := 20) hx hb hts (by decide +kernel) hown hK hP 0 rfl rfl 5 (by decide) (hts (.fieldLink RX5 7 "VeiledFilesModel" "sealed" "[I") (by decide +kernel)) (fun _ h9 => h9) rfl dX5_settle_68 ?_
                  refine lv_iload hx hb dX5_settle_71 (lv_at hl 5 rfl) ?_
                  refine lv_bipush (v := nI 6) hx hb dX5_settle_73 (by decide) ?_
                  refine lv_iload hx hb dX5_settle_75 (lv_at hl 6 rfl) ?_
                  refine lv_imul hx hb dX5_settle_77 ?_
                  refine k_t1 (show (nI 6) * (nI sl) = nI (6 * sl) from pk_mul _ _) ?_
                  refine lv_iadd hx hb dX5_settle_78 ?_
                  refine k_t1 (show (nI (25 * (pathB 4 l0 up))) + (nI (6 * sl)) = nI (25 * (pathB 4 l0 up) + (6 * sl)) from nI_add _ _) ?_
                  refine k_iald hx hb hK hP 1 0 rfl rfl (25 * (pathB 4 l0 up) + (6 * sl)) (by omega) (by omega) (v := S0 (pathB 4 l0 up) (6 * sl)) (rS0 (p := (pathB 4 l0 up)) (i := 6 * sl) (by omega) (by omega) (by omega)) dX5_settle_79 ?_
                  refine lv_if_eq (tgt := 86) hx hb dX5_settle_80 (by decide) (fun c5 => ?_) (fun c5 => ?_)
                  · skip
                    refine lv_aload_n hx hb dX5_settle_86 rfl (lv_at hl 0 rfl) ?_
                    refine va_get (D := D) (ci := 5) (v := .ref se) (C := RX5) (T := TX5) (N := 20) hx hb hts (by decide +kernel) hown hK hP 0 rfl rfl 5 (by decide) (hts (.fieldLink RX5 7 "VeiledFilesModel" "sealed" "[I") (by decide +kernel)) (fun _ h9 => h9) rfl dX5_settle_87 ?_
                    refine lv_iload hx hb dX5_settle_90 (lv_at hl 5 rfl) ?_
                    refine lv_bipush (v := nI 6) hx hb dX5_settle_92 (by decide) ?_
                    refine lv_iload hx hb dX5_settle_94 (lv_at hl 6 rfl) ?_
                    refine lv_imul hx hb dX5_settle_96 ?_
                    refine k_t1 (show (nI 6) * (nI sl) = nI (6 * sl) from pk_mul _ _) ?_
                    refine lv_iadd hx hb dX5_settle_97 ?_
                    refine k_t1 (show (nI (25 * (pathB 4 l0 up))) + (nI (6 * sl)) = nI (25 * (pathB 4 l0 up) + (6 * sl)) from nI_add _ _) ?_
                    refine lv_iload_n hx hb dX5_settle_98 rfl (lv_at hl 2 rfl) ?_
                    refine lv_iconst (v := nI 1) hx hb dX5_settle_99 (by decide) ?_
                    refine lv_iadd hx hb dX5_settle_100 ?_
                    refine k_t1 (show (nI n) + (nI 1) = nI (n + 1) from nI_add _ _) ?_
                    have hE7 : (wM cI cZ cJ mo se co ou le wo ma pl tl tm th na si pa ta thr G ky DE cn got S0 C0 O0 L0 W0 S1 C1 O1 L1 W1 MP PL ML DL TH NM SZ PT TK) = (wM cI cZ cJ mo se co ou le wo ma pl tl tm th na si pa ta thr G ky DE cn got (setRow S0 (pathB 4 l0 up) (putK (S0 (pathB 4 l0 up)) sl n (L0 n) (W0 n) 0)) C0 O0 L0 W0 S1 C1 O1 L1 W1 MP PL ML DL TH NM SZ PT TK) := by rw [putK_0, setRow_id]
                    rw [hE7] at hP hD
                    refine k_iast hx hb hK hP hD hS 1 0 rfl rfl (25 * (pathB 4 l0 up) + (6 * sl)) (by omega) (by omega) (g := fl25 (jn 7 (setRow S0 (pathB 4 l0 up) (putK (S0 (pathB 4 l0 up)) sl n (L0 n) (W0 n) 1)) S1)) ((uS0 (p := (pathB 4 l0 up)) (i := 6 * sl + 0) (by omega) (by omega) (by omega)).trans (by rw [setRow_s, setRow_2, putK_s (k := 0) sloV_0])) dX5_settle_101 (fun H locs hP hD hS => ?_)
                    have hP : va_P D vwCl (wM cI cZ cJ mo se co ou le wo ma pl tl tm th na si pa ta thr G ky DE cn got (setRow S0 (pathB 4 l0 up) (putK (S0 (pathB 4 l0 up)) sl n (L0 n) (W0 n) 1)) C0 O0 L0 W0 S1 C1 O1 L1 W1 MP PL ML DL TH NM SZ PT TK) _ := hP
                    have hD : va_D A (wM cI cZ cJ mo se co ou le wo ma pl tl tm th na si pa ta thr G ky DE cn got (setRow S0 (pathB 4 l0 up) (putK (S0 (pathB 4 l0 up)) sl n (L0 n) (W0 n) 1)) C0 O0 L0 W0 S1 C1 O1 L1 W1 MP PL ML DL TH NM SZ PT TK) := hD
                    refine lv_aload_n hx hb dX5_settle_102 rfl (lv_at hl 0 rfl) ?_
                    refine va_get (D := D) (ci := 5) (v := .ref se) (C := RX5) (T := TX5) (N := 20) hx hb hts (by decide +kernel) hown hK hP 0 rfl rfl 5 (by decide) (hts (.fieldLink RX5 7 "VeiledFilesModel" "sealed" "[I") (by decide +kernel)) (fun _ h9 => h9) rfl dX5_settle_103 ?_
                    refine lv_iload hx hb dX5_settle_106 (lv_at hl 5 rfl) ?_
                    refine lv_bipush (v := nI 6) hx hb dX5_settle_108 (by decide) ?_
                    refine lv_iload hx hb dX5_settle_110 (lv_at hl 6 rfl) ?_
                    refine lv_imul hx hb dX5_settle_112 ?_
                    refine k_t1 (show (nI 6) * (nI sl) = nI (6 * sl) from pk_mul _ _) ?_
                    refine lv_iadd hx hb dX5_settle_113 ?_
                    refine k_t1 (show (nI (25 * (pathB 4 l0 up))) + (nI (6 * sl)) = nI (25 * (pathB 4 l0 up) + (6 * sl)) from nI_add _ _) ?_
                    refine lv_iconst (v := nI 1) hx hb dX5_settle_114 (by decide) ?_
                    refine lv_iadd hx hb dX5_settle_115 ?_
                    refine k_t1 (show (nI (25 * (pathB 4 l0 up) + (6 * sl))) + (nI 1) = nI (25 * (pathB 4 l0 up) + (6 * sl) + 1) from nI_add _ _) ?_
                    refine lv_aload_n hx hb dX5_settle_116 rfl (lv_at hl 0 rfl) ?_
                    refine va_get (D := D) (ci := 5) (v := .ref le) (C := RX5) (T := TX5) (N := 20) hx hb hts (by decide +kernel) hown hK hP 0 rfl rfl 8 (by decide) (hts (.fieldLink RX5 20 "VeiledFilesModel" "leaf" "[I") (by decide +kernel)) (fun _ h9 => h9) rfl dX5_settle_117 ?_
                    refine lv_iload_n hx hb dX5_settle_120 rfl (lv_at hl 3 rfl) ?_
                    refine k_iald hx hb hK hP 4 0 rfl rfl n (by omega) (by omega) (v := L0 n) (jn_0 (by omega)) dX5_settle_121 ?_
                    refine k_iast hx hb hK hP hD hS 1 0 rfl rfl (25 * (pathB 4 l0 up) + (6 * sl) + 1) (by omega) (by omega) (g := fl25 (jn 7 (setRow S0 (pathB 4 l0 up) (putK (S0 (pathB 4 l0 up)) sl n (L0 n) (W0 n) (2 + 0))) S1)) ((uS0 (p := (pathB 4 l0 up)) (i := 6 * sl + 1) (by omega) (by omega) (by omega)).trans (by rw [setRow_s, setRow_2, putK_s (k := 1) sloV_1])) dX5_settle_122 (fun H locs hP hD hS => ?_)
                    have hP : va_P D vwCl (wM cI cZ cJ mo se co ou le wo ma pl tl tm th na si pa ta thr G ky DE cn got (setRow S0 (pathB 4 l0 up) (putK (S0 (pathB 4 l0 up)) sl n (L0 n) (W0 n) (2 + 0))) C0 O0 L0 W0 S1 C1 O1 L1 W1 MP PL ML DL TH NM SZ PT TK) _ := hP
                    have hD : va_D A (wM cI cZ cJ mo se co ou le wo ma pl tl tm th na si pa ta thr G ky DE cn got (setRow S0 (pathB 4 l0 up) (putK (S0 (pathB 4 l0 up)) sl n (L0 n) (W0 n) (2 + 0))) C0 O0 L0 W0 S1 C1 O1 L1 W1 MP PL ML DL TH NM SZ PT TK) := hD
                    refine lv_iconst (v := nI 0) hx hb dX5_settle_123 (by decide) ?_
                    refine lv_istore (lv' := [(7, .int (nI 0)), (0, .ref mo), (1, .int (nI 0)), (2, .int (nI n)), (3, .int (nI n)), (4, .int (nI up)), (5, .int (nI (25 * (pathB 4 l0 up)))), (6, .int (nI sl))]) hx hb dX5_settle_124 hl (by decide) rfl (fun ls hl => ?_)
                    have L3l : ∀ (nf k : Nat) (hvL3l : k ≤ 4) (hFL3l : 4 - k < nf) (H : Heap) (locs : List Loc) (ls : Array Slot), va_P D vwCl (wM cI cZ cJ mo se co ou le wo ma pl tl tm th na si pa ta thr G ky DE cn got (setRow S0 (pathB 4 l0 up) (putK (S0 (pathB 4 l0 up)) sl n (L0 n) (W0 n) (2 + k))) C0 O0 L0 W0 S1 C1 O1 L1 W1 MP PL ML DL TH NM SZ PT TK) H → va_D A (wM cI cZ cJ mo se co ou le wo ma pl tl tm th na si pa ta thr G ky DE cn got (setRow S0 (pathB 4 l0 up) (putK (S0 (pathB 4 l0 up)) sl n (L0 n) (W0 n) (2 + k))) C0 O0 L0 W0 S1 C1 O1 L1 W1 MP PL ML DL TH NM SZ PT TK) → va_S A s.heap H locs → lv_has ls 8 [(0, .ref mo), (1, .int (nI 0)), (2, .int (nI n)), (3, .int (nI n)), (4, .int (nI up)), (5, .int (nI (25 * (pathB 4 l0 up)))), (6, .int (nI sl)), (7, .int (nI k))] → W p l e ({ frames := 2, cells := 0, slots := 0, locals := 44 } : Room) s m args below meth c H locs 0 0 Q (F0 m 126 ls []) := by
                      intro nf
                      induction nf with
                      | zero => intro k  hvL3l hFL3l; omega
                      | succ nf ihL3l =>
                        intro k  hvL3l hFL3l  H locs ls hP hD hS hl
                        refine lv_iload hx hb dX5_settle_126 (lv_at hl 7 rfl) ?_
                        refine lv_iconst (v := nI 4) hx hb dX5_settle_128 (by decide) ?_
                        refine k_icmp_ge (tgt := 167) hx hb (by omega) (by omega) dX5_settle_129 (by decide) (fun c6 => ?_) (fun c6 => ?_)
                        · skip
                          obtain rfl : k = 4 := by omega
                          have hP : va_P D vwCl (wM cI cZ cJ mo se co ou le wo ma pl tl tm th na si pa ta thr G ky DE cn got (setRow S0 (pathB 4 l0 up) (putR (S0 (pathB 4 l0 up)) sl n (L0 n) (W0 n))) C0 O0 L0 W0 S1 C1 O1 L1 W1 MP PL ML DL TH NM SZ PT TK) _ := hP
                          have hD : va_D A (wM cI cZ cJ mo se co ou le wo ma pl tl tm th na si pa ta thr G ky DE cn got (setRow S0 (pathB 4 l0 up) (putR (S0 (pathB 4 l0 up)) sl n (L0 n) (W0 n))) C0 O0 L0 W0 S1 C1 O1 L1 W1 MP PL ML DL TH NM SZ PT TK) := hD
                          refine lv_aload_n hx hb dX5_settle_167 rfl (lv_at hl 0 rfl) ?_
                          refine va_get (D := D) (ci := 5) (v := .ref ou) (C := RX5) (T := TX5) (N := 20) hx hb hts (by decide +kernel) hown hK hP 0 rfl rfl 7 (by decide) (hts (.fieldLink RX5 16 "VeiledFilesModel" "out" "[Z") (by decide +kernel)) (fun _ h9 => h9) rfl dX5_settle_168 ?_
                          refine lv_iload_n hx hb dX5_settle_171 rfl (lv_at hl 3 rfl) ?_
                          refine lv_iconst (v := nI 0) hx hb dX5_settle_172 (by decide) ?_
                          refine k_zast hx hb hK hP hD hS 3 1 rfl rfl n (by omega) (by omega) (g := jn 8 (upd O0 n 0) O1) (jn_u0 (by omega)) (by first | rfl | decide) dX5_settle_173 (fun H locs hP hD hS => ?_)
                          have hP : va_P D vwCl (wM cI cZ cJ mo se co ou le wo ma pl tl tm th na si pa ta thr G ky DE cn got (setRow S0 (pathB 4 l0 up) (putR (S0 (pathB 4 l0 up)) sl n (L0 n) (W0 n))) C0 (upd O0 n 0) L0 W0 S1 C1 O1 L1 W1 MP PL ML DL TH NM SZ PT TK) _ := hP
                          have hD : va_D A (wM cI cZ cJ mo se co ou le wo ma pl tl tm th na si pa ta thr G ky DE cn got (setRow S0 (pathB 4 l0 up) (putR (S0 (pathB 4 l0 up)) sl n (L0 n) (W0 n))) C0 (upd O0 n 0) L0 W0 S1 C1 O1 L1 W1 MP PL ML DL TH NM SZ PT TK) := hD
                          refine lv_iinc (v := nI (sl + 1)) (lv' := [(6, .int (nI (sl + 1))), (0, .ref mo), (1, .int (nI 0)), (2, .int (nI n)), (3, .int (nI n)), (4, .int (nI up)), (5, .int (nI (25 * (pathB 4 l0 up)))), (7, .int (nI 4))]) hx hb dX5_settle_174 hl (k := 6) rfl (nI_add sl 1) (by decide) rfl (fun ls hl => ?_)
                          refine lv_goto (tgt := 52) hx hb dX5_settle_177 (by decide) ?_
                          have hst := st_y (n := n) (lf := L0 n) (wd := W0 n) (O := O0) c1 c3 c5 hf2
                          have hu0 : upd O0 n 0 n = 0 := pk_us
                          refine lv_iload hx hb dX5_settle_52 (lv_at hl 0 rfl) ?_
                          refine lv_iconst (v := nI 4) hx hb dX5_settle_54 (by decide) ?_
                          refine k_icmp_ge (tgt := 180) hx hb (by omega) (by omega) dX5_settle_55 (by decide) (fun c7 => ?_) (fun c7 => ?_)
                          · skip
                            refine lv_iinc (v := nI (up + 1)) (lv' := [(4, .int (nI (up + 1))), (6, .int (nI (sl + 1))), (0, .ref mo), (1, .int (nI 0)), (2, .int (nI n)), (3, .int (nI n)), (5, .int (nI (25 * (pathB 4 l0 up)))), (7, .int (nI 4))]) hx hb dX5_settle_180 hl (k := 5) rfl (nI_add up 1) (by decide) rfl (fun ls hl => ?_)
                            refine lv_goto (tgt := 10) hx hb dX5_settle_183 (by decide) ?_
                            refine lv_iload hx hb dX5_settle_10 (lv_at hl 0 rfl) ?_
                            refine lv_iload_n hx hb dX5_settle_12 rfl (lv_at hl 3 rfl) ?_
                            refine k_si (As := [.int (nI 0)]) (rest := [.int (nI (up + 1))]) (w2 := fun u : Unit => (wM cI cZ cJ mo se co ou le wo ma pl tl tm th na si pa ta thr G ky DE cn got (setRow S0 (pathB 4 l0 up) (putR (S0 (pathB 4 l0 up)) sl n (L0 n) (W0 n))) C0 (upd O0 n 0) L0 W0 S1 C1 O1 L1 W1 MP PL ML DL TH NM SZ PT TK)) ⟨hx, hb, hml, hown, hts⟩ (c_m_levels0 l D cI cZ cJ  ) (va_cwS 1 hts gX5_settle_X5_levels rfl rfl rfl (by decide +kernel) ⟨Nat.le_of_ble_eq_true rfl, Nat.le_of_ble_eq_true rfl⟩) hP hD hK hS hA [] [0, 1, 2, 3, 4, 5, 6, 7, 8, 9, 10, 11, 12, 13, 14] [0, 1, 2, 3, 4, 5, 6, 7, 8, 9, 10, 11, 12, 13, 14] rfl rfl (by decide) (fun u => rfl) rfl hl.1 rfl (Nat.le_of_ble_eq_true rfl) dX5_settle_13 ⟨Nat.le_of_ble_eq_true rfl, Nat.le_of_ble_eq_true rfl⟩ (fun r u H locs hu8 hP hD hS => ?_)
                            refine k_t1 (show r = nI 3 from hu8) ?_
                            refine k_icmp_ge (tgt := 186) hx hb (by omega) (by omega) dX5_settle_16 (by decide) (fun c8 => ?_) (fun c8 => ?_)
                            · skip
                              have hE9 : (wM cI cZ cJ mo se co ou le wo ma pl tl tm th na si pa ta thr G ky DE cn got (setRow S0 (pathB 4 l0 up) (putR (S0 (pathB 4 l0 up)) sl n (L0 n) (W0 n))) C0 (upd O0 n 0) L0 W0 S1 C1 O1 L1 W1 MP PL ML DL TH NM SZ PT TK) = (wM cI cZ cJ mo se co ou le wo ma pl tl tm th na si pa ta thr G ky DE cn got (stS 4 3 l0 n (L0 n) (W0 n) S0) C0 (upd O0 n 0) L0 W0 S1 C1 O1 L1 W1 MP PL ML DL TH NM SZ PT TK) := by rw [hst.1]
                              rw [hE9] at hP hD
                              have hE10 : (wM cI cZ cJ mo se co ou le wo ma pl tl tm th na si pa ta thr G ky DE cn got (stS 4 3 l0 n (L0 n) (W0 n) S0) C0 (upd O0 n 0) L0 W0 S1 C1 O1 L1 W1 MP PL ML DL TH NM SZ PT TK) = (wM cI cZ cJ mo se co ou le wo ma pl tl tm th na si pa ta thr G ky DE cn got (stS 4 3 l0 n (L0 n) (W0 n) S0) C0 (stO 4 3 l0 n S0 O0) L0 W0 S1 C1 O1 L1 W1 MP PL ML DL TH NM SZ PT TK) := by rw [hst.2]
                              rw [hE10] at hP hD
                              exact k_retv () hx hb hr hK hS hlk dX5_settle_186 hP hD (trivial) hQ
                            · skip
                              refine lv_aload_n hx hb dX5_settle_19 rfl (lv_at hl 2 rfl) ?_
                              refine va_get (D := D) (ci := 5) (v := .ref ou) (C := RX5) (T := TX5) (N := 20) hx hb hts (by decide +kernel) hown hK hP 0 rfl rfl 7 (by decide) (hts (.fieldLink RX5 16 "VeiledFilesModel" "out" "[Z") (by decide +kernel)) (fun _ h9 => h9) rfl dX5_settle_20 ?_
                              refine lv_iload_n hx hb dX5_settle_23 rfl (lv_at hl 5 rfl) ?_
                              refine k_zald hx hb hK hP 3 1 rfl rfl n (by omega) (by omega) (v := 0) ((jn_0 (by omega)).trans hu0) dX5_settle_24 ?_
                              refine lv_if_eq (tgt := 186) hx hb dX5_settle_25 (by decide) (fun c9 => ?_) (fun c9 => ?_)
                              · skip
                                have hE11 : (wM cI cZ cJ mo se co ou le wo ma pl tl tm th na si pa ta thr G ky DE cn got (setRow S0 (pathB 4 l0 up) (putR (S0 (pathB 4 l0 up)) sl n (L0 n) (W0 n))) C0 (upd O0 n 0) L0 W0 S1 C1 O1 L1 W1 MP PL ML DL TH NM SZ PT TK) = (wM cI cZ cJ mo se co ou le wo ma pl tl tm th na si pa ta thr G ky DE cn got (stS 4 3 l0 n (L0 n) (W0 n) S0) C0 (upd O0 n 0) L0 W0 S1 C1 O1 L1 W1 MP PL ML DL TH NM SZ PT TK) := by rw [hst.1]
                                rw [hE11] at hP hD
                                have hE12 : (wM cI cZ cJ mo se co ou le wo ma pl tl tm th na si pa ta thr G ky DE cn got (stS 4 3 l0 n (L0 n) (W0 n) S0) C0 (upd O0 n 0) L0 W0 S1 C1 O1 L1 W1 MP PL ML DL TH NM SZ PT TK) = (wM cI cZ cJ mo se co ou le wo ma pl tl tm th na si pa ta thr G ky DE cn got (stS 4 3 l0 n (L0 n) (W0 n) S0) C0 (stO 4 3 l0 n S0 O0) L0 W0 S1 C1 O1 L1 W1 MP PL ML DL TH NM SZ PT TK) := by rw [hst.2]
                                rw [hE12] at hP hD
                                exact k_retv () hx hb hr hK hS hlk dX5_settle_186 hP hD (trivial) hQ
                              · skip
                                exact absurd rfl c9
                          · skip
                            refine lv_aload_n hx hb dX5_settle_58 rfl (lv_at hl 1 rfl) ?_
                            refine va_get (D := D) (ci := 5) (v := .ref ou) (C := RX5) (T := TX5) (N := 20) hx hb hts (by decide +kernel) hown hK hP 0 rfl rfl 7 (by decide) (hts (.fieldLink RX5 16 "VeiledFilesModel" "out" "[Z") (by decide +kernel)) (fun _ h9 => h9) rfl dX5_settle_59 ?_
                            refine lv_iload_n hx hb dX5_settle_62 rfl (lv_at hl 4 rfl) ?_
                            refine k_zald hx hb hK hP 3 1 rfl rfl n (by omega) (by omega) (v := 0) ((jn_0 (by omega)).trans hu0) dX5_settle_63 ?_
                            refine lv_if_eq (tgt := 180) hx hb dX5_settle_64 (by decide) (fun ca => ?_) (fun ca => ?_)
                            · skip
                              refine lv_iinc (v := nI (up + 1)) (lv' := [(4, .int (nI (up + 1))), (6, .int (nI (sl + 1))), (0, .ref mo), (1, .int (nI 0)), (2, .int (nI n)), (3, .int (nI n)), (5, .int (nI (25 * (pathB 4 l0 up)))), (7, .int (nI 4))]) hx hb dX5_settle_180 hl (k := 5) rfl (nI_add up 1) (by decide) rfl (fun ls hl => ?_)
                              refine lv_goto (tgt := 10) hx hb dX5_settle_183 (by decide) ?_
                              refine lv_iload hx hb dX5_settle_10 (lv_at hl 0 rfl) ?_
                              refine lv_iload_n hx hb dX5_settle_12 rfl (lv_at hl 3 rfl) ?_
                              refine k_si (As := [.int (nI 0)]) (rest := [.int (nI (up + 1))]) (w2 := fun u : Unit => (wM cI cZ cJ mo se co ou le wo ma pl tl tm th na si pa ta thr G ky DE cn got (setRow S0 (pathB 4 l0 up) (putR (S0 (pathB 4 l0 up)) sl n (L0 n) (W0 n))) C0 (upd O0 n 0) L0 W0 S1 C1 O1 L1 W1 MP PL ML DL TH NM SZ PT TK)) ⟨hx, hb, hml, hown, hts⟩ (c_m_levels0 l D cI cZ cJ  ) (va_cwS 1 hts gX5_settle_X5_levels rfl rfl rfl (by decide +kernel) ⟨Nat.le_of_ble_eq_true rfl, Nat.le_of_ble_eq_true rfl⟩) hP hD hK hS hA [] [0, 1, 2, 3, 4, 5, 6, 7, 8, 9, 10, 11, 12, 13, 14] [0, 1, 2, 3, 4, 5, 6, 7, 8, 9, 10, 11, 12, 13, 14] rfl rfl (by decide) (fun u => rfl) rfl hl.1 rfl (Nat.le_of_ble_eq_true rfl) dX5_settle_13 ⟨Nat.le_of_ble_eq_true rfl, Nat.le_of_ble_eq_true rfl⟩ (fun r u H locs hu13 hP hD hS => ?_)
                              refine k_t1 (show r = nI 3 from hu13) ?_
                              refine k_icmp_ge (tgt := 186) hx hb (by omega) (by omega) dX5_settle_16 (by decide) (fun c8 => ?_) (fun c8 => ?_)
                              · skip
                                have hE14 : (wM cI cZ cJ mo se co ou le wo ma pl tl tm th na si pa ta thr G ky DE cn got (setRow S0 (pathB 4 l0 up) (putR (S0 (pathB 4 l0 up)) sl n (L0 n) (W0 n))) C0 (upd O0 n 0) L0 W0 S1 C1 O1 L1 W1 MP PL ML DL TH NM SZ PT TK) = (wM cI cZ cJ mo se co ou le wo ma pl tl tm th na si pa ta thr G ky DE cn got (stS 4 3 l0 n (L0 n) (W0 n) S0) C0 (upd O0 n 0) L0 W0 S1 C1 O1 L1 W1 MP PL ML DL TH NM SZ PT TK) := by rw [hst.1]
                                rw [hE14] at hP hD
                                have hE15 : (wM cI cZ cJ mo se co ou le wo ma pl tl tm th na si pa ta thr G ky DE cn got (stS 4 3 l0 n (L0 n) (W0 n) S0) C0 (upd O0 n 0) L0 W0 S1 C1 O1 L1 W1 MP PL ML DL TH NM SZ PT TK) = (wM cI cZ cJ mo se co ou le wo ma pl tl tm th na si pa ta thr G ky DE cn got (stS 4 3 l0 n (L0 n) (W0 n) S0) C0 (stO 4 3 l0 n S0 O0) L0 W0 S1 C1 O1 L1 W1 MP PL ML DL TH NM SZ PT TK) := by rw [hst.2]
                                rw [hE15] at hP hD
                                exact k_retv () hx hb hr hK hS hlk dX5_settle_186 hP hD (trivial) hQ
                              · skip
                                refine lv_aload_n hx hb dX5_settle_19 rfl (lv_at hl 2 rfl) ?_
                                refine va_get (D := D) (ci := 5) (v := .ref ou) (C := RX5) (T := TX5) (N := 20) hx hb hts (by decide +kernel) hown hK hP 0 rfl rfl 7 (by decide) (hts (.fieldLink RX5 16 "VeiledFilesModel" "out" "[Z") (by decide +kernel)) (fun _ h9 => h9) rfl dX5_settle_20 ?_
                                refine lv_iload_n hx hb dX5_settle_23 rfl (lv_at hl 5 rfl) ?_
                                refine k_zald hx hb hK hP 3 1 rfl rfl n (by omega) (by omega) (v := 0) ((jn_0 (by omega)).trans hu0) dX5_settle_24 ?_
                                refine lv_if_eq (tgt := 186) hx hb dX5_settle_25 (by decide) (fun c9 => ?_) (fun c9 => ?_)
                                · skip
                                  have hE16 : (wM cI cZ cJ mo se co ou le wo ma pl tl tm th na si pa ta thr G ky DE cn got (setRow S0 (pathB 4 l0 up) (putR (S0 (pathB 4 l0 up)) sl n (L0 n) (W0 n))) C0 (upd O0 n 0) L0 W0 S1 C1 O1 L1 W1 MP PL ML DL TH NM SZ PT TK) = (wM cI cZ cJ mo se co ou le wo ma pl tl tm th na si pa ta thr G ky DE cn got (stS 4 3 l0 n (L0 n) (W0 n) S0) C0 (upd O0 n 0) L0 W0 S1 C1 O1 L1 W1 MP PL ML DL TH NM SZ PT TK) := by rw [hst.1]
                                  rw [hE16] at hP hD
                                  have hE17 : (wM cI cZ cJ mo se co ou le wo ma pl tl tm th na si pa ta thr G ky DE cn got (stS 4 3 l0 n (L0 n) (W0 n) S0) C0 (upd O0 n 0) L0 W0 S1 C1 O1 L1 W1 MP PL ML DL TH NM SZ PT TK) = (wM cI cZ cJ mo se co ou le wo ma pl tl tm th na si pa ta thr G ky DE cn got (stS 4 3 l0 n (L0 n) (W0 n) S0) C0 (stO 4 3 l0 n S0 O0) L0 W0 S1 C1 O1 L1 W1 MP PL ML DL TH NM SZ PT TK) := by rw [hst.2]
                                  rw [hE17] at hP hD
                                  exact k_retv () hx hb hr hK hS hlk dX5_settle_186 hP hD (trivial) hQ
                                · skip
                                  exact absurd rfl c9
                            · skip
                              exact absurd rfl ca
                        · skip
                          refine lv_aload_n hx hb dX5_settle_132 rfl (lv_at hl 0 rfl) ?_
                          refine va_get (D := D) (ci := 5) (v := .ref se) (C := RX5) (T := TX5) (N := 20) hx hb hts (by decide +kernel) hown hK hP 0 rfl rfl 5 (by decide) (hts (.fieldLink RX5 7 "VeiledFilesModel" "sealed" "[I") (by decide +kernel)) (fun _ h9 => h9) rfl dX5_settle_133 ?_
                          refine lv_iload hx hb dX5_settle_136 (lv_at hl 5 rfl) ?_
                          refine lv_bipush (v := nI 6) hx hb dX5_settle_138 (by decide) ?_
                          refine lv_iload hx hb dX5_settle_140 (lv_at hl 6 rfl) ?_
                          refine lv_imul hx hb dX5_settle_142 ?_
                          refine k_t1 (show (nI 6) * (nI sl) = nI (6 * sl) from pk_mul _ _) ?_
                          refine lv_iadd hx hb dX5_settle_143 ?_
                          refine k_t1 (show (nI (25 * (pathB 4 l0 up))) + (nI (6 * sl)) = nI (25 * (pathB 4 l0 up) + (6 * sl)) from nI_add _ _) ?_
                          refine lv_iconst (v := nI 2) hx hb dX5_settle_144 (by decide) ?_
                          refine lv_iadd hx hb dX5_settle_145 ?_
                          refine k_t1 (show (nI (25 * (pathB 4 l0 up) + (6 * sl))) + (nI 2) = nI (25 * (pathB 4 l0 up) + (6 * sl) + 2) from nI_add _ _) ?_
                          refine lv_iload hx hb dX5_settle_146 (lv_at hl 7 rfl) ?_
                          refine lv_iadd hx hb dX5_settle_148 ?_
                          refine k_t1 (show (nI (25 * (pathB 4 l0 up) + (6 * sl) + 2)) + (nI k) = nI (25 * (pathB 4 l0 up) + (6 * sl) + 2 + k) from nI_add _ _) ?_
                          refine lv_aload_n hx hb dX5_settle_149 rfl (lv_at hl 0 rfl) ?_
                          refine va_get (D := D) (ci := 5) (v := .ref wo) (C := RX5) (T := TX5) (N := 20) hx hb hts (by decide +kernel) hown hK hP 0 rfl rfl 9 (by decide) (hts (.fieldLink RX5 23 "VeiledFilesModel" "words" "[I") (by decide +kernel)) (fun _ h9 => h9) rfl dX5_settle_150 ?_
                          refine lv_iconst (v := nI 4) hx hb dX5_settle_153 (by decide) ?_
                          refine lv_iload_n hx hb dX5_settle_154 rfl (lv_at hl 3 rfl) ?_
                          refine lv_imul hx hb dX5_settle_155 ?_
                          refine k_t1 (show (nI 4) * (nI n) = nI (4 * n) from pk_mul _ _) ?_
                          refine lv_iload hx hb dX5_settle_156 (lv_at hl 7 rfl) ?_
                          refine lv_iadd hx hb dX5_settle_158 ?_
                          refine k_t1 (show (nI (4 * n)) + (nI k) = nI (4 * n + k) from nI_add _ _) ?_
                          refine k_iald hx hb hK hP 5 0 rfl rfl (4 * n + k) (by omega) (by omega) (v := W0 n k) (rW0 (p := n) (by omega) (by omega) (by omega)) dX5_settle_159 ?_
                          refine k_iast hx hb hK hP hD hS 1 0 rfl rfl (25 * (pathB 4 l0 up) + (6 * sl) + 2 + k) (by omega) (by omega) (g := fl25 (jn 7 (setRow S0 (pathB 4 l0 up) (putK (S0 (pathB 4 l0 up)) sl n (L0 n) (W0 n) (2 + (k + 1)))) S1)) ((uS0 (p := (pathB 4 l0 up)) (i := 6 * sl + (2 + k)) (by omega) (by omega) (by omega)).trans (by rw [setRow_s, setRow_2, putK_s (k := 2 + k) sloV_2]; rfl)) dX5_settle_160 (fun H locs hP hD hS => ?_)
                          have hP : va_P D vwCl (wM cI cZ cJ mo se co ou le wo ma pl tl tm th na si pa ta thr G ky DE cn got (setRow S0 (pathB 4 l0 up) (putK (S0 (pathB 4 l0 up)) sl n (L0 n) (W0 n) (2 + (k + 1)))) C0 O0 L0 W0 S1 C1 O1 L1 W1 MP PL ML DL TH NM SZ PT TK) _ := hP
                          have hD : va_D A (wM cI cZ cJ mo se co ou le wo ma pl tl tm th na si pa ta thr G ky DE cn got (setRow S0 (pathB 4 l0 up) (putK (S0 (pathB 4 l0 up)) sl n (L0 n) (W0 n) (2 + (k + 1)))) C0 O0 L0 W0 S1 C1 O1 L1 W1 MP PL ML DL TH NM SZ PT TK) := hD
                          refine lv_iinc (v := nI (k + 1)) (lv' := [(7, .int (nI (k + 1))), (0, .ref mo), (1, .int (nI 0)), (2, .int (nI n)), (3, .int (nI n)), (4, .int (nI up)), (5, .int (nI (25 * (pathB 4 l0 up)))), (6, .int (nI sl))]) hx hb dX5_settle_161 hl (k := 7) rfl (nI_add k 1) (by decide) rfl (fun ls hl => ?_)
                          refine lv_goto (tgt := 126) hx hb dX5_settle_164 (by decide) ?_
                          exact ihL3l (k + 1)  (by omega) (by omega)  _ _ _ hP hD hS (lv_sub hl [1, 2, 3, 4, 5, 6, 7, 0] rfl)
                    exact L3l (4 + 1) 0  (by omega) (by omega)  _ _ _ hP hD hS (lv_sub hl [1, 2, 3, 4, 5, 6, 7, 0] rfl)
                  · skip
                    refine lv_goto (tgt := 174) hx hb dX5_settle_83 (by decide) ?_
                    refine lv_iinc (v := nI (sl + 1)) (lv' := [(6, .int (nI (sl + 1))), (0, .ref mo), (1, .int (nI 0)), (2, .int (nI n)), (3, .int (nI n)), (4, .int (nI up)), (5, .int (nI (25 * (pathB 4 l0 up))))]) hx hb dX5_settle_174 hl (k := 6) rfl (nI_add sl 1) (by decide) rfl (fun ls hl => ?_)
                    refine lv_goto (tgt := 52) hx hb dX5_settle_177 (by decide) ?_
                    exact ihL2l (sl + 1)  (by omega) (by omega) (st_hf hf2 c3 c5) _ _ _ hP hD hS (lv_sub hl [1, 2, 3, 4, 5, 6, 0] rfl)
          exact L2l (4 + 1) 0  (by omega) (by omega) hf _ _ _ hP hD hS (lv_sub hl [2, 3, 4, 5, 6, 1, 0] rfl)
  exact L1l (3 + 1) 0  (by omega) (by omega) (fun j hj => absurd hj (by omega)) _ _ _ hP hD hS (lv_sub hl [2, 3, 4, 1, 0] rfl)

set_option maxHeartbeats 800000 in
set_option maxRecDepth 100000 in
theorem c_m_settle1 (l : Launch) (D : va_G) (cI cZ cJ : ClassId) (mo : Nat) (se : Nat) (co : Nat) (ou : Nat) (le : Nat) (wo : Nat) (ma : Nat) (pl : Nat) (tl : Nat) (tm : Nat) (th : Nat) (na : Nat) (si : Nat) (pa : Nat) (ta : Nat) (thr : Int32) (G : Int32) (ky : Int32) (DE : Int32) (cn : Nat) (got : Int32) (S0 : Nat → Nat → Int32) (C0 : Nat → Int32) (O0 : Nat → Int32) (L0 : Nat → Int32) (W0 : Nat → Nat → Int32) (S1 : Nat → Nat → Int32) (C1 : Nat → Int32) (O1 : Nat → Int32) (L1 : Nat → Int32) (W1 : Nat → Nat → Int32) (MP : Nat → Nat) (PL : Nat → Int32) (ML : Nat → Int32) (DL : Nat → Int32) (TH : Nat → Int32) (NM : Nat → Int64) (SZ : Nat → Nat) (PT : Nat → Nat) (TK : Nat → Int32) (n l0 : Nat) (hn : n < 64) (hl0 : l0 < 32) (hLn : L1 n = nI l0) (hO : ¬ O1 n = 0) : KV l yX5_settle wsX5_settle ({ frames := 2, cells := 0, slots := 0, locals := 44 }) D (kty cI cZ cJ) [.ref mo, .int (nI 1), .int (nI n)] (wM cI cZ cJ mo se co ou le wo ma pl tl tm th na si pa ta thr G ky DE cn got S0 C0 O0 L0 W0 S1 C1 O1 L1 W1 MP PL ML DL TH NM SZ PT TK) (fun (_ : Unit) => True) (fun _ : Unit => (wM cI cZ cJ mo se co ou le wo ma pl tl tm th na si pa ta thr G ky DE cn got S0 C0 O0 L0 W0 (stS 32 6 l0 n (L1 n) (W1 n) S1) C1 (stO 32 6 l0 n S1 O1) L1 W1 MP PL ML DL TH NM SZ PT TK)) 0 0 := by
  refine k_headV (cc := cX5_settle) (maxL := 8) (ret := none) (by decide) rfl (Nat.le_of_ble_eq_true rfl) ?_
  intro p e s m below meth c A ls args Q hx hb hr hml hts hown hlk hnm hA hK hP hD hS hl hQ
  have hl : lv_has ls 8 [(0, .ref mo), (1, .int (nI 1)), (2, .int (nI n))] := hl
  refine lv_iload_n hx hb dX5_settle_0 rfl (lv_at hl 1 rfl) ?_
  refine k_si (As := [.int (nI 1)]) (rest := []) (w2 := fun u : Unit => (wM cI cZ cJ mo se co ou le wo ma pl tl tm th na si pa ta thr G ky DE cn got S0 C0 O0 L0 W0 S1 C1 O1 L1 W1 MP PL ML DL TH NM SZ PT TK)) ⟨hx, hb, hml, hown, hts⟩ (c_m_first1 l D cI cZ cJ  ) (va_cwS 1 hts gX5_settle_X5_first rfl rfl rfl (by decide +kernel) ⟨Nat.le_of_ble_eq_true rfl, Nat.le_of_ble_eq_true rfl⟩) hP hD hK hS hA [] [0, 1, 2, 3, 4, 5, 6, 7, 8, 9, 10, 11, 12, 13, 14] [0, 1, 2, 3, 4, 5, 6, 7, 8, 9, 10, 11, 12, 13, 14] rfl rfl (by decide) (fun u => rfl) rfl hl.1 rfl (Nat.le_of_ble_eq_true rfl) dX5_settle_1 ⟨Nat.le_of_ble_eq_true rfl, Nat.le_of_ble_eq_true rfl⟩ (fun r u H locs hu1 hP hD hS => ?_)
  refine k_t1 (show r = nI 8 from hu1) ?_
  refine lv_iload_n hx hb dX5_settle_4 rfl (lv_at hl 2 rfl) ?_
  refine lv_iadd hx hb dX5_settle_5 ?_
  refine k_t1 (show (nI 8) + (nI n) = nI (8 + n) from nI_add _ _) ?_
  refine lv_istore_n (lv' := [(3, .int (nI (8 + n))), (0, .ref mo), (1, .int (nI 1)), (2, .int (nI n))]) hx hb dX5_settle_6 rfl hl (by decide) rfl (fun ls hl => ?_)
  refine lv_iconst (v := nI 0) hx hb dX5_settle_7 (by decide) ?_
  refine lv_istore (lv' := [(4, .int (nI 0)), (3, .int (nI (8 + n))), (0, .ref mo), (1, .int (nI 1)), (2, .int (nI n))]) hx hb dX5_settle_8 hl (by decide) rfl (fun ls hl => ?_)
  have L1l : ∀ (nf up : Nat) (hvL1l : up ≤ 6) (hFL1l : 6 - up < nf) (hf : ∀ j, j < 4 * up → ¬ S1 (pathB 32 l0 (j / 4)) (6 * (j % 4)) = 0) (H : Heap) (locs : List Loc) (ls : Array Slot), va_P D vwCl (wM cI cZ cJ mo se co ou le wo ma pl tl tm th na si pa ta thr G ky DE cn got S0 C0 O0 L0 W0 S1 C1 O1 L1 W1 MP PL ML DL TH NM SZ PT TK) H → va_D A (wM cI cZ cJ mo se co ou le wo ma pl tl tm th na si pa ta thr G ky DE cn got S0 C0 O0 L0 W0 S1 C1 O1 L1 W1 MP PL ML DL TH NM SZ PT TK) → va_S A s.heap H locs → lv_has ls 8 [(0, .ref mo), (1, .int (nI 1)), (2, .int (nI n)), (3, .int (nI (8 + n))), (4, .int (nI up))] → W p l e ({ frames := 2, cells := 0, slots := 0, locals := 44 } : Room) s m args below meth c H locs 0 0 Q (F0 m 10 ls []) := by
    intro nf
    induction nf with
    | zero => intro up  hvL1l hFL1l; omega
    | succ nf ihL1l =>
      intro up  hvL1l hFL1l hf H locs ls hP hD hS hl
      refine lv_iload hx hb dX5_settle_10 (lv_at hl 4 rfl) ?_
      refine lv_iload_n hx hb dX5_settle_12 rfl (lv_at hl 1 rfl) ?_
      refine k_si (As := [.int (nI 1)]) (rest := [.int (nI up)]) (w2 := fun u : Unit => (wM cI cZ cJ mo se co ou le wo ma pl tl tm th na si pa ta thr G ky DE cn got S0 C0 O0 L0 W0 S1 C1 O1 L1 W1 MP PL ML DL TH NM SZ PT TK)) ⟨hx, hb, hml, hown, hts⟩ (c_m_levels1 l D cI cZ cJ  ) (va_cwS 1 hts gX5_settle_X5_levels rfl rfl rfl (by decide +kernel) ⟨Nat.le_of_ble_eq_true rfl, Nat.le_of_ble_eq_true rfl⟩) hP hD hK hS hA [] [0, 1, 2, 3, 4, 5, 6, 7, 8, 9, 10, 11, 12, 13, 14] [0, 1, 2, 3, 4, 5, 6, 7, 8, 9, 10, 11, 12, 13, 14] rfl rfl (by decide) (fun u => rfl) rfl hl.1 rfl (Nat.le_of_ble_eq_true rfl) dX5_settle_13 ⟨Nat.le_of_ble_eq_true rfl, Nat.le_of_ble_eq_true rfl⟩ (fun r u H locs hu2 hP hD hS => ?_)
      refine k_t1 (show r = nI 6 from hu2) ?_
      refine k_icmp_ge (tgt := 186) hx hb (by omega) (by omega) dX5_settle_16 (by decide) (fun c1 => ?_) (fun c1 => ?_)
      · skip
        obtain rfl : up = 6 := by omega
        have hst := st_n (n := n) (lf := L1 n) (wd := W1 n) (O := O1) hf
        have hE3 : (wM cI cZ cJ mo se co ou le wo ma pl tl tm th na si pa ta thr G ky DE cn got S0 C0 O0 L0 W0 S1 C1 O1 L1 W1 MP PL ML DL TH NM SZ PT TK) = (wM cI cZ cJ mo se co ou le wo ma pl tl tm th na si pa ta thr G ky DE cn got S0 C0 O0 L0 W0 (stS 32 6 l0 n (L1 n) (W1 n) S1) C1 O1 L1 W1 MP PL ML DL TH NM SZ PT TK) := by rw [hst.1]
        rw [hE3] at hP hD
        have hE4 : (wM cI cZ cJ mo se co ou le wo ma pl tl tm th na si pa ta thr G ky DE cn got S0 C0 O0 L0 W0 (stS 32 6 l0 n (L1 n) (W1 n) S1) C1 O1 L1 W1 MP PL ML DL TH NM SZ PT TK) = (wM cI cZ cJ mo se co ou le wo ma pl tl tm th na si pa ta thr G ky DE cn got S0 C0 O0 L0 W0 (stS 32 6 l0 n (L1 n) (W1 n) S1) C1 (stO 32 6 l0 n S1 O1) L1 W1 MP PL ML DL TH NM SZ PT TK) := by rw [hst.2]
        rw [hE4] at hP hD
        exact k_retv () hx hb hr hK hS hlk dX5_settle_186 hP hD (trivial) hQ
      · skip
        refine lv_aload_n hx hb dX5_settle_19 rfl (lv_at hl 0 rfl) ?_
        refine va_get (D := D) (ci := 5) (v := .ref ou) (C := RX5) (T := TX5) (N := 20) hx hb hts (by decide +kernel) hown hK hP 0 rfl rfl 7 (by decide) (hts (.fieldLink RX5 16 "VeiledFilesModel" "out" "[Z") (by decide +kernel)) (fun _ h9 => h9) rfl dX5_settle_20 ?_
        refine lv_iload_n hx hb dX5_settle_23 rfl (lv_at hl 3 rfl) ?_
        refine k_zald hx hb hK hP 3 1 rfl rfl (8 + n) (by omega) (by omega) (v := O1 n) (jn_1) dX5_settle_24 ?_
        refine lv_if_eq (tgt := 186) hx hb dX5_settle_25 (by decide) (fun c2 => ?_) (fun c2 => ?_)
        · skip
          exact absurd c2 hO
        · skip
          refine lv_bipush (v := nI 25) hx hb dX5_settle_28 (by decide) ?_
          refine lv_iload_n hx hb dX5_settle_30 rfl (lv_at hl 1 rfl) ?_
          refine lv_iload_n hx hb dX5_settle_31 rfl (lv_at hl 1 rfl) ?_
          refine lv_aload_n hx hb dX5_settle_32 rfl (lv_at hl 0 rfl) ?_
          refine va_get (D := D) (ci := 5) (v := .ref le) (C := RX5) (T := TX5) (N := 20) hx hb hts (by decide +kernel) hown hK hP 0 rfl rfl 8 (by decide) (hts (.fieldLink RX5 20 "VeiledFilesModel" "leaf" "[I") (by decide +kernel)) (fun _ h9 => h9) rfl dX5_settle_33 ?_
          refine lv_iload_n hx hb dX5_settle_36 rfl (lv_at hl 3 rfl) ?_
          refine k_iald hx hb hK hP 4 0 rfl rfl (8 + n) (by omega) (by omega) (v := nI l0) (jn_1.trans hLn) dX5_settle_37 ?_
          refine lv_iload hx hb dX5_settle_38 (lv_at hl 4 rfl) ?_
          refine k_si (As := [.int (nI 1), .int (nI l0), .int (nI up)]) (rest := [.int (nI 1), .int (nI 25)]) (w2 := fun u : Unit => (wM cI cZ cJ mo se co ou le wo ma pl tl tm th na si pa ta thr G ky DE cn got S0 C0 O0 L0 W0 S1 C1 O1 L1 W1 MP PL ML DL TH NM SZ PT TK)) ⟨hx, hb, hml, hown, hts⟩ (c_m_onPath1 l D cI cZ cJ  l0 up hl0 c1) (va_cwS 3 hts gX5_settle_X5_onPath rfl rfl rfl (by decide +kernel) ⟨Nat.le_of_ble_eq_true rfl, Nat.le_of_ble_eq_true rfl⟩) hP hD hK hS hA [] [0, 1, 2, 3, 4, 5, 6, 7, 8, 9, 10, 11, 12, 13, 14] [0, 1, 2, 3, 4, 5, 6, 7, 8, 9, 10, 11, 12, 13, 14] rfl rfl (by decide) (fun u => rfl) rfl hl.1 rfl (Nat.le_of_ble_eq_true rfl) dX5_settle_40 ⟨Nat.le_of_ble_eq_true rfl, Nat.le_of_ble_eq_true rfl⟩ (fun r u H locs hu5 hP hD hS => ?_)
          refine k_t1 (show r = nI (pathB 32 l0 up) from hu5) ?_
          have hpb : pathB 32 l0 up < 63 := pathB_lt tp1 hl0
          refine k_si (As := [.int (nI 1), .int (nI (pathB 32 l0 up))]) (rest := [.int (nI 25)]) (w2 := fun u : Unit => (wM cI cZ cJ mo se co ou le wo ma pl tl tm th na si pa ta thr G ky DE cn got S0 C0 O0 L0 W0 S1 C1 O1 L1 W1 MP PL ML DL TH NM SZ PT TK)) ⟨hx, hb, hml, hown, hts⟩ (c_m_place1 l D cI cZ cJ  (pathB 32 l0 up)) (va_cwS 2 hts gX5_settle_X5_place rfl rfl rfl (by decide +kernel) ⟨Nat.le_of_ble_eq_true rfl, Nat.le_of_ble_eq_true rfl⟩) hP hD hK hS hA [] [0, 1, 2, 3, 4, 5, 6, 7, 8, 9, 10, 11, 12, 13, 14] [0, 1, 2, 3, 4, 5, 6, 7, 8, 9, 10, 11, 12, 13, 14] rfl rfl (by decide) (fun u => rfl) rfl hl.1 rfl (Nat.le_of_ble_eq_true rfl) dX5_settle_43 ⟨Nat.le_of_ble_eq_true rfl, Nat.le_of_ble_eq_true rfl⟩ (fun r u H locs hu6 hP hD hS => ?_)
          refine k_t1 (show r = nI (7 + (pathB 32 l0 up)) from hu6) ?_
          refine lv_imul hx hb dX5_settle_46 ?_
          refine k_t1 (show (nI 25) * (nI (7 + (pathB 32 l0 up))) = nI (25 * (7 + (pathB 32 l0 up))) from pk_mul _ _) ?_
          refine lv_istore (lv' := [(5, .int (nI (25 * (7 + (pathB 32 l0 up))))), (0, .ref mo), (1, .int (nI 1)), (2, .int (nI n)), (3, .int (nI (8 + n))), (4, .int (nI up))]) hx hb dX5_settle_47 hl (by decide) rfl (fun ls hl => ?_)
          refine lv_iconst (v := nI 0) hx hb dX5_settle_49 (by decide) ?_
          refine lv_istore (lv' := [(6, .int (nI 0)), (5, .int (nI (25 * (7 + (pathB 32 l0 up))))), (0, .ref mo), (1, .int (nI 1)), (2, .int (nI n)), (3, .int (nI (8 + n))), (4, .int (nI up))]) hx hb dX5_settle_50 hl (by decide) rfl (fun ls hl => ?_)
          have L2l : ∀ (nf sl : Nat) (hvL2l : sl ≤ 4) (hFL2l : 4 - sl < nf) (hf2 : ∀ j, j < 4 * up + sl → ¬ S1 (pathB 32 l0 (j / 4)) (6 * (j % 4)) = 0) (H : Heap) (locs : List Loc) (ls : Array Slot), va_P D vwCl (wM cI cZ cJ mo se co ou le wo ma pl tl tm th na si pa ta thr G ky DE cn got S0 C0 O0 L0 W0 S1 C1 O1 L1 W1 MP PL ML DL TH NM SZ PT TK) H → va_D A (wM cI cZ cJ mo se co ou le wo ma pl tl tm th na si pa ta thr G ky DE cn got S0 C0 O0 L0 W0 S1 C1 O1 L1 W1 MP PL ML DL TH NM SZ PT TK) → va_S A s.heap H locs → lv_has ls 8 [(0, .ref mo), (1, .int (nI 1)), (2, .int (nI n)), (3, .int (nI (8 + n))), (4, .int (nI up)), (5, .int (nI (25 * (7 + (pathB 32 l0 up))))), (6, .int (nI sl))] → W p l e ({ frames := 2, cells := 0, slots := 0, locals := 44 } : Room) s m args below meth c H locs 0 0 Q (F0 m 52 ls []) := by
            intro nf
            induction nf with
            | zero => intro sl  hvL2l hFL2l; omega
            | succ nf ihL2l =>
              intro sl  hvL2l hFL2l hf2 H locs ls hP hD hS hl
              refine lv_iload hx hb dX5_settle_52 (lv_at hl 6 rfl) ?_
              refine lv_iconst (v := nI 4) hx hb dX5_settle_54 (by decide) ?_
              refine k_icmp_ge (tgt := 180) hx hb (by omega) (by omega) dX5_settle_55 (by decide) (fun c3 => ?_) (fun c3 => ?_)
              · skip
                obtain rfl : sl = 4 := by omega
                refine lv_iinc (v := nI (up + 1)) (lv' := [(4, .int (nI (up + 1))), (0, .ref mo), (1, .int (nI 1)), (2, .int (nI n)), (3, .int (nI (8 + n))), (5, .int (nI (25 * (7 + (pathB 32 l0 up))))), (6, .int (nI 4))]) hx hb dX5_settle_180 hl (k := 4) rfl (nI_add up 1) (by decide) rfl (fun ls hl => ?_)
                refine lv_goto (tgt := 10) hx hb dX5_settle_183 (by decide) ?_
                exact ihL1l (up + 1)  (by omega) (by omega) hf2 _ _ _ hP hD hS (lv_sub hl [1, 2, 3, 4, 0] rfl)
              · skip
                refine lv_aload_n hx hb dX5_settle_58 rfl (lv_at hl 0 rfl) ?_
                refine va_get (D := D) (ci := 5) (v := .ref ou) (C := RX5) (T := TX5) (N := 20) hx hb hts (by decide +kernel) hown hK hP 0 rfl rfl 7 (by decide) (hts (.fieldLink RX5 16 "VeiledFilesModel" "out" "[Z") (by decide +kernel)) (fun _ h9 => h9) rfl dX5_settle_59 ?_
                refine lv_iload_n hx hb dX5_settle_62 rfl (lv_at hl 3 rfl) ?_
                refine k_zald hx hb hK hP 3 1 rfl rfl (8 + n) (by omega) (by omega) (v := O1 n) (jn_1) dX5_settle_63 ?_
                refine lv_if_eq (tgt := 180) hx hb dX5_settle_64 (by decide) (fun c4 => ?_) (fun c4 => ?_)
                · skip
                  exact absurd c4 hO
                · skip
                  refine lv_aload_n hx hb dX5_settle_67 rfl (lv_at hl 0 rfl) ?_
                  refine va_get (D := D) (ci := 5) (v := .ref se) (C := RX5) (T := TX5) (N := 20) hx hb hts (by decide +kernel) hown hK hP 0 rfl rfl 5 (by decide) (hts (.fieldLink RX5 7 "VeiledFilesModel" "sealed" "[I") (by decide +kernel)) (fun _ h9 => h9) rfl dX5_settle_68 ?_
                  refine lv_iload hx hb dX5_settle_71 (lv_at hl 5 rfl) ?_
                  refine lv_bipush (v := nI 6) hx hb dX5_settle_73 (by decide) ?_
                  refine lv_iload hx hb dX5_settle_75 (lv_at hl 6 rfl) ?_
                  refine lv_imul hx hb dX5_settle_77 ?_
                  refine k_t1 (show (nI 6) * (nI sl) = nI (6 * sl) from pk_mul _ _) ?_
                  refine lv_iadd hx hb dX5_settle_78 ?_
                  refine k_t1 (show (nI (25 * (7 + (pathB 32 l0 up)))) + (nI (6 * sl)) = nI (25 * (7 + (pathB 32 l0 up)) + (6 * sl)) from nI_add _ _) ?_
                  refine k_iald hx hb hK hP 1 0 rfl rfl (25 * (7 + (pathB 32 l0 up)) + (6 * sl)) (by omega) (by omega) (v := S1 (pathB 32 l0 up) (6 * sl)) (rS1 (p := (pathB 32 l0 up)) (i := 6 * sl) (by omega) (by omega)) dX5_settle_79 ?_
                  refine lv_if_eq (tgt := 86) hx hb dX5_settle_80 (by decide) (fun c5 => ?_) (fun c5 => ?_)
                  · skip
                    refine lv_aload_n hx hb dX5_settle_86 rfl (lv_at hl 0 rfl) ?_
                    refine va_get (D := D) (ci := 5) (v := .ref se) (C := RX5) (T := TX5) (N := 20) hx hb hts (by decide +kernel) hown hK hP 0 rfl rfl 5 (by decide) (hts (.fieldLink RX5 7 "VeiledFilesModel" "sealed" "[I") (by decide +kernel)) (fun _ h9 => h9) rfl dX5_settle_87 ?_
                    refine lv_iload hx hb dX5_settle_90 (lv_at hl 5 rfl) ?_
                    refine lv_bipush (v := nI 6) hx hb dX5_settle_92 (by decide) ?_
                    refine lv_iload hx hb dX5_settle_94 (lv_at hl 6 rfl) ?_
                    refine lv_imul hx hb dX5_settle_96 ?_
                    refine k_t1 (show (nI 6) * (nI sl) = nI (6 * sl) from pk_mul _ _) ?_
                    refine lv_iadd hx hb dX5_settle_97 ?_
                    refine k_t1 (show (nI (25 * (7 + (pathB 32 l0 up)))) + (nI (6 * sl)) = nI (25 * (7 + (pathB 32 l0 up)) + (6 * sl)) from nI_add _ _) ?_
                    refine lv_iload_n hx hb dX5_settle_98 rfl (lv_at hl 2 rfl) ?_
                    refine lv_iconst (v := nI 1) hx hb dX5_settle_99 (by decide) ?_
                    refine lv_iadd hx hb dX5_settle_100 ?_
                    refine k_t1 (show (nI n) + (nI 1) = nI (n + 1) from nI_add _ _) ?_
                    have hE7 : (wM cI cZ cJ mo se co ou le wo ma pl tl tm th na si pa ta thr G ky DE cn got S0 C0 O0 L0 W0 S1 C1 O1 L1 W1 MP PL ML DL TH NM SZ PT TK) = (wM cI cZ cJ mo se co ou le wo ma pl tl tm th na si pa ta thr G ky DE cn got S0 C0 O0 L0 W0 (setRow S1 (pathB 32 l0 up) (putK (S1 (pathB 32 l0 up)) sl n (L1 n) (W1 n) 0)) C1 O1 L1 W1 MP PL ML DL TH NM SZ PT TK) := by rw [putK_0, setRow_id]
                    rw [hE7] at hP hD
                    refine k_iast hx hb hK hP hD hS 1 0 rfl rfl (25 * (7 + (pathB 32 l0 up)) + (6 * sl)) (by omega) (by omega) (g := fl25 (jn 7 S0 (setRow S1 (pathB 32 l0 up) (putK (S1 (pathB 32 l0 up)) sl n (L1 n) (W1 n) 1)))) ((uS1 (p := (pathB 32 l0 up)) (i := 6 * sl + 0) (by omega) (by omega)).trans (by rw [setRow_s, setRow_2, putK_s (k := 0) sloV_0])) dX5_settle_101 (fun H locs hP hD hS => ?_)
                    have hP : va_P D vwCl (wM cI cZ cJ mo se co ou le wo ma pl tl tm th na si pa ta thr G ky DE cn got S0 C0 O0 L0 W0 (setRow S1 (pathB 32 l0 up) (putK (S1 (pathB 32 l0 up)) sl n (L1 n) (W1 n) 1)) C1 O1 L1 W1 MP PL ML DL TH NM SZ PT TK) _ := hP
                    have hD : va_D A (wM cI cZ cJ mo se co ou le wo ma pl tl tm th na si pa ta thr G ky DE cn got S0 C0 O0 L0 W0 (setRow S1 (pathB 32 l0 up) (putK (S1 (pathB 32 l0 up)) sl n (L1 n) (W1 n) 1)) C1 O1 L1 W1 MP PL ML DL TH NM SZ PT TK) := hD
                    refine lv_aload_n hx hb dX5_settle_102 rfl (lv_at hl 0 rfl) ?_
                    refine va_get (D := D) (ci := 5) (v := .ref se) (C := RX5) (T := TX5) (N := 20) hx hb hts (by decide +kernel) hown hK hP 0 rfl rfl 5 (by decide) (hts (.fieldLink RX5 7 "VeiledFilesModel" "sealed" "[I") (by decide +kernel)) (fun _ h9 => h9) rfl dX5_settle_103 ?_
                    refine lv_iload hx hb dX5_settle_106 (lv_at hl 5 rfl) ?_
                    refine lv_bipush (v := nI 6) hx hb dX5_settle_108 (by decide) ?_
                    refine lv_iload hx hb dX5_settle_110 (lv_at hl 6 rfl) ?_
                    refine lv_imul hx hb dX5_settle_112 ?_
                    refine k_t1 (show (nI 6) * (nI sl) = nI (6 * sl) from pk_mul _ _) ?_
                    refine lv_iadd hx hb dX5_settle_113 ?_
                    refine k_t1 (show (nI (25 * (7 + (pathB 32 l0 up)))) + (nI (6 * sl)) = nI (25 * (7 + (pathB 32 l0 up)) + (6 * sl)) from nI_add _ _) ?_
                    refine lv_iconst (v := nI 1) hx hb dX5_settle_114 (by decide) ?_
                    refine lv_iadd hx hb dX5_settle_115 ?_
                    refine k_t1 (show (nI (25 * (7 + (pathB 32 l0 up)) + (6 * sl))) + (nI 1) = nI (25 * (7 + (pathB 32 l0 up)) + (6 * sl) + 1) from nI_add _ _) ?_
                    refine lv_aload_n hx hb dX5_settle_116 rfl (lv_at hl 0 rfl) ?_
                    refine va_get (D := D) (ci := 5) (v := .ref le) (C := RX5) (T := TX5) (N := 20) hx hb hts (by decide +kernel) hown hK hP 0 rfl rfl 8 (by decide) (hts (.fieldLink RX5 20 "VeiledFilesModel" "leaf" "[I") (by decide +kernel)) (fun _ h9 => h9) rfl dX5_settle_117 ?_
                    refine lv_iload_n hx hb dX5_settle_120 rfl (lv_at hl 3 rfl) ?_
                    refine k_iald hx hb hK hP 4 0 rfl rfl (8 + n) (by omega) (by omega) (v := L1 n) (jn_1) dX5_settle_121 ?_
                    refine k_iast hx hb hK hP hD hS 1 0 rfl rfl (25 * (7 + (pathB 32 l0 up)) + (6 * sl) + 1) (by omega) (by omega) (g := fl25 (jn 7 S0 (setRow S1 (pathB 32 l0 up) (putK (S1 (pathB 32 l0 up)) sl n (L1 n) (W1 n) (2 + 0))))) ((uS1 (p := (pathB 32 l0 up)) (i := 6 * sl + 1) (by omega) (by omega)).trans (by rw [setRow_s, setRow_2, putK_s (k := 1) sloV_1])) dX5_settle_122 (fun H locs hP hD hS => ?_)
                    have hP : va_P D vwCl (wM cI cZ cJ mo se co ou le wo ma pl tl tm th na si pa ta thr G ky DE cn got S0 C0 O0 L0 W0 (setRow S1 (pathB 32 l0 up) (putK (S1 (pathB 32 l0 up)) sl n (L1 n) (W1 n) (2 + 0))) C1 O1 L1 W1 MP PL ML DL TH NM SZ PT TK) _ := hP
                    have hD : va_D A (wM cI cZ cJ mo se co ou le wo ma pl tl tm th na si pa ta thr G ky DE cn got S0 C0 O0 L0 W0 (setRow S1 (pathB 32 l0 up) (putK (S1 (pathB 32 l0 up)) sl n (L1 n) (W1 n) (2 + 0))) C1 O1 L1 W1 MP PL ML DL TH NM SZ PT TK) := hD
                    refine lv_iconst (v := nI 0) hx hb dX5_settle_123 (by decide) ?_
                    refine lv_istore (lv' := [(7, .int (nI 0)), (0, .ref mo), (1, .int (nI 1)), (2, .int (nI n)), (3, .int (nI (8 + n))), (4, .int (nI up)), (5, .int (nI (25 * (7 + (pathB 32 l0 up))))), (6, .int (nI sl))]) hx hb dX5_settle_124 hl (by decide) rfl (fun ls hl => ?_)
                    have L3l : ∀ (nf k : Nat) (hvL3l : k ≤ 4) (hFL3l : 4 - k < nf) (H : Heap) (locs : List Loc) (ls : Array Slot), va_P D vwCl (wM cI cZ cJ mo se co ou le wo ma pl tl tm th na si pa ta thr G ky DE cn got S0 C0 O0 L0 W0 (setRow S1 (pathB 32 l0 up) (putK (S1 (pathB 32 l0 up)) sl n (L1 n) (W1 n) (2 + k))) C1 O1 L1 W1 MP PL ML DL TH NM SZ PT TK) H → va_D A (wM cI cZ cJ mo se co ou le wo ma pl tl tm th na si pa ta thr G ky DE cn got S0 C0 O0 L0 W0 (setRow S1 (pathB 32 l0 up) (putK (S1 (pathB 32 l0 up)) sl n (L1 n) (W1 n) (2 + k))) C1 O1 L1 W1 MP PL ML DL TH NM SZ PT TK) → va_S A s.heap H locs → lv_has ls 8 [(0, .ref mo), (1, .int (nI 1)), (2, .int (nI n)), (3, .int (nI (8 + n))), (4, .int (nI up)), (5, .int (nI (25 * (7 + (pathB 32 l0 up))))), (6, .int (nI sl)), (7, .int (nI k))] → W p l e ({ frames := 2, cells := 0, slots := 0, locals := 44 } : Room) s m args below meth c H locs 0 0 Q (F0 m 126 ls []) := by
                      intro nf
                      induction nf with
                      | zero => intro k  hvL3l hFL3l; omega
                      | succ nf ihL3l =>
                        intro k  hvL3l hFL3l  H locs ls hP hD hS hl
                        refine lv_iload hx hb dX5_settle_126 (lv_at hl 7 rfl) ?_
                        refine lv_iconst (v := nI 4) hx hb dX5_settle_128 (by decide) ?_
                        refine k_icmp_ge (tgt := 167) hx hb (by omega) (by omega) dX5_settle_129 (by decide) (fun c6 => ?_) (fun c6 => ?_)
                        · skip
                          obtain rfl : k = 4 := by omega
                          have hP : va_P D vwCl (wM cI cZ cJ mo se co ou le wo ma pl tl tm th na si pa ta thr G ky DE cn got S0 C0 O0 L0 W0 (setRow S1 (pathB 32 l0 up) (putR (S1 (pathB 32 l0 up)) sl n (L1 n) (W1 n))) C1 O1 L1 W1 MP PL ML DL TH NM SZ PT TK) _ := hP
                          have hD : va_D A (wM cI cZ cJ mo se co ou le wo ma pl tl tm th na si pa ta thr G ky DE cn got S0 C0 O0 L0 W0 (setRow S1 (pathB 32 l0 up) (putR (S1 (pathB 32 l0 up)) sl n (L1 n) (W1 n))) C1 O1 L1 W1 MP PL ML DL TH NM SZ PT TK) := hD
                          refine lv_aload_n hx hb dX5_settle_167 rfl (lv_at hl 0 rfl) ?_
                          refine va_get (D := D) (ci := 5) (v := .ref ou) (C := RX5) (T := TX5) (N := 20) hx hb hts (by decide +kernel) hown hK hP 0 rfl rfl 7 (by decide) (hts (.fieldLink RX5 16 "VeiledFilesModel" "out" "[Z") (by decide +kernel)) (fun _ h9 => h9) rfl dX5_settle_168 ?_
                          refine lv_iload_n hx hb dX5_settle_171 rfl (lv_at hl 3 rfl) ?_
                          refine lv_iconst (v := nI 0) hx hb dX5_settle_172 (by decide) ?_
                          refine k_zast hx hb hK hP hD hS 3 1 rfl rfl (8 + n) (by omega) (by omega) (g := jn 8 O0 (upd O1 n 0)) (jn_u1) (by first | rfl | decide) dX5_settle_173 (fun H locs hP hD hS => ?_)
                          have hP : va_P D vwCl (wM cI cZ cJ mo se co ou le wo ma pl tl tm th na si pa ta thr G ky DE cn got S0 C0 O0 L0 W0 (setRow S1 (pathB 32 l0 up) (putR (S1 (pathB 32 l0 up)) sl n (L1 n) (W1 n))) C1 (upd O1 n 0) L1 W1 MP PL ML DL TH NM SZ PT TK) _ := hP
                          have hD : va_D A (wM cI cZ cJ mo se co ou le wo ma pl tl tm th na si pa ta thr G ky DE cn got S0 C0 O0 L0 W0 (setRow S1 (pathB 32 l0 up) (putR (S1 (pathB 32 l0 up)) sl n (L1 n) (W1 n))) C1 (upd O1 n 0) L1 W1 MP PL ML DL TH NM SZ PT TK) := hD
                          refine lv_iinc (v := nI (sl + 1)) (lv' := [(6, .int (nI (sl + 1))), (0, .ref mo), (1, .int (nI 1)), (2, .int (nI n)), (3, .int (nI (8 + n))), (4, .int (nI up)), (5, .int (nI (25 * (7 + (pathB 32 l0 up))))), (7, .int (nI 4))]) hx hb dX5_settle_174 hl (k := 6) rfl (nI_add sl 1) (by decide) rfl (fun ls hl => ?_)
                          refine lv_goto (tgt := 52) hx hb dX5_settle_177 (by decide) ?_
                          have hst := st_y (n := n) (lf := L1 n) (wd := W1 n) (O := O1) c1 c3 c5 hf2
                          have hu0 : upd O1 n 0 n = 0 := pk_us
                          refine lv_iload hx hb dX5_settle_52 (lv_at hl 0 rfl) ?_
                          refine lv_iconst (v := nI 4) hx hb dX5_settle_54 (by decide) ?_
                          refine k_icmp_ge (tgt := 180) hx hb (by omega) (by omega) dX5_settle_55 (by decide) (fun c7 => ?_) (fun c7 => ?_)
                          · skip
                            refine lv_iinc (v := nI (up + 1)) (lv' := [(4, .int (nI (up + 1))), (6, .int (nI (sl + 1))), (0, .ref mo), (1, .int (nI 1)), (2, .int (nI n)), (3, .int (nI (8 + n))), (5, .int (nI (25 * (7 + (pathB 32 l0 up))))), (7, .int (nI 4))]) hx hb dX5_settle_180 hl (k := 5) rfl (nI_add up 1) (by decide) rfl (fun ls hl => ?_)
                            refine lv_goto (tgt := 10) hx hb dX5_settle_183 (by decide) ?_
                            refine lv_iload hx hb dX5_settle_10 (lv_at hl 0 rfl) ?_
                            refine lv_iload_n hx hb dX5_settle_12 rfl (lv_at hl 3 rfl) ?_
                            refine k_si (As := [.int (nI 1)]) (rest := [.int (nI (up + 1))]) (w2 := fun u : Unit => (wM cI cZ cJ mo se co ou le wo ma pl tl tm th na si pa ta thr G ky DE cn got S0 C0 O0 L0 W0 (setRow S1 (pathB 32 l0 up) (putR (S1 (pathB 32 l0 up)) sl n (L1 n) (W1 n))) C1 (upd O1 n 0) L1 W1 MP PL ML DL TH NM SZ PT TK)) ⟨hx, hb, hml, hown, hts⟩ (c_m_levels1 l D cI cZ cJ  ) (va_cwS 1 hts gX5_settle_X5_levels rfl rfl rfl (by decide +kernel) ⟨Nat.le_of_ble_eq_true rfl, Nat.le_of_ble_eq_true rfl⟩) hP hD hK hS hA [] [0, 1, 2, 3, 4, 5, 6, 7, 8, 9, 10, 11, 12, 13, 14] [0, 1, 2, 3, 4, 5, 6, 7, 8, 9, 10, 11, 12, 13, 14] rfl rfl (by decide) (fun u => rfl) rfl hl.1 rfl (Nat.le_of_ble_eq_true rfl) dX5_settle_13 ⟨Nat.le_of_ble_eq_true rfl, Nat.le_of_ble_eq_true rfl⟩ (fun r u H locs hu8 hP hD hS => ?_)
                            refine k_t1 (show r = nI 6 from hu8) ?_
                            refine k_icmp_ge (tgt := 186) hx hb (by omega) (by omega) dX5_settle_16 (by decide) (fun c8 => ?_) (fun c8 => ?_)
                            · skip
                              have hE9 : (wM cI cZ cJ mo se co ou le wo ma pl tl tm th na si pa ta thr G ky DE cn got S0 C0 O0 L0 W0 (setRow S1 (pathB 32 l0 up) (putR (S1 (pathB 32 l0 up)) sl n (L1 n) (W1 n))) C1 (upd O1 n 0) L1 W1 MP PL ML DL TH NM SZ PT TK) = (wM cI cZ cJ mo se co ou le wo ma pl tl tm th na si pa ta thr G ky DE cn got S0 C0 O0 L0 W0 (stS 32 6 l0 n (L1 n) (W1 n) S1) C1 (upd O1 n 0) L1 W1 MP PL ML DL TH NM SZ PT TK) := by rw [hst.1]
                              rw [hE9] at hP hD
                              have hE10 : (wM cI cZ cJ mo se co ou le wo ma pl tl tm th na si pa ta thr G ky DE cn got S0 C0 O0 L0 W0 (stS 32 6 l0 n (L1 n) (W1 n) S1) C1 (upd O1 n 0) L1 W1 MP PL ML DL TH NM SZ PT TK) = (wM cI cZ cJ mo se co ou le wo ma pl tl tm th na si pa ta thr G ky DE cn got S0 C0 O0 L0 W0 (stS 32 6 l0 n (L1 n) (W1 n) S1) C1 (stO 32 6 l0 n S1 O1) L1 W1 MP PL ML DL TH NM SZ PT TK) := by rw [hst.2]
                              rw [hE10] at hP hD
                              exact k_retv () hx hb hr hK hS hlk dX5_settle_186 hP hD (trivial) hQ
                            · skip
                              refine lv_aload_n hx hb dX5_settle_19 rfl (lv_at hl 2 rfl) ?_
                              refine va_get (D := D) (ci := 5) (v := .ref ou) (C := RX5) (T := TX5) (N := 20) hx hb hts (by decide +kernel) hown hK hP 0 rfl rfl 7 (by decide) (hts (.fieldLink RX5 16 "VeiledFilesModel" "out" "[Z") (by decide +kernel)) (fun _ h9 => h9) rfl dX5_settle_20 ?_
                              refine lv_iload_n hx hb dX5_settle_23 rfl (lv_at hl 5 rfl) ?_
                              refine k_zald hx hb hK hP 3 1 rfl rfl (8 + n) (by omega) (by omega) (v := 0) (jn_1.trans hu0) dX5_settle_24 ?_
                              refine lv_if_eq (tgt := 186) hx hb dX5_settle_25 (by decide) (fun c9 => ?_) (fun c9 => ?_)
                              · skip
                                have hE11 : (wM cI cZ cJ mo se co ou le wo ma pl tl tm th na si pa ta thr G ky DE cn got S0 C0 O0 L0 W0 (setRow S1 (pathB 32 l0 up) (putR (S1 (pathB 32 l0 up)) sl n (L1 n) (W1 n))) C1 (upd O1 n 0) L1 W1 MP PL ML DL TH NM SZ PT TK) = (wM cI cZ cJ mo se co ou le wo ma pl tl tm th na si pa ta thr G ky DE cn got S0 C0 O0 L0 W0 (stS 32 6 l0 n (L1 n) (W1 n) S1) C1 (upd O1 n 0) L1 W1 MP PL ML DL TH NM SZ PT TK) := by rw [hst.1]
                                rw [hE11] at hP hD
                                have hE12 : (wM cI cZ cJ mo se co ou le wo ma pl tl tm th na si pa ta thr G ky DE cn got S0 C0 O0 L0 W0 (stS 32 6 l0 n (L1 n) (W1 n) S1) C1 (upd O1 n 0) L1 W1 MP PL ML DL TH NM SZ PT TK) = (wM cI cZ cJ mo se co ou le wo ma pl tl tm th na si pa ta thr G ky DE cn got S0 C0 O0 L0 W0 (stS 32 6 l0 n (L1 n) (W1 n) S1) C1 (stO 32 6 l0 n S1 O1) L1 W1 MP PL ML DL TH NM SZ PT TK) := by rw [hst.2]
                                rw [hE12] at hP hD
                                exact k_retv () hx hb hr hK hS hlk dX5_settle_186 hP hD (trivial) hQ
                              · skip
                                exact absurd rfl c9
                          · skip
                            refine lv_aload_n hx hb dX5_settle_58 rfl (lv_at hl 1 rfl) ?_
                            refine va_get (D := D) (ci := 5) (v := .ref ou) (C := RX5) (T := TX5) (N := 20) hx hb hts (by decide +kernel) hown hK hP 0 rfl rfl 7 (by decide) (hts (.fieldLink RX5 16 "VeiledFilesModel" "out" "[Z") (by decide +kernel)) (fun _ h9 => h9) rfl dX5_settle_59 ?_
                            refine lv_iload_n hx hb dX5_settle_62 rfl (lv_at hl 4 rfl) ?_
                            refine k_zald hx hb hK hP 3 1 rfl rfl (8 + n) (by omega) (by omega) (v := 0) (jn_1.trans hu0) dX5_settle_63 ?_
                            refine lv_if_eq (tgt := 180) hx hb dX5_settle_64 (by decide) (fun ca => ?_) (fun ca => ?_)
                            · skip
                              refine lv_iinc (v := nI (up + 1)) (lv' := [(4, .int (nI (up + 1))), (6, .int (nI (sl + 1))), (0, .ref mo), (1, .int (nI 1)), (2, .int (nI n)), (3, .int (nI (8 + n))), (5, .int (nI (25 * (7 + (pathB 32 l0 up))))), (7, .int (nI 4))]) hx hb dX5_settle_180 hl (k := 5) rfl (nI_add up 1) (by decide) rfl (fun ls hl => ?_)
                              refine lv_goto (tgt := 10) hx hb dX5_settle_183 (by decide) ?_
                              refine lv_iload hx hb dX5_settle_10 (lv_at hl 0 rfl) ?_
                              refine lv_iload_n hx hb dX5_settle_12 rfl (lv_at hl 3 rfl) ?_
                              refine k_si (As := [.int (nI 1)]) (rest := [.int (nI (up + 1))]) (w2 := fun u : Unit => (wM cI cZ cJ mo se co ou le wo ma pl tl tm th na si pa ta thr G ky DE cn got S0 C0 O0 L0 W0 (setRow S1 (pathB 32 l0 up) (putR (S1 (pathB 32 l0 up)) sl n (L1 n) (W1 n))) C1 (upd O1 n 0) L1 W1 MP PL ML DL TH NM SZ PT TK)) ⟨hx, hb, hml, hown, hts⟩ (c_m_levels1 l D cI cZ cJ  ) (va_cwS 1 hts gX5_settle_X5_levels rfl rfl rfl (by decide +kernel) ⟨Nat.le_of_ble_eq_true rfl, Nat.le_of_ble_eq_true rfl⟩) hP hD hK hS hA [] [0, 1, 2, 3, 4, 5, 6, 7, 8, 9, 10, 11, 12, 13, 14] [0, 1, 2, 3, 4, 5, 6, 7, 8, 9, 10, 11, 12, 13, 14] rfl rfl (by decide) (fun u => rfl) rfl hl.1 rfl (Nat.le_of_ble_eq_true rfl) dX5_settle_13 ⟨Nat.le_of_ble_eq_true rfl, Nat.le_of_ble_eq_true rfl⟩ (fun r u H locs hu13 hP hD hS => ?_)
                              refine k_t1 (show r = nI 6 from hu13) ?_
                              refine k_icmp_ge (tgt := 186) hx hb (by omega) (by omega) dX5_settle_16 (by decide) (fun c8 => ?_) (fun c8 => ?_)
                              · skip
                                have hE14 : (wM cI cZ cJ mo se co ou le wo ma pl tl tm th na si pa ta thr G ky DE cn got S0 C0 O0 L0 W0 (setRow S1 (pathB 32 l0 up) (putR (S1 (pathB 32 l0 up)) sl n (L1 n) (W1 n))) C1 (upd O1 n 0) L1 W1 MP PL ML DL TH NM SZ PT TK) = (wM cI cZ cJ mo se co ou le wo ma pl tl tm th na si pa ta thr G ky DE cn got S0 C0 O0 L0 W0 (stS 32 6 l0 n (L1 n) (W1 n) S1) C1 (upd O1 n 0) L1 W1 MP PL ML DL TH NM SZ PT TK) := by rw [hst.1]
                                rw [hE14] at hP hD
                                have hE15 : (wM cI cZ cJ mo se co ou le wo ma pl tl tm th na si pa ta thr G ky DE cn got S0 C0 O0 L0 W0 (stS 32 6 l0 n (L1 n) (W1 n) S1) C1 (upd O1 n 0) L1 W1 MP PL ML DL TH NM SZ PT TK) = (wM cI cZ cJ mo se co ou le wo ma pl tl tm th na si pa ta thr G ky DE cn got S0 C0 O0 L0 W0 (stS 32 6 l0 n (L1 n) (W1 n) S1) C1 (stO 32 6 l0 n S1 O1) L1 W1 MP PL ML DL TH NM SZ PT TK) := by rw [hst.2]
                                rw [hE15] at hP hD
                                exact k_retv () hx hb hr hK hS hlk dX5_settle_186 hP hD (trivial) hQ
                              · skip
                                refine lv_aload_n hx hb dX5_settle_19 rfl (lv_at hl 2 rfl) ?_
                                refine va_get (D := D) (ci := 5) (v := .ref ou) (C := RX5) (T := TX5) (N := 20) hx hb hts (by decide +kernel) hown hK hP 0 rfl rfl 7 (by decide) (hts (.fieldLink RX5 16 "VeiledFilesModel" "out" "[Z") (by decide +kernel)) (fun _ h9 => h9) rfl dX5_settle_20 ?_
                                refine lv_iload_n hx hb dX5_settle_23 rfl (lv_at hl 5 rfl) ?_
                                refine k_zald hx hb hK hP 3 1 rfl rfl (8 + n) (by omega) (by omega) (v := 0) (jn_1.trans hu0) dX5_settle_24 ?_
                                refine lv_if_eq (tgt := 186) hx hb dX5_settle_25 (by decide) (fun c9 => ?_) (fun c9 => ?_)
                                · skip
                                  have hE16 : (wM cI cZ cJ mo se co ou le wo ma pl tl tm th na si pa ta thr G ky DE cn got S0 C0 O0 L0 W0 (setRow S1 (pathB 32 l0 up) (putR (S1 (pathB 32 l0 up)) sl n (L1 n) (W1 n))) C1 (upd O1 n 0) L1 W1 MP PL ML DL TH NM SZ PT TK) = (wM cI cZ cJ mo se co ou le wo ma pl tl tm th na si pa ta thr G ky DE cn got S0 C0 O0 L0 W0 (stS 32 6 l0 n (L1 n) (W1 n) S1) C1 (upd O1 n 0) L1 W1 MP PL ML DL TH NM SZ PT TK) := by rw [hst.1]
                                  rw [hE16] at hP hD
                                  have hE17 : (wM cI cZ cJ mo se co ou le wo ma pl tl tm th na si pa ta thr G ky DE cn got S0 C0 O0 L0 W0 (stS 32 6 l0 n (L1 n) (W1 n) S1) C1 (upd O1 n 0) L1 W1 MP PL ML DL TH NM SZ PT TK) = (wM cI cZ cJ mo se co ou le wo ma pl tl tm th na si pa ta thr G ky DE cn got S0 C0 O0 L0 W0 (stS 32 6 l0 n (L1 n) (W1 n) S1) C1 (stO 32 6 l0 n S1 O1) L1 W1 MP PL ML DL TH NM SZ PT TK) := by rw [hst.2]
                                  rw [hE17] at hP hD
                                  exact k_retv () hx hb hr hK hS hlk dX5_settle_186 hP hD (trivial) hQ
                                · skip
                                  exact absurd rfl c9
                            · skip
                              exact absurd rfl ca
                        · skip
                          refine lv_aload_n hx hb dX5_settle_132 rfl (lv_at hl 0 rfl) ?_
                          refine va_get (D := D) (ci := 5) (v := .ref se) (C := RX5) (T := TX5) (N := 20) hx hb hts (by decide +kernel) hown hK hP 0 rfl rfl 5 (by decide) (hts (.fieldLink RX5 7 "VeiledFilesModel" "sealed" "[I") (by decide +kernel)) (fun _ h9 => h9) rfl dX5_settle_133 ?_
                          refine lv_iload hx hb dX5_settle_136 (lv_at hl 5 rfl) ?_
                          refine lv_bipush (v := nI 6) hx hb dX5_settle_138 (by decide) ?_
                          refine lv_iload hx hb dX5_settle_140 (lv_at hl 6 rfl) ?_
                          refine lv_imul hx hb dX5_settle_142 ?_
                          refine k_t1 (show (nI 6) * (nI sl) = nI (6 * sl) from pk_mul _ _) ?_
                          refine lv_iadd hx hb dX5_settle_143 ?_
                          refine k_t1 (show (nI (25 * (7 + (pathB 32 l0 up)))) + (nI (6 * sl)) = nI (25 * (7 + (pathB 32 l0 up)) + (6 * sl)) from nI_add _ _) ?_
                          refine lv_iconst (v := nI 2) hx hb dX5_settle_144 (by decide) ?_
                          refine lv_iadd hx hb dX5_settle_145 ?_
                          refine k_t1 (show (nI (25 * (7 + (pathB 32 l0 up)) + (6 * sl))) + (nI 2) = nI (25 * (7 + (pathB 32 l0 up)) + (6 * sl) + 2) from nI_add _ _) ?_
                          refine lv_iload hx hb dX5_settle_146 (lv_at hl 7 rfl) ?_
                          refine lv_iadd hx hb dX5_settle_148 ?_
                          refine k_t1 (show (nI (25 * (7 + (pathB 32 l0 up)) + (6 * sl) + 2)) + (nI k) = nI (25 * (7 + (pathB 32 l0 up)) + (6 * sl) + 2 + k) from nI_add _ _) ?_
                          refine lv_aload_n hx hb dX5_settle_149 rfl (lv_at hl 0 rfl) ?_
                          refine va_get (D := D) (ci := 5) (v := .ref wo) (C := RX5) (T := TX5) (N := 20) hx hb hts (by decide +kernel) hown hK hP 0 rfl rfl 9 (by decide) (hts (.fieldLink RX5 23 "VeiledFilesModel" "words" "[I") (by decide +kernel)) (fun _ h9 => h9) rfl dX5_settle_150 ?_
                          refine lv_iconst (v := nI 4) hx hb dX5_settle_153 (by decide) ?_
                          refine lv_iload_n hx hb dX5_settle_154 rfl (lv_at hl 3 rfl) ?_
                          refine lv_imul hx hb dX5_settle_155 ?_
                          refine k_t1 (show (nI 4) * (nI (8 + n)) = nI (4 * (8 + n)) from pk_mul _ _) ?_
                          refine lv_iload hx hb dX5_settle_156 (lv_at hl 7 rfl) ?_
                          refine lv_iadd hx hb dX5_settle_158 ?_
                          refine k_t1 (show (nI (4 * (8 + n))) + (nI k) = nI (4 * (8 + n) + k) from nI_add _ _) ?_
                          refine k_iald hx hb hK hP 5 0 rfl rfl (4 * (8 + n) + k) (by omega) (by omega) (v := W1 n k) (rW1 (p := n) (by omega) (by omega)) dX5_settle_159 ?_
                          refine k_iast hx hb hK hP hD hS 1 0 rfl rfl (25 * (7 + (pathB 32 l0 up)) + (6 * sl) + 2 + k) (by omega) (by omega) (g := fl25 (jn 7 S0 (setRow S1 (pathB 32 l0 up) (putK (S1 (pathB 32 l0 up)) sl n (L1 n) (W1 n) (2 + (k + 1)))))) ((uS1 (p := (pathB 32 l0 up)) (i := 6 * sl + (2 + k)) (by omega) (by omega)).trans (by rw [setRow_s, setRow_2, putK_s (k := 2 + k) sloV_2]; rfl)) dX5_settle_160 (fun H locs hP hD hS => ?_)
                          have hP : va_P D vwCl (wM cI cZ cJ mo se co ou le wo ma pl tl tm th na si pa ta thr G ky DE cn got S0 C0 O0 L0 W0 (setRow S1 (pathB 32 l0 up) (putK (S1 (pathB 32 l0 up)) sl n (L1 n) (W1 n) (2 + (k + 1)))) C1 O1 L1 W1 MP PL ML DL TH NM SZ PT TK) _ := hP
                          have hD : va_D A (wM cI cZ cJ mo se co ou le wo ma pl tl tm th na si pa ta thr G ky DE cn got S0 C0 O0 L0 W0 (setRow S1 (pathB 32 l0 up) (putK (S1 (pathB 32 l0 up)) sl n (L1 n) (W1 n) (2 + (k + 1)))) C1 O1 L1 W1 MP PL ML DL TH NM SZ PT TK) := hD
                          refine lv_iinc (v := nI (k + 1)) (lv' := [(7, .int (nI (k + 1))), (0, .ref mo), (1, .int (nI 1)), (2, .int (nI n)), (3, .int (nI (8 + n))), (4, .int (nI up)), (5, .int (nI (25 * (7 + (pathB 32 l0 up))))), (6, .int (nI sl))]) hx hb dX5_settle_161 hl (k := 7) rfl (nI_add k 1) (by decide) rfl (fun ls hl => ?_)
                          refine lv_goto (tgt := 126) hx hb dX5_settle_164 (by decide) ?_
                          exact ihL3l (k + 1)  (by omega) (by omega)  _ _ _ hP hD hS (lv_sub hl [1, 2, 3, 4, 5, 6, 7, 0] rfl)
                    exact L3l (4 + 1) 0  (by omega) (by omega)  _ _ _ hP hD hS (lv_sub hl [1, 2, 3, 4, 5, 6, 7, 0] rfl)
                  · skip
                    refine lv_goto (tgt := 174) hx hb dX5_settle_83 (by decide) ?_
                    refine lv_iinc (v := nI (sl + 1)) (lv' := [(6, .int (nI (sl + 1))), (0, .ref mo), (1, .int (nI 1)), (2, .int (nI n)), (3, .int (nI (8 + n))), (4, .int (nI up)), (5, .int (nI (25 * (7 + (pathB 32 l0 up)))))]) hx hb dX5_settle_174 hl (k := 6) rfl (nI_add sl 1) (by decide) rfl (fun ls hl => ?_)
                    refine lv_goto (tgt := 52) hx hb dX5_settle_177 (by decide) ?_
                    exact ihL2l (sl + 1)  (by omega) (by omega) (st_hf hf2 c3 c5) _ _ _ hP hD hS (lv_sub hl [1, 2, 3, 4, 5, 6, 0] rfl)
          exact L2l (4 + 1) 0  (by omega) (by omega) hf _ _ _ hP hD hS (lv_sub hl [2, 3, 4, 5, 6, 1, 0] rfl)
  exact L1l (6 + 1) 0  (by omega) (by omega) (fun j hj => absurd hj (by omega)) _ _ _ hP hD hS (lv_sub hl [2, 3, 4, 1, 0] rfl)

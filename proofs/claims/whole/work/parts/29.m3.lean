set_option maxHeartbeats 800000 in
set_option maxRecDepth 100000 in
theorem c_m_put0 (l : Launch) (D : va_G) (cI cZ cJ : ClassId) (mo : Nat) (se : Nat) (co : Nat) (ou : Nat) (le : Nat) (wo : Nat) (ma : Nat) (pl : Nat) (tl : Nat) (tm : Nat) (th : Nat) (na : Nat) (si : Nat) (pa : Nat) (ta : Nat) (thr : Int32) (G : Int32) (ky : Int32) (DE : Int32) (cn : Nat) (got : Int32) (S0 : Nat → Nat → Int32) (C0 : Nat → Int32) (O0 : Nat → Int32) (L0 : Nat → Int32) (W0 : Nat → Nat → Int32) (S1 : Nat → Nat → Int32) (C1 : Nat → Int32) (O1 : Nat → Int32) (L1 : Nat → Int32) (W1 : Nat → Nat → Int32) (MP : Nat → Nat) (PL : Nat → Int32) (ML : Nat → Int32) (DL : Nat → Int32) (TH : Nat → Int32) (NM : Nat → Int64) (SZ : Nat → Nat) (PT : Nat → Nat) (TK : Nat → Int32) (sl n : Nat) (hs : sl < 4) (hn : n < 8) : KV l yX5_put wsX5_put ({ frames := 1, cells := 0, slots := 0, locals := 20 }) D (kty cI cZ cJ) [.ref mo, .int (nI 0), .int (nI sl), .int (nI n)] (wM cI cZ cJ mo se co ou le wo ma pl tl tm th na si pa ta thr G ky DE cn got S0 C0 O0 L0 W0 S1 C1 O1 L1 W1 MP PL ML DL TH NM SZ PT TK) (fun (_ : Unit) => True) (fun _ : Unit => (wM cI cZ cJ mo se co ou le wo ma pl tl tm th na si pa ta thr G ky DE cn got S0 C0 (upd O0 n 0) L0 W0 S1 C1 O1 L1 W1 MP (putR PL sl n (L0 n) (W0 n)) ML DL TH NM SZ PT TK)) 0 0 := by
  refine k_headV (cc := cX5_put) (maxL := 6) (ret := none) (by decide) rfl (Nat.le_of_ble_eq_true rfl) ?_
  intro p e s m below meth c A ls args Q hx hb hr hml hts hown hlk hnm hA hK hP hD hS hl hQ
  have hl : lv_has ls 6 [(0, .ref mo), (1, .int (nI 0)), (2, .int (nI sl)), (3, .int (nI n))] := hl
  refine lv_iload_n hx hb dX5_put_0 rfl (lv_at hl 1 rfl) ?_
  refine k_si (As := [.int (nI 0)]) (rest := []) (w2 := fun u : Unit => (wM cI cZ cJ mo se co ou le wo ma pl tl tm th na si pa ta thr G ky DE cn got S0 C0 O0 L0 W0 S1 C1 O1 L1 W1 MP PL ML DL TH NM SZ PT TK)) ⟨hx, hb, hml, hown, hts⟩ (c_m_first0 l D cI cZ cJ  ) (va_cwS 1 hts gX5_put_X5_first rfl rfl rfl (by decide +kernel) ⟨Nat.le_of_ble_eq_true rfl, Nat.le_of_ble_eq_true rfl⟩) hP hD hK hS hA [] [0, 1, 2, 3, 4, 5, 6, 7, 8, 9, 10, 11, 12, 13, 14] [0, 1, 2, 3, 4, 5, 6, 7, 8, 9, 10, 11, 12, 13, 14] rfl rfl (by decide) (fun u => rfl) rfl hl.1 rfl (Nat.le_of_ble_eq_true rfl) dX5_put_1 ⟨Nat.le_of_ble_eq_true rfl, Nat.le_of_ble_eq_true rfl⟩ (fun r u H locs hu1 hP hD hS => ?_)
  refine k_t1 (show r = nI 0 from hu1) ?_
  refine lv_iload_n hx hb dX5_put_4 rfl (lv_at hl 3 rfl) ?_
  refine lv_iadd hx hb dX5_put_5 ?_
  refine k_t1 (show (nI 0) + (nI n) = nI (0 + n) from nI_add _ _) ?_
  refine k_t1 (show nI (0 + n) = nI n from congrArg nI (Nat.zero_add _)) ?_
  refine lv_istore (lv' := [(4, .int (nI n)), (0, .ref mo), (1, .int (nI 0)), (2, .int (nI sl)), (3, .int (nI n))]) hx hb dX5_put_6 hl (by decide) rfl (fun ls hl => ?_)
  refine lv_aload_n hx hb dX5_put_8 rfl (lv_at hl 1 rfl) ?_
  refine va_get (D := D) (ci := 5) (v := .ref pl) (C := RX5) (T := TX5) (N := 20) hx hb hts (by decide +kernel) hown hK hP 0 rfl rfl 11 (by decide) (hts (.fieldLink RX5 29 "VeiledFilesModel" "plain" "[I") (by decide +kernel)) (fun _ h9 => h9) rfl dX5_put_9 ?_
  refine lv_bipush (v := nI 6) hx hb dX5_put_12 (by decide) ?_
  refine lv_iload_n hx hb dX5_put_14 rfl (lv_at hl 3 rfl) ?_
  refine lv_imul hx hb dX5_put_15 ?_
  refine k_t1 (show (nI 6) * (nI sl) = nI (6 * sl) from pk_mul _ _) ?_
  refine lv_iload_n hx hb dX5_put_16 rfl (lv_at hl 4 rfl) ?_
  refine lv_iconst (v := nI 1) hx hb dX5_put_17 (by decide) ?_
  refine lv_iadd hx hb dX5_put_18 ?_
  refine k_t1 (show (nI n) + (nI 1) = nI (n + 1) from nI_add _ _) ?_
  have hE2 : (wM cI cZ cJ mo se co ou le wo ma pl tl tm th na si pa ta thr G ky DE cn got S0 C0 O0 L0 W0 S1 C1 O1 L1 W1 MP PL ML DL TH NM SZ PT TK) = (wM cI cZ cJ mo se co ou le wo ma pl tl tm th na si pa ta thr G ky DE cn got S0 C0 O0 L0 W0 S1 C1 O1 L1 W1 MP (putK PL sl n (L0 n) (W0 n) 0) ML DL TH NM SZ PT TK) := by rw [putK_0]
  rw [hE2] at hP hD
  refine k_iast hx hb hK hP hD hS 7 0 rfl rfl (6 * sl) (by omega) (by omega) (g := (putK PL sl n (L0 n) (W0 n) 1)) (putK_s (k := 0) sloV_0) dX5_put_19 (fun H locs hP hD hS => ?_)
  have hP : va_P D vwCl (wM cI cZ cJ mo se co ou le wo ma pl tl tm th na si pa ta thr G ky DE cn got S0 C0 O0 L0 W0 S1 C1 O1 L1 W1 MP (putK PL sl n (L0 n) (W0 n) 1) ML DL TH NM SZ PT TK) _ := hP
  have hD : va_D A (wM cI cZ cJ mo se co ou le wo ma pl tl tm th na si pa ta thr G ky DE cn got S0 C0 O0 L0 W0 S1 C1 O1 L1 W1 MP (putK PL sl n (L0 n) (W0 n) 1) ML DL TH NM SZ PT TK) := hD
  refine lv_aload_n hx hb dX5_put_20 rfl (lv_at hl 1 rfl) ?_
  refine va_get (D := D) (ci := 5) (v := .ref pl) (C := RX5) (T := TX5) (N := 20) hx hb hts (by decide +kernel) hown hK hP 0 rfl rfl 11 (by decide) (hts (.fieldLink RX5 29 "VeiledFilesModel" "plain" "[I") (by decide +kernel)) (fun _ h9 => h9) rfl dX5_put_21 ?_
  refine lv_bipush (v := nI 6) hx hb dX5_put_24 (by decide) ?_
  refine lv_iload_n hx hb dX5_put_26 rfl (lv_at hl 3 rfl) ?_
  refine lv_imul hx hb dX5_put_27 ?_
  refine k_t1 (show (nI 6) * (nI sl) = nI (6 * sl) from pk_mul _ _) ?_
  refine lv_iconst (v := nI 1) hx hb dX5_put_28 (by decide) ?_
  refine lv_iadd hx hb dX5_put_29 ?_
  refine k_t1 (show (nI (6 * sl)) + (nI 1) = nI (6 * sl + 1) from nI_add _ _) ?_
  refine lv_aload_n hx hb dX5_put_30 rfl (lv_at hl 1 rfl) ?_
  refine va_get (D := D) (ci := 5) (v := .ref le) (C := RX5) (T := TX5) (N := 20) hx hb hts (by decide +kernel) hown hK hP 0 rfl rfl 8 (by decide) (hts (.fieldLink RX5 20 "VeiledFilesModel" "leaf" "[I") (by decide +kernel)) (fun _ h9 => h9) rfl dX5_put_31 ?_
  refine lv_iload hx hb dX5_put_34 (lv_at hl 0 rfl) ?_
  refine k_iald hx hb hK hP 4 0 rfl rfl n (by omega) (by omega) (v := L0 n) (jn_0 (by omega)) dX5_put_36 ?_
  refine k_iast hx hb hK hP hD hS 7 0 rfl rfl (6 * sl + 1) (by omega) (by omega) (g := (putK PL sl n (L0 n) (W0 n) (2 + 0))) (putK_s (k := 1) sloV_1) dX5_put_37 (fun H locs hP hD hS => ?_)
  have hP : va_P D vwCl (wM cI cZ cJ mo se co ou le wo ma pl tl tm th na si pa ta thr G ky DE cn got S0 C0 O0 L0 W0 S1 C1 O1 L1 W1 MP (putK PL sl n (L0 n) (W0 n) (2 + 0)) ML DL TH NM SZ PT TK) _ := hP
  have hD : va_D A (wM cI cZ cJ mo se co ou le wo ma pl tl tm th na si pa ta thr G ky DE cn got S0 C0 O0 L0 W0 S1 C1 O1 L1 W1 MP (putK PL sl n (L0 n) (W0 n) (2 + 0)) ML DL TH NM SZ PT TK) := hD
  refine lv_iconst (v := nI 0) hx hb dX5_put_38 (by decide) ?_
  refine lv_istore (lv' := [(5, .int (nI 0)), (4, .int (nI n)), (0, .ref mo), (1, .int (nI 0)), (2, .int (nI sl)), (3, .int (nI n))]) hx hb dX5_put_39 hl (by decide) rfl (fun ls hl => ?_)
  have L1l : ∀ (nf k : Nat) (hvL1l : k ≤ 4) (hFL1l : 4 - k < nf) (H : Heap) (locs : List Loc) (ls : Array Slot), va_P D vwCl (wM cI cZ cJ mo se co ou le wo ma pl tl tm th na si pa ta thr G ky DE cn got S0 C0 O0 L0 W0 S1 C1 O1 L1 W1 MP (putK PL sl n (L0 n) (W0 n) (2 + k)) ML DL TH NM SZ PT TK) H → va_D A (wM cI cZ cJ mo se co ou le wo ma pl tl tm th na si pa ta thr G ky DE cn got S0 C0 O0 L0 W0 S1 C1 O1 L1 W1 MP (putK PL sl n (L0 n) (W0 n) (2 + k)) ML DL TH NM SZ PT TK) → va_S A s.heap H locs → lv_has ls 6 [(0, .ref mo), (1, .int (nI 0)), (2, .int (nI sl)), (3, .int (nI n)), (4, .int (nI n)), (5, .int (nI k))] → W p l e ({ frames := 1, cells := 0, slots := 0, locals := 20 } : Room) s m args below meth c H locs 0 0 Q (F0 m 41 ls []) := by
    intro nf
    induction nf with
    | zero => intro k  hvL1l hFL1l; omega
    | succ nf ihL1l =>
      intro k  hvL1l hFL1l  H locs ls hP hD hS hl
      refine lv_iload hx hb dX5_put_41 (lv_at hl 5 rfl) ?_
      refine lv_iconst (v := nI 4) hx hb dX5_put_43 (by decide) ?_
      refine k_icmp_ge (tgt := 79) hx hb (by omega) (by omega) dX5_put_44 (by decide) (fun c1 => ?_) (fun c1 => ?_)
      · skip
        obtain rfl : k = 4 := by omega
        have hP : va_P D vwCl (wM cI cZ cJ mo se co ou le wo ma pl tl tm th na si pa ta thr G ky DE cn got S0 C0 O0 L0 W0 S1 C1 O1 L1 W1 MP (putR PL sl n (L0 n) (W0 n)) ML DL TH NM SZ PT TK) _ := hP
        have hD : va_D A (wM cI cZ cJ mo se co ou le wo ma pl tl tm th na si pa ta thr G ky DE cn got S0 C0 O0 L0 W0 S1 C1 O1 L1 W1 MP (putR PL sl n (L0 n) (W0 n)) ML DL TH NM SZ PT TK) := hD
        refine lv_aload_n hx hb dX5_put_79 rfl (lv_at hl 0 rfl) ?_
        refine va_get (D := D) (ci := 5) (v := .ref ou) (C := RX5) (T := TX5) (N := 20) hx hb hts (by decide +kernel) hown hK hP 0 rfl rfl 7 (by decide) (hts (.fieldLink RX5 16 "VeiledFilesModel" "out" "[Z") (by decide +kernel)) (fun _ h9 => h9) rfl dX5_put_80 ?_
        refine lv_iload hx hb dX5_put_83 (lv_at hl 4 rfl) ?_
        refine lv_iconst (v := nI 0) hx hb dX5_put_85 (by decide) ?_
        refine k_zast hx hb hK hP hD hS 3 1 rfl rfl n (by omega) (by omega) (g := jn 8 (upd O0 n 0) O1) (jn_u0 (by omega)) (by first | rfl | decide) dX5_put_86 (fun H locs hP hD hS => ?_)
        have hP : va_P D vwCl (wM cI cZ cJ mo se co ou le wo ma pl tl tm th na si pa ta thr G ky DE cn got S0 C0 (upd O0 n 0) L0 W0 S1 C1 O1 L1 W1 MP (putR PL sl n (L0 n) (W0 n)) ML DL TH NM SZ PT TK) _ := hP
        have hD : va_D A (wM cI cZ cJ mo se co ou le wo ma pl tl tm th na si pa ta thr G ky DE cn got S0 C0 (upd O0 n 0) L0 W0 S1 C1 O1 L1 W1 MP (putR PL sl n (L0 n) (W0 n)) ML DL TH NM SZ PT TK) := hD
        exact k_retv () hx hb hr hK hS hlk dX5_put_87 hP hD (trivial) hQ
      · skip
        refine lv_aload_n hx hb dX5_put_47 rfl (lv_at hl 0 rfl) ?_
        refine va_get (D := D) (ci := 5) (v := .ref pl) (C := RX5) (T := TX5) (N := 20) hx hb hts (by decide +kernel) hown hK hP 0 rfl rfl 11 (by decide) (hts (.fieldLink RX5 29 "VeiledFilesModel" "plain" "[I") (by decide +kernel)) (fun _ h9 => h9) rfl dX5_put_48 ?_
        refine lv_bipush (v := nI 6) hx hb dX5_put_51 (by decide) ?_
        refine lv_iload_n hx hb dX5_put_53 rfl (lv_at hl 2 rfl) ?_
        refine lv_imul hx hb dX5_put_54 ?_
        refine k_t1 (show (nI 6) * (nI sl) = nI (6 * sl) from pk_mul _ _) ?_
        refine lv_iconst (v := nI 2) hx hb dX5_put_55 (by decide) ?_
        refine lv_iadd hx hb dX5_put_56 ?_
        refine k_t1 (show (nI (6 * sl)) + (nI 2) = nI (6 * sl + 2) from nI_add _ _) ?_
        refine lv_iload hx hb dX5_put_57 (lv_at hl 5 rfl) ?_
        refine lv_iadd hx hb dX5_put_59 ?_
        refine k_t1 (show (nI (6 * sl + 2)) + (nI k) = nI (6 * sl + 2 + k) from nI_add _ _) ?_
        refine lv_aload_n hx hb dX5_put_60 rfl (lv_at hl 0 rfl) ?_
        refine va_get (D := D) (ci := 5) (v := .ref wo) (C := RX5) (T := TX5) (N := 20) hx hb hts (by decide +kernel) hown hK hP 0 rfl rfl 9 (by decide) (hts (.fieldLink RX5 23 "VeiledFilesModel" "words" "[I") (by decide +kernel)) (fun _ h9 => h9) rfl dX5_put_61 ?_
        refine lv_iconst (v := nI 4) hx hb dX5_put_64 (by decide) ?_
        refine lv_iload hx hb dX5_put_65 (lv_at hl 4 rfl) ?_
        refine lv_imul hx hb dX5_put_67 ?_
        refine k_t1 (show (nI 4) * (nI n) = nI (4 * n) from pk_mul _ _) ?_
        refine lv_iload hx hb dX5_put_68 (lv_at hl 5 rfl) ?_
        refine lv_iadd hx hb dX5_put_70 ?_
        refine k_t1 (show (nI (4 * n)) + (nI k) = nI (4 * n + k) from nI_add _ _) ?_
        refine k_iald hx hb hK hP 5 0 rfl rfl (4 * n + k) (by omega) (by omega) (v := W0 n k) (rW0 (p := n) (by omega) (by omega) (by omega)) dX5_put_71 ?_
        refine k_iast hx hb hK hP hD hS 7 0 rfl rfl (6 * sl + 2 + k) (by omega) (by omega) (g := (putK PL sl n (L0 n) (W0 n) (2 + (k + 1)))) (by rw [show 6 * sl + 2 + k = 6 * sl + (2 + k) by omega]; exact putK_s (k := 2 + k) sloV_2) dX5_put_72 (fun H locs hP hD hS => ?_)
        have hP : va_P D vwCl (wM cI cZ cJ mo se co ou le wo ma pl tl tm th na si pa ta thr G ky DE cn got S0 C0 O0 L0 W0 S1 C1 O1 L1 W1 MP (putK PL sl n (L0 n) (W0 n) (2 + (k + 1))) ML DL TH NM SZ PT TK) _ := hP
        have hD : va_D A (wM cI cZ cJ mo se co ou le wo ma pl tl tm th na si pa ta thr G ky DE cn got S0 C0 O0 L0 W0 S1 C1 O1 L1 W1 MP (putK PL sl n (L0 n) (W0 n) (2 + (k + 1))) ML DL TH NM SZ PT TK) := hD
        refine lv_iinc (v := nI (k + 1)) (lv' := [(5, .int (nI (k + 1))), (0, .ref mo), (1, .int (nI 0)), (2, .int (nI sl)), (3, .int (nI n)), (4, .int (nI n))]) hx hb dX5_put_73 hl (k := 5) rfl (nI_add k 1) (by decide) rfl (fun ls hl => ?_)
        refine lv_goto (tgt := 41) hx hb dX5_put_76 (by decide) ?_
        exact ihL1l (k + 1)  (by omega) (by omega)  _ _ _ hP hD hS (lv_sub hl [1, 2, 3, 4, 5, 0] rfl)
  exact L1l (4 + 1) 0  (by omega) (by omega)  _ _ _ hP hD hS (lv_sub hl [2, 3, 4, 5, 1, 0] rfl)

set_option maxHeartbeats 800000 in
set_option maxRecDepth 100000 in
theorem c_m_open0 (l : Launch) (D : va_G) (cI cZ cJ : ClassId) (mo : Nat) (se : Nat) (co : Nat) (ou : Nat) (le : Nat) (wo : Nat) (ma : Nat) (pl : Nat) (tl : Nat) (tm : Nat) (th : Nat) (na : Nat) (si : Nat) (pa : Nat) (ta : Nat) (thr : Int32) (G : Int32) (ky : Int32) (DE : Int32) (cn : Nat) (got : Int32) (S0 : Nat → Nat → Int32) (C0 : Nat → Int32) (O0 : Nat → Int32) (L0 : Nat → Int32) (W0 : Nat → Nat → Int32) (S1 : Nat → Nat → Int32) (C1 : Nat → Int32) (O1 : Nat → Int32) (L1 : Nat → Int32) (W1 : Nat → Nat → Int32) (MP : Nat → Nat) (PL : Nat → Int32) (ML : Nat → Int32) (DL : Nat → Int32) (TH : Nat → Int32) (NM : Nat → Int64) (SZ : Nat → Nat) (PT : Nat → Nat) (TK : Nat → Int32) (b sl : Nat) (hb0 : b < 7) (hs : sl < 4) : KV l yX5_open wsX5_open ({ frames := 3, cells := 0, slots := 0, locals := 68 }) D (kty cI cZ cJ) [.ref mo, .int (nI 0), .int (nI b), .int (nI sl)] (wM cI cZ cJ mo se co ou le wo ma pl tl tm th na si pa ta thr G ky DE cn got S0 C0 O0 L0 W0 S1 C1 O1 L1 W1 MP PL ML DL TH NM SZ PT TK) (fun (_ : Unit) => True) (fun _ : Unit => (wM cI cZ cJ mo se co ou le wo ma pl tl tm th na si pa ta thr G ky DE cn got S0 C0 (hoO 8 (decR ky 0 C0 S0 b) sl O0) (hoL 8 (decR ky 0 C0 S0 b) sl L0) (hoW 8 (decR ky 0 C0 S0 b) sl W0) S1 C1 O1 L1 W1 MP PL ML DL TH NM SZ PT TK)) 0 0 := by
  refine k_headV (cc := cX5_open) (maxL := 7) (ret := none) (by decide) rfl (Nat.le_of_ble_eq_true rfl) ?_
  intro p e s m below meth c A ls args Q hx hb hr hml hts hown hlk hnm hA hK hP hD hS hl hQ
  have hl : lv_has ls 7 [(0, .ref mo), (1, .int (nI 0)), (2, .int (nI b)), (3, .int (nI sl))] := hl
  refine lv_aload_n hx hb dX5_open_0 rfl (lv_at hl 0 rfl) ?_
  refine lv_iload_n hx hb dX5_open_1 rfl (lv_at hl 1 rfl) ?_
  refine lv_iload_n hx hb dX5_open_2 rfl (lv_at hl 2 rfl) ?_
  refine lv_bipush (v := nI 6) hx hb dX5_open_3 (by decide) ?_
  refine lv_iload_n hx hb dX5_open_5 rfl (lv_at hl 3 rfl) ?_
  refine lv_imul hx hb dX5_open_6 ?_
  refine k_t1 (show (nI 6) * (nI sl) = nI (6 * sl) from pk_mul _ _) ?_
  refine k_vi (As := [.int (nI 0), .int (nI b), .int (nI (6 * sl))]) (rest := []) (w2 := fun u : Unit => (wM cI cZ cJ mo se co ou le wo ma pl tl tm th na si pa ta thr G ky DE cn got S0 C0 O0 L0 W0 S1 C1 O1 L1 W1 MP PL ML DL TH NM SZ PT TK)) ⟨hx, hb, hml, hown, hts⟩ (c_m_plain0 l D cI cZ cJ mo se co ou le wo ma pl tl tm th na si pa ta thr G ky DE cn got S0 C0 O0 L0 W0 S1 C1 O1 L1 W1 MP PL ML DL TH NM SZ PT TK b (6 * sl) hb0 (by omega)) (cwV 3 hts gX5_open_X5_plainWord rfl rfl rfl (by decide +kernel) ⟨Nat.le_of_ble_eq_true rfl, Nat.le_of_ble_eq_true rfl⟩) hP hD hK hS hA [0, 1, 2, 3, 4, 5, 6, 7, 8, 9, 10, 11, 12, 13, 14] [] [0, 1, 2, 3, 4, 5, 6, 7, 8, 9, 10, 11, 12, 13, 14] rfl rfl (by decide) (fun u => rfl) rfl rfl (q0 := 0) rfl rfl hl.1 rfl (Nat.le_of_ble_eq_true rfl) dX5_open_7 ⟨Nat.le_of_ble_eq_true rfl, Nat.le_of_ble_eq_true rfl⟩ (fun r u H locs hu1 hP hD hS => ?_)
  refine k_t1 (show r = (decR ky 0 C0 S0 b) (6 * sl) from hu1) ?_
  refine lv_iconst (v := nI 1) hx hb dX5_open_10 (by decide) ?_
  refine lv_isub hx hb dX5_open_11 ?_
  refine lv_istore (lv' := [(4, .int (((decR ky 0 C0 S0 b) (6 * sl)) - (nI 1))), (0, .ref mo), (1, .int (nI 0)), (2, .int (nI b)), (3, .int (nI sl))]) hx hb dX5_open_12 hl (by decide) rfl (fun ls hl => ?_)
  refine lv_iload hx hb dX5_open_14 (lv_at hl 0 rfl) ?_
  refine lv_if_lt (tgt := 28) hx hb dX5_open_16 (by decide) (fun c1 => ?_) (fun c1 => ?_)
  · skip
    have hE2 : (wM cI cZ cJ mo se co ou le wo ma pl tl tm th na si pa ta thr G ky DE cn got S0 C0 O0 L0 W0 S1 C1 O1 L1 W1 MP PL ML DL TH NM SZ PT TK) = (wM cI cZ cJ mo se co ou le wo ma pl tl tm th na si pa ta thr G ky DE cn got S0 C0 (hoO 8 (decR ky 0 C0 S0 b) sl O0) L0 W0 S1 C1 O1 L1 W1 MP PL ML DL TH NM SZ PT TK) := by rw [hoO_n (noB_lt c1)]
    rw [hE2] at hP hD
    have hE3 : (wM cI cZ cJ mo se co ou le wo ma pl tl tm th na si pa ta thr G ky DE cn got S0 C0 (hoO 8 (decR ky 0 C0 S0 b) sl O0) L0 W0 S1 C1 O1 L1 W1 MP PL ML DL TH NM SZ PT TK) = (wM cI cZ cJ mo se co ou le wo ma pl tl tm th na si pa ta thr G ky DE cn got S0 C0 (hoO 8 (decR ky 0 C0 S0 b) sl O0) (hoL 8 (decR ky 0 C0 S0 b) sl L0) W0 S1 C1 O1 L1 W1 MP PL ML DL TH NM SZ PT TK) := by rw [hoL_n (noB_lt c1)]
    rw [hE3] at hP hD
    have hE4 : (wM cI cZ cJ mo se co ou le wo ma pl tl tm th na si pa ta thr G ky DE cn got S0 C0 (hoO 8 (decR ky 0 C0 S0 b) sl O0) (hoL 8 (decR ky 0 C0 S0 b) sl L0) W0 S1 C1 O1 L1 W1 MP PL ML DL TH NM SZ PT TK) = (wM cI cZ cJ mo se co ou le wo ma pl tl tm th na si pa ta thr G ky DE cn got S0 C0 (hoO 8 (decR ky 0 C0 S0 b) sl O0) (hoL 8 (decR ky 0 C0 S0 b) sl L0) (hoW 8 (decR ky 0 C0 S0 b) sl W0) S1 C1 O1 L1 W1 MP PL ML DL TH NM SZ PT TK) := by rw [hoW_n (noB_lt c1)]
    rw [hE4] at hP hD
    exact k_retv () hx hb hr hK hS hlk dX5_open_28 hP hD (trivial) hQ
  · skip
    refine lv_iload hx hb dX5_open_19 (lv_at hl 0 rfl) ?_
    refine lv_iload_n hx hb dX5_open_21 rfl (lv_at hl 2 rfl) ?_
    refine k_si (As := [.int (nI 0)]) (rest := [.int (((decR ky 0 C0 S0 b) (6 * sl)) - (nI 1))]) (w2 := fun u : Unit => (wM cI cZ cJ mo se co ou le wo ma pl tl tm th na si pa ta thr G ky DE cn got S0 C0 O0 L0 W0 S1 C1 O1 L1 W1 MP PL ML DL TH NM SZ PT TK)) ⟨hx, hb, hml, hown, hts⟩ (c_m_blocks0 l D cI cZ cJ  ) (va_cwS 1 hts gX5_open_X5_blocks rfl rfl rfl (by decide +kernel) ⟨Nat.le_of_ble_eq_true rfl, Nat.le_of_ble_eq_true rfl⟩) hP hD hK hS hA [] [0, 1, 2, 3, 4, 5, 6, 7, 8, 9, 10, 11, 12, 13, 14] [0, 1, 2, 3, 4, 5, 6, 7, 8, 9, 10, 11, 12, 13, 14] rfl rfl (by decide) (fun u => rfl) rfl hl.1 rfl (Nat.le_of_ble_eq_true rfl) dX5_open_22 ⟨Nat.le_of_ble_eq_true rfl, Nat.le_of_ble_eq_true rfl⟩ (fun r u H locs hu5 hP hD hS => ?_)
    refine k_t1 (show r = nI 8 from hu5) ?_
    refine lv_icmp_lt (tgt := 29) hx hb dX5_open_25 (by decide) (fun c2 => ?_) (fun c2 => ?_)
    · skip
      obtain ⟨n, hn, hxn⟩ : ∃ n, n < 8 ∧ (decR ky 0 C0 S0 b) (6 * sl) - nI 1 = nI n := noB_false (by decide) c1 (fun q => absurd c2 (Int32.not_lt.mpr q))
      have hxn1 : (decR ky 0 C0 S0 b) (6 * sl) - 1 = nI n := hxn
      have hnk : (8 : Nat) < 2147483648 := by decide
      rw [hxn] at hl
      refine lv_iload_n hx hb dX5_open_29 rfl (lv_at hl 2 rfl) ?_
      refine k_si (As := [.int (nI 0)]) (rest := []) (w2 := fun u : Unit => (wM cI cZ cJ mo se co ou le wo ma pl tl tm th na si pa ta thr G ky DE cn got S0 C0 O0 L0 W0 S1 C1 O1 L1 W1 MP PL ML DL TH NM SZ PT TK)) ⟨hx, hb, hml, hown, hts⟩ (c_m_first0 l D cI cZ cJ  ) (va_cwS 1 hts gX5_open_X5_first rfl rfl rfl (by decide +kernel) ⟨Nat.le_of_ble_eq_true rfl, Nat.le_of_ble_eq_true rfl⟩) hP hD hK hS hA [] [0, 1, 2, 3, 4, 5, 6, 7, 8, 9, 10, 11, 12, 13, 14] [0, 1, 2, 3, 4, 5, 6, 7, 8, 9, 10, 11, 12, 13, 14] rfl rfl (by decide) (fun u => rfl) rfl hl.1 rfl (Nat.le_of_ble_eq_true rfl) dX5_open_30 ⟨Nat.le_of_ble_eq_true rfl, Nat.le_of_ble_eq_true rfl⟩ (fun r u H locs hu6 hP hD hS => ?_)
      refine k_t1 (show r = nI 0 from hu6) ?_
      refine lv_iload hx hb dX5_open_33 (lv_at hl 0 rfl) ?_
      refine lv_iadd hx hb dX5_open_35 ?_
      refine k_t1 (show (nI 0) + (nI n) = nI (0 + n) from nI_add _ _) ?_
      refine k_t1 (show nI (0 + n) = nI n from congrArg nI (Nat.zero_add _)) ?_
      refine lv_istore (lv' := [(5, .int (nI n)), (4, .int (nI n)), (0, .ref mo), (1, .int (nI 0)), (2, .int (nI b)), (3, .int (nI sl))]) hx hb dX5_open_36 hl (by decide) rfl (fun ls hl => ?_)
      refine lv_aload_n hx hb dX5_open_38 rfl (lv_at hl 2 rfl) ?_
      refine va_get (D := D) (ci := 5) (v := .ref ou) (C := RX5) (T := TX5) (N := 20) hx hb hts (by decide +kernel) hown hK hP 0 rfl rfl 7 (by decide) (hts (.fieldLink RX5 16 "VeiledFilesModel" "out" "[Z") (by decide +kernel)) (fun _ h9 => h9) rfl dX5_open_39 ?_
      refine lv_iload hx hb dX5_open_42 (lv_at hl 0 rfl) ?_
      refine lv_iconst (v := nI 1) hx hb dX5_open_44 (by decide) ?_
      refine k_zast hx hb hK hP hD hS 3 1 rfl rfl n (by omega) (by omega) (g := jn 8 (upd O0 n 1) O1) (jn_u0 (by omega)) (by first | rfl | decide) dX5_open_45 (fun H locs hP hD hS => ?_)
      have hP : va_P D vwCl (wM cI cZ cJ mo se co ou le wo ma pl tl tm th na si pa ta thr G ky DE cn got S0 C0 (upd O0 n 1) L0 W0 S1 C1 O1 L1 W1 MP PL ML DL TH NM SZ PT TK) _ := hP
      have hD : va_D A (wM cI cZ cJ mo se co ou le wo ma pl tl tm th na si pa ta thr G ky DE cn got S0 C0 (upd O0 n 1) L0 W0 S1 C1 O1 L1 W1 MP PL ML DL TH NM SZ PT TK) := hD
      refine lv_aload_n hx hb dX5_open_46 rfl (lv_at hl 2 rfl) ?_
      refine va_get (D := D) (ci := 5) (v := .ref le) (C := RX5) (T := TX5) (N := 20) hx hb hts (by decide +kernel) hown hK hP 0 rfl rfl 8 (by decide) (hts (.fieldLink RX5 20 "VeiledFilesModel" "leaf" "[I") (by decide +kernel)) (fun _ h9 => h9) rfl dX5_open_47 ?_
      refine lv_iload hx hb dX5_open_50 (lv_at hl 0 rfl) ?_
      refine lv_aload_n hx hb dX5_open_52 rfl (lv_at hl 2 rfl) ?_
      refine lv_iload_n hx hb dX5_open_53 rfl (lv_at hl 3 rfl) ?_
      refine lv_iload_n hx hb dX5_open_54 rfl (lv_at hl 4 rfl) ?_
      refine lv_bipush (v := nI 6) hx hb dX5_open_55 (by decide) ?_
      refine lv_iload_n hx hb dX5_open_57 rfl (lv_at hl 5 rfl) ?_
      refine lv_imul hx hb dX5_open_58 ?_
      refine k_t1 (show (nI 6) * (nI sl) = nI (6 * sl) from pk_mul _ _) ?_
      refine lv_iconst (v := nI 1) hx hb dX5_open_59 (by decide) ?_
      refine lv_iadd hx hb dX5_open_60 ?_
      refine k_t1 (show (nI (6 * sl)) + (nI 1) = nI (6 * sl + 1) from nI_add _ _) ?_
      refine k_vi (As := [.int (nI 0), .int (nI b), .int (nI (6 * sl + 1))]) (rest := [.int (nI n), .ref le]) (w2 := fun u : Unit => (wM cI cZ cJ mo se co ou le wo ma pl tl tm th na si pa ta thr G ky DE cn got S0 C0 (upd O0 n 1) L0 W0 S1 C1 O1 L1 W1 MP PL ML DL TH NM SZ PT TK)) ⟨hx, hb, hml, hown, hts⟩ (c_m_plain0 l D cI cZ cJ mo se co ou le wo ma pl tl tm th na si pa ta thr G ky DE cn got S0 C0 (upd O0 n 1) L0 W0 S1 C1 O1 L1 W1 MP PL ML DL TH NM SZ PT TK b (6 * sl + 1) hb0 (by omega)) (cwV 3 hts gX5_open_X5_plainWord rfl rfl rfl (by decide +kernel) ⟨Nat.le_of_ble_eq_true rfl, Nat.le_of_ble_eq_true rfl⟩) hP hD hK hS hA [0, 1, 2, 3, 4, 5, 6, 7, 8, 9, 10, 11, 12, 13, 14] [] [0, 1, 2, 3, 4, 5, 6, 7, 8, 9, 10, 11, 12, 13, 14] rfl rfl (by decide) (fun u => rfl) rfl rfl (q0 := 0) rfl rfl hl.1 rfl (Nat.le_of_ble_eq_true rfl) dX5_open_61 ⟨Nat.le_of_ble_eq_true rfl, Nat.le_of_ble_eq_true rfl⟩ (fun r u H locs hu7 hP hD hS => ?_)
      refine k_t1 (show r = (decR ky 0 C0 S0 b) (6 * sl + 1) from hu7) ?_
      refine k_iast hx hb hK hP hD hS 4 0 rfl rfl n (by omega) (by omega) (g := jn 8 (upd L0 n ((decR ky 0 C0 S0 b) (6 * sl + 1))) L1) (jn_u0 (by omega)) dX5_open_64 (fun H locs hP hD hS => ?_)
      have hP : va_P D vwCl (wM cI cZ cJ mo se co ou le wo ma pl tl tm th na si pa ta thr G ky DE cn got S0 C0 (upd O0 n 1) (upd L0 n ((decR ky 0 C0 S0 b) (6 * sl + 1))) W0 S1 C1 O1 L1 W1 MP PL ML DL TH NM SZ PT TK) _ := hP
      have hD : va_D A (wM cI cZ cJ mo se co ou le wo ma pl tl tm th na si pa ta thr G ky DE cn got S0 C0 (upd O0 n 1) (upd L0 n ((decR ky 0 C0 S0 b) (6 * sl + 1))) W0 S1 C1 O1 L1 W1 MP PL ML DL TH NM SZ PT TK) := hD
      refine lv_iconst (v := nI 0) hx hb dX5_open_65 (by decide) ?_
      refine lv_istore (lv' := [(6, .int (nI 0)), (5, .int (nI n)), (4, .int (nI n)), (0, .ref mo), (1, .int (nI 0)), (2, .int (nI b)), (3, .int (nI sl))]) hx hb dX5_open_66 hl (by decide) rfl (fun ls hl => ?_)
      have hE8 : (wM cI cZ cJ mo se co ou le wo ma pl tl tm th na si pa ta thr G ky DE cn got S0 C0 (upd O0 n 1) (upd L0 n ((decR ky 0 C0 S0 b) (6 * sl + 1))) W0 S1 C1 O1 L1 W1 MP PL ML DL TH NM SZ PT TK) = (wM cI cZ cJ mo se co ou le wo ma pl tl tm th na si pa ta thr G ky DE cn got S0 C0 (hoO 8 (decR ky 0 C0 S0 b) sl O0) (upd L0 n ((decR ky 0 C0 S0 b) (6 * sl + 1))) W0 S1 C1 O1 L1 W1 MP PL ML DL TH NM SZ PT TK) := by rw [hoO_y hn hnk hxn1]
      rw [hE8] at hP hD
      have hE9 : (wM cI cZ cJ mo se co ou le wo ma pl tl tm th na si pa ta thr G ky DE cn got S0 C0 (hoO 8 (decR ky 0 C0 S0 b) sl O0) (upd L0 n ((decR ky 0 C0 S0 b) (6 * sl + 1))) W0 S1 C1 O1 L1 W1 MP PL ML DL TH NM SZ PT TK) = (wM cI cZ cJ mo se co ou le wo ma pl tl tm th na si pa ta thr G ky DE cn got S0 C0 (hoO 8 (decR ky 0 C0 S0 b) sl O0) (hoL 8 (decR ky 0 C0 S0 b) sl L0) W0 S1 C1 O1 L1 W1 MP PL ML DL TH NM SZ PT TK) := by rw [hoL_y hn hnk hxn1]
      rw [hE9] at hP hD
      have hE10 : (wM cI cZ cJ mo se co ou le wo ma pl tl tm th na si pa ta thr G ky DE cn got S0 C0 (hoO 8 (decR ky 0 C0 S0 b) sl O0) (hoL 8 (decR ky 0 C0 S0 b) sl L0) W0 S1 C1 O1 L1 W1 MP PL ML DL TH NM SZ PT TK) = (wM cI cZ cJ mo se co ou le wo ma pl tl tm th na si pa ta thr G ky DE cn got S0 C0 (hoO 8 (decR ky 0 C0 S0 b) sl O0) (hoL 8 (decR ky 0 C0 S0 b) sl L0) (setRow W0 n (wdK (decR ky 0 C0 S0 b) sl (W0 n) 0)) S1 C1 O1 L1 W1 MP PL ML DL TH NM SZ PT TK) := by rw [wdK_0, setRow_id]
      rw [hE10] at hP hD
      have L1l : ∀ (nf k : Nat) (hvL1l : k ≤ 4) (hFL1l : 4 - k < nf) (H : Heap) (locs : List Loc) (ls : Array Slot), va_P D vwCl (wM cI cZ cJ mo se co ou le wo ma pl tl tm th na si pa ta thr G ky DE cn got S0 C0 (hoO 8 (decR ky 0 C0 S0 b) sl O0) (hoL 8 (decR ky 0 C0 S0 b) sl L0) (setRow W0 n (wdK (decR ky 0 C0 S0 b) sl (W0 n) k)) S1 C1 O1 L1 W1 MP PL ML DL TH NM SZ PT TK) H → va_D A (wM cI cZ cJ mo se co ou le wo ma pl tl tm th na si pa ta thr G ky DE cn got S0 C0 (hoO 8 (decR ky 0 C0 S0 b) sl O0) (hoL 8 (decR ky 0 C0 S0 b) sl L0) (setRow W0 n (wdK (decR ky 0 C0 S0 b) sl (W0 n) k)) S1 C1 O1 L1 W1 MP PL ML DL TH NM SZ PT TK) → va_S A s.heap H locs → lv_has ls 7 [(0, .ref mo), (1, .int (nI 0)), (2, .int (nI b)), (3, .int (nI sl)), (4, .int (nI n)), (5, .int (nI n)), (6, .int (nI k))] → W p l e ({ frames := 3, cells := 0, slots := 0, locals := 68 } : Room) s m args below meth c H locs 0 0 Q (F0 m 68 ls []) := by
        intro nf
        induction nf with
        | zero => intro k  hvL1l hFL1l; omega
        | succ nf ihL1l =>
          intro k  hvL1l hFL1l  H locs ls hP hD hS hl
          refine lv_iload hx hb dX5_open_68 (lv_at hl 6 rfl) ?_
          refine lv_iconst (v := nI 4) hx hb dX5_open_70 (by decide) ?_
          refine k_icmp_ge (tgt := 107) hx hb (by omega) (by omega) dX5_open_71 (by decide) (fun c3 => ?_) (fun c3 => ?_)
          · skip
            obtain rfl : k = 4 := by omega
            have hE11 : (wM cI cZ cJ mo se co ou le wo ma pl tl tm th na si pa ta thr G ky DE cn got S0 C0 (hoO 8 (decR ky 0 C0 S0 b) sl O0) (hoL 8 (decR ky 0 C0 S0 b) sl L0) (setRow W0 n (wdK (decR ky 0 C0 S0 b) sl (W0 n) 4)) S1 C1 O1 L1 W1 MP PL ML DL TH NM SZ PT TK) = (wM cI cZ cJ mo se co ou le wo ma pl tl tm th na si pa ta thr G ky DE cn got S0 C0 (hoO 8 (decR ky 0 C0 S0 b) sl O0) (hoL 8 (decR ky 0 C0 S0 b) sl L0) (hoW 8 (decR ky 0 C0 S0 b) sl W0) S1 C1 O1 L1 W1 MP PL ML DL TH NM SZ PT TK) := by rw [hoW_y hn hnk hxn1]
            rw [hE11] at hP hD
            exact k_retv () hx hb hr hK hS hlk dX5_open_107 hP hD (trivial) hQ
          · skip
            refine lv_aload_n hx hb dX5_open_74 rfl (lv_at hl 0 rfl) ?_
            refine va_get (D := D) (ci := 5) (v := .ref wo) (C := RX5) (T := TX5) (N := 20) hx hb hts (by decide +kernel) hown hK hP 0 rfl rfl 9 (by decide) (hts (.fieldLink RX5 23 "VeiledFilesModel" "words" "[I") (by decide +kernel)) (fun _ h9 => h9) rfl dX5_open_75 ?_
            refine lv_iconst (v := nI 4) hx hb dX5_open_78 (by decide) ?_
            refine lv_iload hx hb dX5_open_79 (lv_at hl 5 rfl) ?_
            refine lv_imul hx hb dX5_open_81 ?_
            refine k_t1 (show (nI 4) * (nI n) = nI (4 * n) from pk_mul _ _) ?_
            refine lv_iload hx hb dX5_open_82 (lv_at hl 6 rfl) ?_
            refine lv_iadd hx hb dX5_open_84 ?_
            refine k_t1 (show (nI (4 * n)) + (nI k) = nI (4 * n + k) from nI_add _ _) ?_
            refine lv_aload_n hx hb dX5_open_85 rfl (lv_at hl 0 rfl) ?_
            refine lv_iload_n hx hb dX5_open_86 rfl (lv_at hl 1 rfl) ?_
            refine lv_iload_n hx hb dX5_open_87 rfl (lv_at hl 2 rfl) ?_
            refine lv_bipush (v := nI 6) hx hb dX5_open_88 (by decide) ?_
            refine lv_iload_n hx hb dX5_open_90 rfl (lv_at hl 3 rfl) ?_
            refine lv_imul hx hb dX5_open_91 ?_
            refine k_t1 (show (nI 6) * (nI sl) = nI (6 * sl) from pk_mul _ _) ?_
            refine lv_iconst (v := nI 2) hx hb dX5_open_92 (by decide) ?_
            refine lv_iadd hx hb dX5_open_93 ?_
            refine k_t1 (show (nI (6 * sl)) + (nI 2) = nI (6 * sl + 2) from nI_add _ _) ?_
            refine lv_iload hx hb dX5_open_94 (lv_at hl 6 rfl) ?_
            refine lv_iadd hx hb dX5_open_96 ?_
            refine k_t1 (show (nI (6 * sl + 2)) + (nI k) = nI (6 * sl + 2 + k) from nI_add _ _) ?_
            refine k_vi (As := [.int (nI 0), .int (nI b), .int (nI (6 * sl + 2 + k))]) (rest := [.int (nI (4 * n + k)), .ref wo]) (w2 := fun u : Unit => (wM cI cZ cJ mo se co ou le wo ma pl tl tm th na si pa ta thr G ky DE cn got S0 C0 (hoO 8 (decR ky 0 C0 S0 b) sl O0) (hoL 8 (decR ky 0 C0 S0 b) sl L0) (setRow W0 n (wdK (decR ky 0 C0 S0 b) sl (W0 n) k)) S1 C1 O1 L1 W1 MP PL ML DL TH NM SZ PT TK)) ⟨hx, hb, hml, hown, hts⟩ (c_m_plain0 l D cI cZ cJ mo se co ou le wo ma pl tl tm th na si pa ta thr G ky DE cn got S0 C0 (hoO 8 (decR ky 0 C0 S0 b) sl O0) (hoL 8 (decR ky 0 C0 S0 b) sl L0) (setRow W0 n (wdK (decR ky 0 C0 S0 b) sl (W0 n) k)) S1 C1 O1 L1 W1 MP PL ML DL TH NM SZ PT TK b (6 * sl + 2 + k) hb0 (by omega)) (cwV 3 hts gX5_open_X5_plainWord rfl rfl rfl (by decide +kernel) ⟨Nat.le_of_ble_eq_true rfl, Nat.le_of_ble_eq_true rfl⟩) hP hD hK hS hA [0, 1, 2, 3, 4, 5, 6, 7, 8, 9, 10, 11, 12, 13, 14] [] [0, 1, 2, 3, 4, 5, 6, 7, 8, 9, 10, 11, 12, 13, 14] rfl rfl (by decide) (fun u => rfl) rfl rfl (q0 := 0) rfl rfl hl.1 rfl (Nat.le_of_ble_eq_true rfl) dX5_open_97 ⟨Nat.le_of_ble_eq_true rfl, Nat.le_of_ble_eq_true rfl⟩ (fun r u H locs hu12 hP hD hS => ?_)
            refine k_t1 (show r = (decR ky 0 C0 S0 b) (6 * sl + 2 + k) from hu12) ?_
            refine k_iast hx hb hK hP hD hS 5 0 rfl rfl (4 * n + k) (by omega) (by omega) (g := fl4 (jn 8 (setRow W0 n (wdK (decR ky 0 C0 S0 b) sl (W0 n) (k + 1))) W1)) ((uW0 (p := n) (i := k) (by omega) (by omega) (by omega)).trans (by rw [setRow_s, setRow_2, wdK_s])) dX5_open_100 (fun H locs hP hD hS => ?_)
            have hP : va_P D vwCl (wM cI cZ cJ mo se co ou le wo ma pl tl tm th na si pa ta thr G ky DE cn got S0 C0 (hoO 8 (decR ky 0 C0 S0 b) sl O0) (hoL 8 (decR ky 0 C0 S0 b) sl L0) (setRow W0 n (wdK (decR ky 0 C0 S0 b) sl (W0 n) (k + 1))) S1 C1 O1 L1 W1 MP PL ML DL TH NM SZ PT TK) _ := hP
            have hD : va_D A (wM cI cZ cJ mo se co ou le wo ma pl tl tm th na si pa ta thr G ky DE cn got S0 C0 (hoO 8 (decR ky 0 C0 S0 b) sl O0) (hoL 8 (decR ky 0 C0 S0 b) sl L0) (setRow W0 n (wdK (decR ky 0 C0 S0 b) sl (W0 n) (k + 1))) S1 C1 O1 L1 W1 MP PL ML DL TH NM SZ PT TK) := hD
            refine lv_iinc (v := nI (k + 1)) (lv' := [(6, .int (nI (k + 1))), (0, .ref mo), (1, .int (nI 0)), (2, .int (nI b)), (3, .int (nI sl)), (4, .int (nI n)), (5, .int (nI n))]) hx hb dX5_open_101 hl (k := 6) rfl (nI_add k 1) (by decide) rfl (fun ls hl => ?_)
            refine lv_goto (tgt := 68) hx hb dX5_open_104 (by decide) ?_
            exact ihL1l (k + 1)  (by omega) (by omega)  _ _ _ hP hD hS (lv_sub hl [1, 2, 3, 4, 5, 6, 0] rfl)
      exact L1l (4 + 1) 0  (by omega) (by omega)  _ _ _ hP hD hS (lv_sub hl [3, 4, 5, 6, 2, 1, 0] rfl)
    · skip
      have hE13 : (wM cI cZ cJ mo se co ou le wo ma pl tl tm th na si pa ta thr G ky DE cn got S0 C0 O0 L0 W0 S1 C1 O1 L1 W1 MP PL ML DL TH NM SZ PT TK) = (wM cI cZ cJ mo se co ou le wo ma pl tl tm th na si pa ta thr G ky DE cn got S0 C0 (hoO 8 (decR ky 0 C0 S0 b) sl O0) L0 W0 S1 C1 O1 L1 W1 MP PL ML DL TH NM SZ PT TK) := by rw [hoO_n (noB_ge (Int32.not_lt.mp c2))]
      rw [hE13] at hP hD
      have hE14 : (wM cI cZ cJ mo se co ou le wo ma pl tl tm th na si pa ta thr G ky DE cn got S0 C0 (hoO 8 (decR ky 0 C0 S0 b) sl O0) L0 W0 S1 C1 O1 L1 W1 MP PL ML DL TH NM SZ PT TK) = (wM cI cZ cJ mo se co ou le wo ma pl tl tm th na si pa ta thr G ky DE cn got S0 C0 (hoO 8 (decR ky 0 C0 S0 b) sl O0) (hoL 8 (decR ky 0 C0 S0 b) sl L0) W0 S1 C1 O1 L1 W1 MP PL ML DL TH NM SZ PT TK) := by rw [hoL_n (noB_ge (Int32.not_lt.mp c2))]
      rw [hE14] at hP hD
      have hE15 : (wM cI cZ cJ mo se co ou le wo ma pl tl tm th na si pa ta thr G ky DE cn got S0 C0 (hoO 8 (decR ky 0 C0 S0 b) sl O0) (hoL 8 (decR ky 0 C0 S0 b) sl L0) W0 S1 C1 O1 L1 W1 MP PL ML DL TH NM SZ PT TK) = (wM cI cZ cJ mo se co ou le wo ma pl tl tm th na si pa ta thr G ky DE cn got S0 C0 (hoO 8 (decR ky 0 C0 S0 b) sl O0) (hoL 8 (decR ky 0 C0 S0 b) sl L0) (hoW 8 (decR ky 0 C0 S0 b) sl W0) S1 C1 O1 L1 W1 MP PL ML DL TH NM SZ PT TK) := by rw [hoW_n (noB_ge (Int32.not_lt.mp c2))]
      rw [hE15] at hP hD
      exact k_retv () hx hb hr hK hS hlk dX5_open_28 hP hD (trivial) hQ

set_option maxHeartbeats 800000 in
set_option maxRecDepth 100000 in
theorem c_m_take0_y (l : Launch) (D : va_G) (cI cZ cJ : ClassId) (mo : Nat) (se : Nat) (co : Nat) (ou : Nat) (le : Nat) (wo : Nat) (ma : Nat) (pl : Nat) (tl : Nat) (tm : Nat) (th : Nat) (na : Nat) (si : Nat) (pa : Nat) (ta : Nat) (thr : Int32) (G : Int32) (ky : Int32) (DE : Int32) (cn : Nat) (got : Int32) (S0 : Nat → Nat → Int32) (C0 : Nat → Int32) (O0 : Nat → Int32) (L0 : Nat → Int32) (W0 : Nat → Nat → Int32) (S1 : Nat → Nat → Int32) (C1 : Nat → Int32) (O1 : Nat → Int32) (L1 : Nat → Int32) (W1 : Nat → Nat → Int32) (MP : Nat → Nat) (PL : Nat → Int32) (ML : Nat → Int32) (DL : Nat → Int32) (TH : Nat → Int32) (NM : Nat → Int64) (SZ : Nat → Nat) (PT : Nat → Nat) (TK : Nat → Int32) (l0 : Nat) (hl0 : l0 < 4) (hw : ∀ up, up < 3 → wholeB ky 0 C0 S0 (pathB 4 l0 up)) : KI l yX5_take wsX5_take ({ frames := 4, cells := 0, slots := 0, locals := 94 }) D (kty cI cZ cJ) [.ref mo, .int (nI 0), .int (nI l0)] (wM cI cZ cJ mo se co ou le wo ma pl tl tm th na si pa ta thr G ky DE cn got S0 C0 O0 L0 W0 S1 C1 O1 L1 W1 MP PL ML DL TH NM SZ PT TK) (fun r (_ : Unit) => r = 1) (fun _ : Unit => (wM cI cZ cJ mo se co ou le wo ma pl tl tm th na si pa ta thr G ky DE cn got S0 C0 (tkO 8 (rowsP ky 0 C0 S0 4 l0) O0 3) (tkL 8 (rowsP ky 0 C0 S0 4 l0) L0 3) (tkW 8 (rowsP ky 0 C0 S0 4 l0) W0 3) S1 C1 O1 L1 W1 MP PL ML DL TH NM SZ PT TK)) 0 0 := by
  refine k_headI (cc := cX5_take) (maxL := 6) (ret := (some .boolean)) (by decide) rfl (Nat.le_of_ble_eq_true rfl) ?_
  intro p e s m below meth c A ls args Q hx hb hr hml hts hown hlk hnm hA hK hP hD hS hl hQ
  have hl : lv_has ls 6 [(0, .ref mo), (1, .int (nI 0)), (2, .int (nI l0))] := hl
  refine lv_iconst (v := nI 0) hx hb dX5_take_0 (by decide) ?_
  refine lv_istore_n (lv' := [(3, .int (nI 0)), (0, .ref mo), (1, .int (nI 0)), (2, .int (nI l0))]) hx hb dX5_take_1 rfl hl (by decide) rfl (fun ls hl => ?_)
  have L1l : ∀ (nf k : Nat) (hvL1l : k ≤ 3) (hFL1l : 3 - k < nf) (H : Heap) (locs : List Loc) (ls : Array Slot), va_P D vwCl (wM cI cZ cJ mo se co ou le wo ma pl tl tm th na si pa ta thr G ky DE cn got S0 C0 O0 L0 W0 S1 C1 O1 L1 W1 MP PL ML DL TH NM SZ PT TK) H → va_D A (wM cI cZ cJ mo se co ou le wo ma pl tl tm th na si pa ta thr G ky DE cn got S0 C0 O0 L0 W0 S1 C1 O1 L1 W1 MP PL ML DL TH NM SZ PT TK) → va_S A s.heap H locs → lv_has ls 6 [(0, .ref mo), (1, .int (nI 0)), (2, .int (nI l0)), (3, .int (nI k))] → W p l e ({ frames := 4, cells := 0, slots := 0, locals := 94 } : Room) s m args below meth c H locs 0 0 Q (F0 m 2 ls []) := by
    intro nf
    induction nf with
    | zero => intro k  hvL1l hFL1l; omega
    | succ nf ihL1l =>
      intro k  hvL1l hFL1l  H locs ls hP hD hS hl
      refine lv_iload_n hx hb dX5_take_2 rfl (lv_at hl 3 rfl) ?_
      refine lv_iload_n hx hb dX5_take_3 rfl (lv_at hl 1 rfl) ?_
      refine k_si (As := [.int (nI 0)]) (rest := [.int (nI k)]) (w2 := fun u : Unit => (wM cI cZ cJ mo se co ou le wo ma pl tl tm th na si pa ta thr G ky DE cn got S0 C0 O0 L0 W0 S1 C1 O1 L1 W1 MP PL ML DL TH NM SZ PT TK)) ⟨hx, hb, hml, hown, hts⟩ (c_m_levels0 l D cI cZ cJ  ) (va_cwS 1 hts gX5_take_X5_levels rfl rfl rfl (by decide +kernel) ⟨Nat.le_of_ble_eq_true rfl, Nat.le_of_ble_eq_true rfl⟩) hP hD hK hS hA [] [0, 1, 2, 3, 4, 5, 6, 7, 8, 9, 10, 11, 12, 13, 14] [0, 1, 2, 3, 4, 5, 6, 7, 8, 9, 10, 11, 12, 13, 14] rfl rfl (by decide) (fun u => rfl) rfl hl.1 rfl (Nat.le_of_ble_eq_true rfl) dX5_take_4 ⟨Nat.le_of_ble_eq_true rfl, Nat.le_of_ble_eq_true rfl⟩ (fun r u H locs hu1 hP hD hS => ?_)
      refine k_t1 (show r = nI 3 from hu1) ?_
      refine k_icmp_ge (tgt := 53) hx hb (by omega) (by omega) dX5_take_7 (by decide) (fun c1 => ?_) (fun c1 => ?_)
      · skip
        refine lv_iconst (v := nI 0) hx hb dX5_take_53 (by decide) ?_
        refine lv_istore_n (lv' := [(3, .int (nI 0)), (0, .ref mo), (1, .int (nI 0)), (2, .int (nI l0))]) hx hb dX5_take_54 rfl hl (by decide) rfl (fun ls hl => ?_)
        have L2l : ∀ (nf k : Nat) (hvL2l : k ≤ 3) (hFL2l : 3 - k < nf) (H : Heap) (locs : List Loc) (ls : Array Slot), va_P D vwCl (wM cI cZ cJ mo se co ou le wo ma pl tl tm th na si pa ta thr G ky DE cn got S0 C0 (tkO 8 (rowsP ky 0 C0 S0 4 l0) O0 k) (tkL 8 (rowsP ky 0 C0 S0 4 l0) L0 k) (tkW 8 (rowsP ky 0 C0 S0 4 l0) W0 k) S1 C1 O1 L1 W1 MP PL ML DL TH NM SZ PT TK) H → va_D A (wM cI cZ cJ mo se co ou le wo ma pl tl tm th na si pa ta thr G ky DE cn got S0 C0 (tkO 8 (rowsP ky 0 C0 S0 4 l0) O0 k) (tkL 8 (rowsP ky 0 C0 S0 4 l0) L0 k) (tkW 8 (rowsP ky 0 C0 S0 4 l0) W0 k) S1 C1 O1 L1 W1 MP PL ML DL TH NM SZ PT TK) → va_S A s.heap H locs → lv_has ls 6 [(0, .ref mo), (1, .int (nI 0)), (2, .int (nI l0)), (3, .int (nI k))] → W p l e ({ frames := 4, cells := 0, slots := 0, locals := 94 } : Room) s m args below meth c H locs 0 0 Q (F0 m 55 ls []) := by
          intro nf
          induction nf with
          | zero => intro k  hvL2l hFL2l; omega
          | succ nf ihL2l =>
            intro k  hvL2l hFL2l  H locs ls hP hD hS hl
            refine lv_iload_n hx hb dX5_take_55 rfl (lv_at hl 3 rfl) ?_
            refine lv_iload_n hx hb dX5_take_56 rfl (lv_at hl 1 rfl) ?_
            refine k_si (As := [.int (nI 0)]) (rest := [.int (nI k)]) (w2 := fun u : Unit => (wM cI cZ cJ mo se co ou le wo ma pl tl tm th na si pa ta thr G ky DE cn got S0 C0 (tkO 8 (rowsP ky 0 C0 S0 4 l0) O0 k) (tkL 8 (rowsP ky 0 C0 S0 4 l0) L0 k) (tkW 8 (rowsP ky 0 C0 S0 4 l0) W0 k) S1 C1 O1 L1 W1 MP PL ML DL TH NM SZ PT TK)) ⟨hx, hb, hml, hown, hts⟩ (c_m_levels0 l D cI cZ cJ  ) (va_cwS 1 hts gX5_take_X5_levels rfl rfl rfl (by decide +kernel) ⟨Nat.le_of_ble_eq_true rfl, Nat.le_of_ble_eq_true rfl⟩) hP hD hK hS hA [] [0, 1, 2, 3, 4, 5, 6, 7, 8, 9, 10, 11, 12, 13, 14] [0, 1, 2, 3, 4, 5, 6, 7, 8, 9, 10, 11, 12, 13, 14] rfl rfl (by decide) (fun u => rfl) rfl hl.1 rfl (Nat.le_of_ble_eq_true rfl) dX5_take_57 ⟨Nat.le_of_ble_eq_true rfl, Nat.le_of_ble_eq_true rfl⟩ (fun r u H locs hu2 hP hD hS => ?_)
            refine k_t1 (show r = nI 3 from hu2) ?_
            refine k_icmp_ge (tgt := 101) hx hb (by omega) (by omega) dX5_take_60 (by decide) (fun c2 => ?_) (fun c2 => ?_)
            · skip
              obtain rfl : k = 3 := by omega
              refine lv_iconst (v := nI 1) hx hb dX5_take_101 (by decide) ?_
              exact k_retz () hx hb hr hK hS hlk dX5_take_102 ((by first | exact Or.inl rfl | exact Or.inr rfl)) hP hD (by exact rfl) hQ
            · skip
              refine lv_iload_n hx hb dX5_take_63 rfl (lv_at hl 1 rfl) ?_
              refine lv_iload_n hx hb dX5_take_64 rfl (lv_at hl 2 rfl) ?_
              refine lv_iload_n hx hb dX5_take_65 rfl (lv_at hl 3 rfl) ?_
              refine k_si (As := [.int (nI 0), .int (nI l0), .int (nI k)]) (rest := []) (w2 := fun u : Unit => (wM cI cZ cJ mo se co ou le wo ma pl tl tm th na si pa ta thr G ky DE cn got S0 C0 (tkO 8 (rowsP ky 0 C0 S0 4 l0) O0 k) (tkL 8 (rowsP ky 0 C0 S0 4 l0) L0 k) (tkW 8 (rowsP ky 0 C0 S0 4 l0) W0 k) S1 C1 O1 L1 W1 MP PL ML DL TH NM SZ PT TK)) ⟨hx, hb, hml, hown, hts⟩ (c_m_onPath0 l D cI cZ cJ  l0 k hl0 c2) (va_cwS 3 hts gX5_take_X5_onPath rfl rfl rfl (by decide +kernel) ⟨Nat.le_of_ble_eq_true rfl, Nat.le_of_ble_eq_true rfl⟩) hP hD hK hS hA [] [0, 1, 2, 3, 4, 5, 6, 7, 8, 9, 10, 11, 12, 13, 14] [0, 1, 2, 3, 4, 5, 6, 7, 8, 9, 10, 11, 12, 13, 14] rfl rfl (by decide) (fun u => rfl) rfl hl.1 rfl (Nat.le_of_ble_eq_true rfl) dX5_take_66 ⟨Nat.le_of_ble_eq_true rfl, Nat.le_of_ble_eq_true rfl⟩ (fun r u H locs hu3 hP hD hS => ?_)
              refine k_t1 (show r = nI (pathB 4 l0 k) from hu3) ?_
              have hpb : pathB 4 l0 k < 7 := pathB_lt tp0 hl0
              refine lv_istore (lv' := [(4, .int (nI (pathB 4 l0 k))), (0, .ref mo), (1, .int (nI 0)), (2, .int (nI l0)), (3, .int (nI k))]) hx hb dX5_take_69 hl (by decide) rfl (fun ls hl => ?_)
              refine lv_iconst (v := nI 0) hx hb dX5_take_71 (by decide) ?_
              refine lv_istore (lv' := [(5, .int (nI 0)), (4, .int (nI (pathB 4 l0 k))), (0, .ref mo), (1, .int (nI 0)), (2, .int (nI l0)), (3, .int (nI k))]) hx hb dX5_take_72 hl (by decide) rfl (fun ls hl => ?_)
              have L3l : ∀ (nf q : Nat) (hvL3l : q ≤ 4) (hFL3l : 4 - q < nf) (H : Heap) (locs : List Loc) (ls : Array Slot), va_P D vwCl (wM cI cZ cJ mo se co ou le wo ma pl tl tm th na si pa ta thr G ky DE cn got S0 C0 (opO 8 ((rowsP ky 0 C0 S0 4 l0) k) (tkO 8 (rowsP ky 0 C0 S0 4 l0) O0 k) q) (opL 8 ((rowsP ky 0 C0 S0 4 l0) k) (tkL 8 (rowsP ky 0 C0 S0 4 l0) L0 k) q) (opW 8 ((rowsP ky 0 C0 S0 4 l0) k) (tkW 8 (rowsP ky 0 C0 S0 4 l0) W0 k) q) S1 C1 O1 L1 W1 MP PL ML DL TH NM SZ PT TK) H → va_D A (wM cI cZ cJ mo se co ou le wo ma pl tl tm th na si pa ta thr G ky DE cn got S0 C0 (opO 8 ((rowsP ky 0 C0 S0 4 l0) k) (tkO 8 (rowsP ky 0 C0 S0 4 l0) O0 k) q) (opL 8 ((rowsP ky 0 C0 S0 4 l0) k) (tkL 8 (rowsP ky 0 C0 S0 4 l0) L0 k) q) (opW 8 ((rowsP ky 0 C0 S0 4 l0) k) (tkW 8 (rowsP ky 0 C0 S0 4 l0) W0 k) q) S1 C1 O1 L1 W1 MP PL ML DL TH NM SZ PT TK) → va_S A s.heap H locs → lv_has ls 6 [(0, .ref mo), (1, .int (nI 0)), (2, .int (nI l0)), (3, .int (nI k)), (4, .int (nI (pathB 4 l0 k))), (5, .int (nI q))] → W p l e ({ frames := 4, cells := 0, slots := 0, locals := 94 } : Room) s m args below meth c H locs 0 0 Q (F0 m 74 ls []) := by
                intro nf
                induction nf with
                | zero => intro q  hvL3l hFL3l; omega
                | succ nf ihL3l =>
                  intro q  hvL3l hFL3l  H locs ls hP hD hS hl
                  refine lv_iload hx hb dX5_take_74 (lv_at hl 5 rfl) ?_
                  refine lv_iconst (v := nI 4) hx hb dX5_take_76 (by decide) ?_
                  refine k_icmp_ge (tgt := 95) hx hb (by omega) (by omega) dX5_take_77 (by decide) (fun c3 => ?_) (fun c3 => ?_)
                  · skip
                    obtain rfl : q = 4 := by omega
                    have hP : va_P D vwCl (wM cI cZ cJ mo se co ou le wo ma pl tl tm th na si pa ta thr G ky DE cn got S0 C0 (tkO 8 (rowsP ky 0 C0 S0 4 l0) O0 (k + 1)) (tkL 8 (rowsP ky 0 C0 S0 4 l0) L0 (k + 1)) (tkW 8 (rowsP ky 0 C0 S0 4 l0) W0 (k + 1)) S1 C1 O1 L1 W1 MP PL ML DL TH NM SZ PT TK) _ := hP
                    have hD : va_D A (wM cI cZ cJ mo se co ou le wo ma pl tl tm th na si pa ta thr G ky DE cn got S0 C0 (tkO 8 (rowsP ky 0 C0 S0 4 l0) O0 (k + 1)) (tkL 8 (rowsP ky 0 C0 S0 4 l0) L0 (k + 1)) (tkW 8 (rowsP ky 0 C0 S0 4 l0) W0 (k + 1)) S1 C1 O1 L1 W1 MP PL ML DL TH NM SZ PT TK) := hD
                    refine lv_iinc (v := nI (k + 1)) (lv' := [(3, .int (nI (k + 1))), (0, .ref mo), (1, .int (nI 0)), (2, .int (nI l0)), (4, .int (nI (pathB 4 l0 k))), (5, .int (nI 4))]) hx hb dX5_take_95 hl (k := 3) rfl (nI_add k 1) (by decide) rfl (fun ls hl => ?_)
                    refine lv_goto (tgt := 55) hx hb dX5_take_98 (by decide) ?_
                    exact ihL2l (k + 1)  (by omega) (by omega)  _ _ _ hP hD hS (lv_sub hl [1, 2, 3, 0] rfl)
                  · skip
                    refine lv_aload_n hx hb dX5_take_80 rfl (lv_at hl 0 rfl) ?_
                    refine lv_iload_n hx hb dX5_take_81 rfl (lv_at hl 1 rfl) ?_
                    refine lv_iload hx hb dX5_take_82 (lv_at hl 4 rfl) ?_
                    refine lv_iload hx hb dX5_take_84 (lv_at hl 5 rfl) ?_
                    refine k_vv (As := [.int (nI 0), .int (nI (pathB 4 l0 k)), .int (nI q)]) (rest := []) (w2 := fun u : Unit => (wM cI cZ cJ mo se co ou le wo ma pl tl tm th na si pa ta thr G ky DE cn got S0 C0 (hoO 8 (decR ky 0 C0 S0 (pathB 4 l0 k)) q (opO 8 ((rowsP ky 0 C0 S0 4 l0) k) (tkO 8 (rowsP ky 0 C0 S0 4 l0) O0 k) q)) (hoL 8 (decR ky 0 C0 S0 (pathB 4 l0 k)) q (opL 8 ((rowsP ky 0 C0 S0 4 l0) k) (tkL 8 (rowsP ky 0 C0 S0 4 l0) L0 k) q)) (hoW 8 (decR ky 0 C0 S0 (pathB 4 l0 k)) q (opW 8 ((rowsP ky 0 C0 S0 4 l0) k) (tkW 8 (rowsP ky 0 C0 S0 4 l0) W0 k) q)) S1 C1 O1 L1 W1 MP PL ML DL TH NM SZ PT TK)) ⟨hx, hb, hml, hown, hts⟩ (c_m_open0 l D cI cZ cJ mo se co ou le wo ma pl tl tm th na si pa ta thr G ky DE cn got S0 C0 (opO 8 ((rowsP ky 0 C0 S0 4 l0) k) (tkO 8 (rowsP ky 0 C0 S0 4 l0) O0 k) q) (opL 8 ((rowsP ky 0 C0 S0 4 l0) k) (tkL 8 (rowsP ky 0 C0 S0 4 l0) L0 k) q) (opW 8 ((rowsP ky 0 C0 S0 4 l0) k) (tkW 8 (rowsP ky 0 C0 S0 4 l0) W0 k) q) S1 C1 O1 L1 W1 MP PL ML DL TH NM SZ PT TK (pathB 4 l0 k) q hpb c3) (cwV 3 hts gX5_take_X5_open rfl rfl rfl (by decide +kernel) ⟨Nat.le_of_ble_eq_true rfl, Nat.le_of_ble_eq_true rfl⟩) hP hD hK hS hA [0, 1, 2, 3, 4, 5, 6, 7, 8, 9, 10, 11, 12, 13, 14] [] [0, 1, 2, 3, 4, 5, 6, 7, 8, 9, 10, 11, 12, 13, 14] rfl rfl (by decide) (fun u => rfl) rfl rfl (q0 := 0) rfl rfl hl.1 rfl (Nat.le_of_ble_eq_true rfl) dX5_take_86 ⟨Nat.le_of_ble_eq_true rfl, Nat.le_of_ble_eq_true rfl⟩ (fun u H locs hu4 hP hD hS => ?_)
                    have hP : va_P D vwCl (wM cI cZ cJ mo se co ou le wo ma pl tl tm th na si pa ta thr G ky DE cn got S0 C0 (opO 8 ((rowsP ky 0 C0 S0 4 l0) k) (tkO 8 (rowsP ky 0 C0 S0 4 l0) O0 k) (q + 1)) (opL 8 ((rowsP ky 0 C0 S0 4 l0) k) (tkL 8 (rowsP ky 0 C0 S0 4 l0) L0 k) (q + 1)) (opW 8 ((rowsP ky 0 C0 S0 4 l0) k) (tkW 8 (rowsP ky 0 C0 S0 4 l0) W0 k) (q + 1)) S1 C1 O1 L1 W1 MP PL ML DL TH NM SZ PT TK) _ := hP
                    have hD : va_D A (wM cI cZ cJ mo se co ou le wo ma pl tl tm th na si pa ta thr G ky DE cn got S0 C0 (opO 8 ((rowsP ky 0 C0 S0 4 l0) k) (tkO 8 (rowsP ky 0 C0 S0 4 l0) O0 k) (q + 1)) (opL 8 ((rowsP ky 0 C0 S0 4 l0) k) (tkL 8 (rowsP ky 0 C0 S0 4 l0) L0 k) (q + 1)) (opW 8 ((rowsP ky 0 C0 S0 4 l0) k) (tkW 8 (rowsP ky 0 C0 S0 4 l0) W0 k) (q + 1)) S1 C1 O1 L1 W1 MP PL ML DL TH NM SZ PT TK) := hD
                    refine lv_iinc (v := nI (q + 1)) (lv' := [(5, .int (nI (q + 1))), (0, .ref mo), (1, .int (nI 0)), (2, .int (nI l0)), (3, .int (nI k)), (4, .int (nI (pathB 4 l0 k)))]) hx hb dX5_take_89 hl (k := 5) rfl (nI_add q 1) (by decide) rfl (fun ls hl => ?_)
                    refine lv_goto (tgt := 74) hx hb dX5_take_92 (by decide) ?_
                    exact ihL3l (q + 1)  (by omega) (by omega)  _ _ _ hP hD hS (lv_sub hl [1, 2, 3, 4, 5, 0] rfl)
              exact L3l (4 + 1) 0  (by omega) (by omega)  _ _ _ hP hD hS (lv_sub hl [2, 3, 4, 5, 1, 0] rfl)
        exact L2l (3 + 1) 0  (by omega) (by omega)  _ _ _ hP hD hS (lv_sub hl [1, 2, 3, 0] rfl)
      · skip
        refine lv_iload_n hx hb dX5_take_10 rfl (lv_at hl 1 rfl) ?_
        refine lv_iload_n hx hb dX5_take_11 rfl (lv_at hl 2 rfl) ?_
        refine lv_iload_n hx hb dX5_take_12 rfl (lv_at hl 3 rfl) ?_
        refine k_si (As := [.int (nI 0), .int (nI l0), .int (nI k)]) (rest := []) (w2 := fun u : Unit => (wM cI cZ cJ mo se co ou le wo ma pl tl tm th na si pa ta thr G ky DE cn got S0 C0 O0 L0 W0 S1 C1 O1 L1 W1 MP PL ML DL TH NM SZ PT TK)) ⟨hx, hb, hml, hown, hts⟩ (c_m_onPath0 l D cI cZ cJ  l0 k hl0 c1) (va_cwS 3 hts gX5_take_X5_onPath rfl rfl rfl (by decide +kernel) ⟨Nat.le_of_ble_eq_true rfl, Nat.le_of_ble_eq_true rfl⟩) hP hD hK hS hA [] [0, 1, 2, 3, 4, 5, 6, 7, 8, 9, 10, 11, 12, 13, 14] [0, 1, 2, 3, 4, 5, 6, 7, 8, 9, 10, 11, 12, 13, 14] rfl rfl (by decide) (fun u => rfl) rfl hl.1 rfl (Nat.le_of_ble_eq_true rfl) dX5_take_13 ⟨Nat.le_of_ble_eq_true rfl, Nat.le_of_ble_eq_true rfl⟩ (fun r u H locs hu5 hP hD hS => ?_)
        refine k_t1 (show r = nI (pathB 4 l0 k) from hu5) ?_
        have hpb : pathB 4 l0 k < 7 := pathB_lt tp0 hl0
        refine lv_istore (lv' := [(4, .int (nI (pathB 4 l0 k))), (0, .ref mo), (1, .int (nI 0)), (2, .int (nI l0)), (3, .int (nI k))]) hx hb dX5_take_16 hl (by decide) rfl (fun ls hl => ?_)
        refine lv_aload_n hx hb dX5_take_18 rfl (lv_at hl 1 rfl) ?_
        refine va_get (D := D) (ci := 5) (v := .ref se) (C := RX5) (T := TX5) (N := 20) hx hb hts (by decide +kernel) hown hK hP 0 rfl rfl 5 (by decide) (hts (.fieldLink RX5 7 "VeiledFilesModel" "sealed" "[I") (by decide +kernel)) (fun _ h9 => h9) rfl dX5_take_19 ?_
        refine lv_bipush (v := nI 25) hx hb dX5_take_22 (by decide) ?_
        refine lv_iload_n hx hb dX5_take_24 rfl (lv_at hl 2 rfl) ?_
        refine lv_iload hx hb dX5_take_25 (lv_at hl 0 rfl) ?_
        refine k_si (As := [.int (nI 0), .int (nI (pathB 4 l0 k))]) (rest := [.int (nI 25), .ref se]) (w2 := fun u : Unit => (wM cI cZ cJ mo se co ou le wo ma pl tl tm th na si pa ta thr G ky DE cn got S0 C0 O0 L0 W0 S1 C1 O1 L1 W1 MP PL ML DL TH NM SZ PT TK)) ⟨hx, hb, hml, hown, hts⟩ (c_m_place0 l D cI cZ cJ  (pathB 4 l0 k)) (va_cwS 2 hts gX5_take_X5_place rfl rfl rfl (by decide +kernel) ⟨Nat.le_of_ble_eq_true rfl, Nat.le_of_ble_eq_true rfl⟩) hP hD hK hS hA [] [0, 1, 2, 3, 4, 5, 6, 7, 8, 9, 10, 11, 12, 13, 14] [0, 1, 2, 3, 4, 5, 6, 7, 8, 9, 10, 11, 12, 13, 14] rfl rfl (by decide) (fun u => rfl) rfl hl.1 rfl (Nat.le_of_ble_eq_true rfl) dX5_take_27 ⟨Nat.le_of_ble_eq_true rfl, Nat.le_of_ble_eq_true rfl⟩ (fun r u H locs hu6 hP hD hS => ?_)
        refine k_t1 (show r = nI (pathB 4 l0 k) from hu6) ?_
        refine lv_imul hx hb dX5_take_30 ?_
        refine k_t1 (show (nI 25) * (nI (pathB 4 l0 k)) = nI (25 * (pathB 4 l0 k)) from pk_mul _ _) ?_
        refine lv_bipush (v := nI 24) hx hb dX5_take_31 (by decide) ?_
        refine lv_iadd hx hb dX5_take_33 ?_
        refine k_t1 (show (nI (25 * (pathB 4 l0 k))) + (nI 24) = nI (25 * (pathB 4 l0 k) + 24) from nI_add _ _) ?_
        refine k_iald hx hb hK hP 1 0 rfl rfl (25 * (pathB 4 l0 k) + 24) (by omega) (by omega) (v := S0 (pathB 4 l0 k) 24) (rS0 (p := pathB 4 l0 k) (by omega) (by omega) (by omega)) dX5_take_34 ?_
        refine lv_aload_n hx hb dX5_take_35 rfl (lv_at hl 1 rfl) ?_
        refine lv_iload_n hx hb dX5_take_36 rfl (lv_at hl 2 rfl) ?_
        refine lv_iload hx hb dX5_take_37 (lv_at hl 0 rfl) ?_
        refine k_vi (As := [.int (nI 0), .int (nI (pathB 4 l0 k))]) (rest := [.int (S0 (pathB 4 l0 k) 24)]) (w2 := fun u : Unit => (wM cI cZ cJ mo se co ou le wo ma pl tl tm th na si pa ta thr G ky DE cn got S0 C0 O0 L0 W0 S1 C1 O1 L1 W1 MP PL ML DL TH NM SZ PT TK)) ⟨hx, hb, hml, hown, hts⟩ (c_m_tag0 l D cI cZ cJ mo se co ou le wo ma pl tl tm th na si pa ta thr G ky DE cn got S0 C0 O0 L0 W0 S1 C1 O1 L1 W1 MP PL ML DL TH NM SZ PT TK (pathB 4 l0 k) hpb) (cwV 2 hts gX5_take_X5_tag rfl rfl rfl (by decide +kernel) ⟨Nat.le_of_ble_eq_true rfl, Nat.le_of_ble_eq_true rfl⟩) hP hD hK hS hA [0, 1, 2, 3, 4, 5, 6, 7, 8, 9, 10, 11, 12, 13, 14] [] [0, 1, 2, 3, 4, 5, 6, 7, 8, 9, 10, 11, 12, 13, 14] rfl rfl (by decide) (fun u => rfl) rfl rfl (q0 := 0) rfl rfl hl.1 rfl (Nat.le_of_ble_eq_true rfl) dX5_take_39 ⟨Nat.le_of_ble_eq_true rfl, Nat.le_of_ble_eq_true rfl⟩ (fun r u H locs hu7 hP hD hS => ?_)
        refine k_t1 (show r = tagF ky 0 (C0 (pathB 4 l0 k)) (pathB 4 l0 k) (S0 (pathB 4 l0 k)) from hu7) ?_
        refine lv_icmp_eq (tgt := 47) hx hb dX5_take_42 (by decide) (fun c2 => ?_) (fun c2 => ?_)
        · skip
          refine lv_iinc (v := nI (k + 1)) (lv' := [(3, .int (nI (k + 1))), (4, .int (nI (pathB 4 l0 k))), (0, .ref mo), (1, .int (nI 0)), (2, .int (nI l0))]) hx hb dX5_take_47 hl (k := 4) rfl (nI_add k 1) (by decide) rfl (fun ls hl => ?_)
          refine lv_goto (tgt := 2) hx hb dX5_take_50 (by decide) ?_
          exact ihL1l (k + 1)  (by omega) (by omega)  _ _ _ hP hD hS (lv_sub hl [2, 3, 4, 0] rfl)
        · skip
          exact absurd (hw k c1) c2
  exact L1l (3 + 1) 0  (by omega) (by omega)  _ _ _ hP hD hS (lv_sub hl [1, 2, 3, 0] rfl)

set_option maxHeartbeats 800000 in
set_option maxRecDepth 100000 in
theorem c_m_take0_n (l : Launch) (D : va_G) (cI cZ cJ : ClassId) (mo : Nat) (se : Nat) (co : Nat) (ou : Nat) (le : Nat) (wo : Nat) (ma : Nat) (pl : Nat) (tl : Nat) (tm : Nat) (th : Nat) (na : Nat) (si : Nat) (pa : Nat) (ta : Nat) (thr : Int32) (G : Int32) (ky : Int32) (DE : Int32) (cn : Nat) (got : Int32) (S0 : Nat → Nat → Int32) (C0 : Nat → Int32) (O0 : Nat → Int32) (L0 : Nat → Int32) (W0 : Nat → Nat → Int32) (S1 : Nat → Nat → Int32) (C1 : Nat → Int32) (O1 : Nat → Int32) (L1 : Nat → Int32) (W1 : Nat → Nat → Int32) (MP : Nat → Nat) (PL : Nat → Int32) (ML : Nat → Int32) (DL : Nat → Int32) (TH : Nat → Int32) (NM : Nat → Int64) (SZ : Nat → Nat) (PT : Nat → Nat) (TK : Nat → Int32) (l0 j0 : Nat) (hl0 : l0 < 4) (hj : j0 < 3) (hw : ∀ up, up < j0 → wholeB ky 0 C0 S0 (pathB 4 l0 up)) (hn : ¬ wholeB ky 0 C0 S0 (pathB 4 l0 j0)) : KI l yX5_take wsX5_take ({ frames := 3, cells := 0, slots := 0, locals := 69 }) D (kty cI cZ cJ) [.ref mo, .int (nI 0), .int (nI l0)] (wM cI cZ cJ mo se co ou le wo ma pl tl tm th na si pa ta thr G ky DE cn got S0 C0 O0 L0 W0 S1 C1 O1 L1 W1 MP PL ML DL TH NM SZ PT TK) (fun r (_ : Unit) => r = 0) (fun _ : Unit => (wM cI cZ cJ mo se co ou le wo ma pl tl tm th na si pa ta thr G ky DE cn got S0 C0 O0 L0 W0 S1 C1 O1 L1 W1 MP PL ML DL TH NM SZ PT TK)) 0 0 := by
  refine k_headI (cc := cX5_take) (maxL := 6) (ret := (some .boolean)) (by decide) rfl (Nat.le_of_ble_eq_true rfl) ?_
  intro p e s m below meth c A ls args Q hx hb hr hml hts hown hlk hnm hA hK hP hD hS hl hQ
  have hl : lv_has ls 6 [(0, .ref mo), (1, .int (nI 0)), (2, .int (nI l0))] := hl
  refine lv_iconst (v := nI 0) hx hb dX5_take_0 (by decide) ?_
  refine lv_istore_n (lv' := [(3, .int (nI 0)), (0, .ref mo), (1, .int (nI 0)), (2, .int (nI l0))]) hx hb dX5_take_1 rfl hl (by decide) rfl (fun ls hl => ?_)
  have L1l : ∀ (nf k : Nat) (hvL1l : k ≤ j0) (hFL1l : j0 - k < nf) (H : Heap) (locs : List Loc) (ls : Array Slot), va_P D vwCl (wM cI cZ cJ mo se co ou le wo ma pl tl tm th na si pa ta thr G ky DE cn got S0 C0 O0 L0 W0 S1 C1 O1 L1 W1 MP PL ML DL TH NM SZ PT TK) H → va_D A (wM cI cZ cJ mo se co ou le wo ma pl tl tm th na si pa ta thr G ky DE cn got S0 C0 O0 L0 W0 S1 C1 O1 L1 W1 MP PL ML DL TH NM SZ PT TK) → va_S A s.heap H locs → lv_has ls 6 [(0, .ref mo), (1, .int (nI 0)), (2, .int (nI l0)), (3, .int (nI k))] → W p l e ({ frames := 3, cells := 0, slots := 0, locals := 69 } : Room) s m args below meth c H locs 0 0 Q (F0 m 2 ls []) := by
    intro nf
    induction nf with
    | zero => intro k  hvL1l hFL1l; omega
    | succ nf ihL1l =>
      intro k  hvL1l hFL1l  H locs ls hP hD hS hl
      refine lv_iload_n hx hb dX5_take_2 rfl (lv_at hl 3 rfl) ?_
      refine lv_iload_n hx hb dX5_take_3 rfl (lv_at hl 1 rfl) ?_
      refine k_si (As := [.int (nI 0)]) (rest := [.int (nI k)]) (w2 := fun u : Unit => (wM cI cZ cJ mo se co ou le wo ma pl tl tm th na si pa ta thr G ky DE cn got S0 C0 O0 L0 W0 S1 C1 O1 L1 W1 MP PL ML DL TH NM SZ PT TK)) ⟨hx, hb, hml, hown, hts⟩ (c_m_levels0 l D cI cZ cJ  ) (va_cwS 1 hts gX5_take_X5_levels rfl rfl rfl (by decide +kernel) ⟨Nat.le_of_ble_eq_true rfl, Nat.le_of_ble_eq_true rfl⟩) hP hD hK hS hA [] [0, 1, 2, 3, 4, 5, 6, 7, 8, 9, 10, 11, 12, 13, 14] [0, 1, 2, 3, 4, 5, 6, 7, 8, 9, 10, 11, 12, 13, 14] rfl rfl (by decide) (fun u => rfl) rfl hl.1 rfl (Nat.le_of_ble_eq_true rfl) dX5_take_4 ⟨Nat.le_of_ble_eq_true rfl, Nat.le_of_ble_eq_true rfl⟩ (fun r u H locs hu1 hP hD hS => ?_)
      refine k_t1 (show r = nI 3 from hu1) ?_
      refine k_icmp_ge (tgt := 53) hx hb (by omega) (by omega) dX5_take_7 (by decide) (fun c1 => ?_) (fun c1 => ?_)
      · skip
        omega
      · skip
        refine lv_iload_n hx hb dX5_take_10 rfl (lv_at hl 1 rfl) ?_
        refine lv_iload_n hx hb dX5_take_11 rfl (lv_at hl 2 rfl) ?_
        refine lv_iload_n hx hb dX5_take_12 rfl (lv_at hl 3 rfl) ?_
        refine k_si (As := [.int (nI 0), .int (nI l0), .int (nI k)]) (rest := []) (w2 := fun u : Unit => (wM cI cZ cJ mo se co ou le wo ma pl tl tm th na si pa ta thr G ky DE cn got S0 C0 O0 L0 W0 S1 C1 O1 L1 W1 MP PL ML DL TH NM SZ PT TK)) ⟨hx, hb, hml, hown, hts⟩ (c_m_onPath0 l D cI cZ cJ  l0 k hl0 c1) (va_cwS 3 hts gX5_take_X5_onPath rfl rfl rfl (by decide +kernel) ⟨Nat.le_of_ble_eq_true rfl, Nat.le_of_ble_eq_true rfl⟩) hP hD hK hS hA [] [0, 1, 2, 3, 4, 5, 6, 7, 8, 9, 10, 11, 12, 13, 14] [0, 1, 2, 3, 4, 5, 6, 7, 8, 9, 10, 11, 12, 13, 14] rfl rfl (by decide) (fun u => rfl) rfl hl.1 rfl (Nat.le_of_ble_eq_true rfl) dX5_take_13 ⟨Nat.le_of_ble_eq_true rfl, Nat.le_of_ble_eq_true rfl⟩ (fun r u H locs hu2 hP hD hS => ?_)
        refine k_t1 (show r = nI (pathB 4 l0 k) from hu2) ?_
        have hpb : pathB 4 l0 k < 7 := pathB_lt tp0 hl0
        refine lv_istore (lv' := [(4, .int (nI (pathB 4 l0 k))), (0, .ref mo), (1, .int (nI 0)), (2, .int (nI l0)), (3, .int (nI k))]) hx hb dX5_take_16 hl (by decide) rfl (fun ls hl => ?_)
        refine lv_aload_n hx hb dX5_take_18 rfl (lv_at hl 1 rfl) ?_
        refine va_get (D := D) (ci := 5) (v := .ref se) (C := RX5) (T := TX5) (N := 20) hx hb hts (by decide +kernel) hown hK hP 0 rfl rfl 5 (by decide) (hts (.fieldLink RX5 7 "VeiledFilesModel" "sealed" "[I") (by decide +kernel)) (fun _ h9 => h9) rfl dX5_take_19 ?_
        refine lv_bipush (v := nI 25) hx hb dX5_take_22 (by decide) ?_
        refine lv_iload_n hx hb dX5_take_24 rfl (lv_at hl 2 rfl) ?_
        refine lv_iload hx hb dX5_take_25 (lv_at hl 0 rfl) ?_
        refine k_si (As := [.int (nI 0), .int (nI (pathB 4 l0 k))]) (rest := [.int (nI 25), .ref se]) (w2 := fun u : Unit => (wM cI cZ cJ mo se co ou le wo ma pl tl tm th na si pa ta thr G ky DE cn got S0 C0 O0 L0 W0 S1 C1 O1 L1 W1 MP PL ML DL TH NM SZ PT TK)) ⟨hx, hb, hml, hown, hts⟩ (c_m_place0 l D cI cZ cJ  (pathB 4 l0 k)) (va_cwS 2 hts gX5_take_X5_place rfl rfl rfl (by decide +kernel) ⟨Nat.le_of_ble_eq_true rfl, Nat.le_of_ble_eq_true rfl⟩) hP hD hK hS hA [] [0, 1, 2, 3, 4, 5, 6, 7, 8, 9, 10, 11, 12, 13, 14] [0, 1, 2, 3, 4, 5, 6, 7, 8, 9, 10, 11, 12, 13, 14] rfl rfl (by decide) (fun u => rfl) rfl hl.1 rfl (Nat.le_of_ble_eq_true rfl) dX5_take_27 ⟨Nat.le_of_ble_eq_true rfl, Nat.le_of_ble_eq_true rfl⟩ (fun r u H locs hu3 hP hD hS => ?_)
        refine k_t1 (show r = nI (pathB 4 l0 k) from hu3) ?_
        refine lv_imul hx hb dX5_take_30 ?_
        refine k_t1 (show (nI 25) * (nI (pathB 4 l0 k)) = nI (25 * (pathB 4 l0 k)) from pk_mul _ _) ?_
        refine lv_bipush (v := nI 24) hx hb dX5_take_31 (by decide) ?_
        refine lv_iadd hx hb dX5_take_33 ?_
        refine k_t1 (show (nI (25 * (pathB 4 l0 k))) + (nI 24) = nI (25 * (pathB 4 l0 k) + 24) from nI_add _ _) ?_
        refine k_iald hx hb hK hP 1 0 rfl rfl (25 * (pathB 4 l0 k) + 24) (by omega) (by omega) (v := S0 (pathB 4 l0 k) 24) (rS0 (p := pathB 4 l0 k) (by omega) (by omega) (by omega)) dX5_take_34 ?_
        refine lv_aload_n hx hb dX5_take_35 rfl (lv_at hl 1 rfl) ?_
        refine lv_iload_n hx hb dX5_take_36 rfl (lv_at hl 2 rfl) ?_
        refine lv_iload hx hb dX5_take_37 (lv_at hl 0 rfl) ?_
        refine k_vi (As := [.int (nI 0), .int (nI (pathB 4 l0 k))]) (rest := [.int (S0 (pathB 4 l0 k) 24)]) (w2 := fun u : Unit => (wM cI cZ cJ mo se co ou le wo ma pl tl tm th na si pa ta thr G ky DE cn got S0 C0 O0 L0 W0 S1 C1 O1 L1 W1 MP PL ML DL TH NM SZ PT TK)) ⟨hx, hb, hml, hown, hts⟩ (c_m_tag0 l D cI cZ cJ mo se co ou le wo ma pl tl tm th na si pa ta thr G ky DE cn got S0 C0 O0 L0 W0 S1 C1 O1 L1 W1 MP PL ML DL TH NM SZ PT TK (pathB 4 l0 k) hpb) (cwV 2 hts gX5_take_X5_tag rfl rfl rfl (by decide +kernel) ⟨Nat.le_of_ble_eq_true rfl, Nat.le_of_ble_eq_true rfl⟩) hP hD hK hS hA [0, 1, 2, 3, 4, 5, 6, 7, 8, 9, 10, 11, 12, 13, 14] [] [0, 1, 2, 3, 4, 5, 6, 7, 8, 9, 10, 11, 12, 13, 14] rfl rfl (by decide) (fun u => rfl) rfl rfl (q0 := 0) rfl rfl hl.1 rfl (Nat.le_of_ble_eq_true rfl) dX5_take_39 ⟨Nat.le_of_ble_eq_true rfl, Nat.le_of_ble_eq_true rfl⟩ (fun r u H locs hu4 hP hD hS => ?_)
        refine k_t1 (show r = tagF ky 0 (C0 (pathB 4 l0 k)) (pathB 4 l0 k) (S0 (pathB 4 l0 k)) from hu4) ?_
        refine lv_icmp_eq (tgt := 47) hx hb dX5_take_42 (by decide) (fun c2 => ?_) (fun c2 => ?_)
        · skip
          by_cases hk0 : k < j0
          · skip
            refine lv_iinc (v := nI (k + 1)) (lv' := [(3, .int (nI (k + 1))), (4, .int (nI (pathB 4 l0 k))), (0, .ref mo), (1, .int (nI 0)), (2, .int (nI l0))]) hx hb dX5_take_47 hl (k := 4) rfl (nI_add k 1) (by decide) rfl (fun ls hl => ?_)
            refine lv_goto (tgt := 2) hx hb dX5_take_50 (by decide) ?_
            exact ihL1l (k + 1)  (by omega) (by omega)  _ _ _ hP hD hS (lv_sub hl [2, 3, 4, 0] rfl)
          · have hkj : k = j0 := by omega
            subst hkj
            exact absurd c2 hn
        · skip
          refine lv_iconst (v := nI 0) hx hb dX5_take_45 (by decide) ?_
          exact k_retz () hx hb hr hK hS hlk dX5_take_46 ((by first | exact Or.inl rfl | exact Or.inr rfl)) hP hD (by exact rfl) hQ
  exact L1l (j0 + 1) 0  (by omega) (by omega)  _ _ _ hP hD hS (lv_sub hl [1, 2, 3, 0] rfl)

set_option maxHeartbeats 800000 in
set_option maxRecDepth 100000 in
theorem c_m_put1 (l : Launch) (D : va_G) (cI cZ cJ : ClassId) (mo : Nat) (se : Nat) (co : Nat) (ou : Nat) (le : Nat) (wo : Nat) (ma : Nat) (pl : Nat) (tl : Nat) (tm : Nat) (th : Nat) (na : Nat) (si : Nat) (pa : Nat) (ta : Nat) (thr : Int32) (G : Int32) (ky : Int32) (DE : Int32) (cn : Nat) (got : Int32) (S0 : Nat → Nat → Int32) (C0 : Nat → Int32) (O0 : Nat → Int32) (L0 : Nat → Int32) (W0 : Nat → Nat → Int32) (S1 : Nat → Nat → Int32) (C1 : Nat → Int32) (O1 : Nat → Int32) (L1 : Nat → Int32) (W1 : Nat → Nat → Int32) (MP : Nat → Nat) (PL : Nat → Int32) (ML : Nat → Int32) (DL : Nat → Int32) (TH : Nat → Int32) (NM : Nat → Int64) (SZ : Nat → Nat) (PT : Nat → Nat) (TK : Nat → Int32) (sl n : Nat) (hs : sl < 4) (hn : n < 64) : KV l yX5_put wsX5_put ({ frames := 1, cells := 0, slots := 0, locals := 20 }) D (kty cI cZ cJ) [.ref mo, .int (nI 1), .int (nI sl), .int (nI n)] (wM cI cZ cJ mo se co ou le wo ma pl tl tm th na si pa ta thr G ky DE cn got S0 C0 O0 L0 W0 S1 C1 O1 L1 W1 MP PL ML DL TH NM SZ PT TK) (fun (_ : Unit) => True) (fun _ : Unit => (wM cI cZ cJ mo se co ou le wo ma pl tl tm th na si pa ta thr G ky DE cn got S0 C0 O0 L0 W0 S1 C1 (upd O1 n 0) L1 W1 MP (putR PL sl n (L1 n) (W1 n)) ML DL TH NM SZ PT TK)) 0 0 := by
  refine k_headV (cc := cX5_put) (maxL := 6) (ret := none) (by decide) rfl (Nat.le_of_ble_eq_true rfl) ?_
  intro p e s m below meth c A ls args Q hx hb hr hml hts hown hlk hnm hA hK hP hD hS hl hQ
  have hl : lv_has ls 6 [(0, .ref mo), (1, .int (nI 1)), (2, .int (nI sl)), (3, .int (nI n))] := hl
  refine lv_iload_n hx hb dX5_put_0 rfl (lv_at hl 1 rfl) ?_
  refine k_si (As := [.int (nI 1)]) (rest := []) (w2 := fun u : Unit => (wM cI cZ cJ mo se co ou le wo ma pl tl tm th na si pa ta thr G ky DE cn got S0 C0 O0 L0 W0 S1 C1 O1 L1 W1 MP PL ML DL TH NM SZ PT TK)) ⟨hx, hb, hml, hown, hts⟩ (c_m_first1 l D cI cZ cJ  ) (va_cwS 1 hts gX5_put_X5_first rfl rfl rfl (by decide +kernel) ⟨Nat.le_of_ble_eq_true rfl, Nat.le_of_ble_eq_true rfl⟩) hP hD hK hS hA [] [0, 1, 2, 3, 4, 5, 6, 7, 8, 9, 10, 11, 12, 13, 14] [0, 1, 2, 3, 4, 5, 6, 7, 8, 9, 10, 11, 12, 13, 14] rfl rfl (by decide) (fun u => rfl) rfl hl.1 rfl (Nat.le_of_ble_eq_true rfl) dX5_put_1 ⟨Nat.le_of_ble_eq_true rfl, Nat.le_of_ble_eq_true rfl⟩ (fun r u H locs hu1 hP hD hS => ?_)
  refine k_t1 (show r = nI 8 from hu1) ?_
  refine lv_iload_n hx hb dX5_put_4 rfl (lv_at hl 3 rfl) ?_
  refine lv_iadd hx hb dX5_put_5 ?_
  refine k_t1 (show (nI 8) + (nI n) = nI (8 + n) from nI_add _ _) ?_
  refine lv_istore (lv' := [(4, .int (nI (8 + n))), (0, .ref mo), (1, .int (nI 1)), (2, .int (nI sl)), (3, .int (nI n))]) hx hb dX5_put_6 hl (by decide) rfl (fun ls hl => ?_)
  refine lv_aload_n hx hb dX5_put_8 rfl (lv_at hl 1 rfl) ?_
  refine va_get (D := D) (ci := 5) (v := .ref pl) (C := RX5) (T := TX5) (N := 20) hx hb hts (by decide +kernel) hown hK hP 0 rfl rfl 11 (by decide) (hts (.fieldLink RX5 29 "VeiledFilesModel" "plain" "[I") (by decide +kernel)) (fun _ h9 => h9) rfl dX5_put_9 ?_
  refine lv_bipush (v := nI 6) hx hb dX5_put_12 (by decide) ?_
  refine lv_iload_n hx hb dX5_put_14 rfl (lv_at hl 3 rfl) ?_
  refine lv_imul hx hb dX5_put_15 ?_
  refine k_t1 (show (nI 6) * (nI sl) = nI (6 * sl) from pk_mul _ _) ?_
  refine lv_iload_n hx hb dX5_put_16 rfl (lv_at hl 4 rfl) ?_
  refine lv_iconst (v := nI 1) hx hb dX5_put_17 (by decide) ?_
  refine lv_iadd hx hb dX5_put_18 ?_
  refine k_t1 (show (nI n) + (nI 1) = nI (n + 1) from nI_add _ _) ?_
  have hE2 : (wM cI cZ cJ mo se co ou le wo ma pl tl tm th na si pa ta thr G ky DE cn got S0 C0 O0 L0 W0 S1 C1 O1 L1 W1 MP PL ML DL TH NM SZ PT TK) = (wM cI cZ cJ mo se co ou le wo ma pl tl tm th na si pa ta thr G ky DE cn got S0 C0 O0 L0 W0 S1 C1 O1 L1 W1 MP (putK PL sl n (L1 n) (W1 n) 0) ML DL TH NM SZ PT TK) := by rw [putK_0]
  rw [hE2] at hP hD
  refine k_iast hx hb hK hP hD hS 7 0 rfl rfl (6 * sl) (by omega) (by omega) (g := (putK PL sl n (L1 n) (W1 n) 1)) (putK_s (k := 0) sloV_0) dX5_put_19 (fun H locs hP hD hS => ?_)
  have hP : va_P D vwCl (wM cI cZ cJ mo se co ou le wo ma pl tl tm th na si pa ta thr G ky DE cn got S0 C0 O0 L0 W0 S1 C1 O1 L1 W1 MP (putK PL sl n (L1 n) (W1 n) 1) ML DL TH NM SZ PT TK) _ := hP
  have hD : va_D A (wM cI cZ cJ mo se co ou le wo ma pl tl tm th na si pa ta thr G ky DE cn got S0 C0 O0 L0 W0 S1 C1 O1 L1 W1 MP (putK PL sl n (L1 n) (W1 n) 1) ML DL TH NM SZ PT TK) := hD
  refine lv_aload_n hx hb dX5_put_20 rfl (lv_at hl 1 rfl) ?_
  refine va_get (D := D) (ci := 5) (v := .ref pl) (C := RX5) (T := TX5) (N := 20) hx hb hts (by decide +kernel) hown hK hP 0 rfl rfl 11 (by decide) (hts (.fieldLink RX5 29 "VeiledFilesModel" "plain" "[I") (by decide +kernel)) (fun _ h9 => h9) rfl dX5_put_21 ?_
  refine lv_bipush (v := nI 6) hx hb dX5_put_24 (by decide) ?_
  refine lv_iload_n hx hb dX5_put_26 rfl (lv_at hl 3 rfl) ?_
  refine lv_imul hx hb dX5_put_27 ?_
  refine k_t1 (show (nI 6) * (nI sl) = nI (6 * sl) from pk_mul _ _) ?_
  refine lv_iconst (v := nI 1) hx hb dX5_put_28 (by decide) ?_
  refine lv_iadd hx hb dX5_put_29 ?_
  refine k_t1 (show (nI (6 * sl)) + (nI 1) = nI (6 * sl + 1) from nI_add _ _) ?_
  refine lv_aload_n hx hb dX5_put_30 rfl (lv_at hl 1 rfl) ?_
  refine va_get (D := D) (ci := 5) (v := .ref le) (C := RX5) (T := TX5) (N := 20) hx hb hts (by decide +kernel) hown hK hP 0 rfl rfl 8 (by decide) (hts (.fieldLink RX5 20 "VeiledFilesModel" "leaf" "[I") (by decide +kernel)) (fun _ h9 => h9) rfl dX5_put_31 ?_
  refine lv_iload hx hb dX5_put_34 (lv_at hl 0 rfl) ?_
  refine k_iald hx hb hK hP 4 0 rfl rfl (8 + n) (by omega) (by omega) (v := L1 n) (jn_1) dX5_put_36 ?_
  refine k_iast hx hb hK hP hD hS 7 0 rfl rfl (6 * sl + 1) (by omega) (by omega) (g := (putK PL sl n (L1 n) (W1 n) (2 + 0))) (putK_s (k := 1) sloV_1) dX5_put_37 (fun H locs hP hD hS => ?_)
  have hP : va_P D vwCl (wM cI cZ cJ mo se co ou le wo ma pl tl tm th na si pa ta thr G ky DE cn got S0 C0 O0 L0 W0 S1 C1 O1 L1 W1 MP (putK PL sl n (L1 n) (W1 n) (2 + 0)) ML DL TH NM SZ PT TK) _ := hP
  have hD : va_D A (wM cI cZ cJ mo se co ou le wo ma pl tl tm th na si pa ta thr G ky DE cn got S0 C0 O0 L0 W0 S1 C1 O1 L1 W1 MP (putK PL sl n (L1 n) (W1 n) (2 + 0)) ML DL TH NM SZ PT TK) := hD
  refine lv_iconst (v := nI 0) hx hb dX5_put_38 (by decide) ?_
  refine lv_istore (lv' := [(5, .int (nI 0)), (4, .int (nI (8 + n))), (0, .ref mo), (1, .int (nI 1)), (2, .int (nI sl)), (3, .int (nI n))]) hx hb dX5_put_39 hl (by decide) rfl (fun ls hl => ?_)
  have L1l : ∀ (nf k : Nat) (hvL1l : k ≤ 4) (hFL1l : 4 - k < nf) (H : Heap) (locs : List Loc) (ls : Array Slot), va_P D vwCl (wM cI cZ cJ mo se co ou le wo ma pl tl tm th na si pa ta thr G ky DE cn got S0 C0 O0 L0 W0 S1 C1 O1 L1 W1 MP (putK PL sl n (L1 n) (W1 n) (2 + k)) ML DL TH NM SZ PT TK) H → va_D A (wM cI cZ cJ mo se co ou le wo ma pl tl tm th na si pa ta thr G ky DE cn got S0 C0 O0 L0 W0 S1 C1 O1 L1 W1 MP (putK PL sl n (L1 n) (W1 n) (2 + k)) ML DL TH NM SZ PT TK) → va_S A s.heap H locs → lv_has ls 6 [(0, .ref mo), (1, .int (nI 1)), (2, .int (nI sl)), (3, .int (nI n)), (4, .int (nI (8 + n))), (5, .int (nI k))] → W p l e ({ frames := 1, cells := 0, slots := 0, locals := 20 } : Room) s m args below meth c H locs 0 0 Q (F0 m 41 ls []) := by
    intro nf
    induction nf with
    | zero => intro k  hvL1l hFL1l; omega
    | succ nf ihL1l =>
      intro k  hvL1l hFL1l  H locs ls hP hD hS hl
      refine lv_iload hx hb dX5_put_41 (lv_at hl 5 rfl) ?_
      refine lv_iconst (v := nI 4) hx hb dX5_put_43 (by decide) ?_
      refine k_icmp_ge (tgt := 79) hx hb (by omega) (by omega) dX5_put_44 (by decide) (fun c1 => ?_) (fun c1 => ?_)
      · skip
        obtain rfl : k = 4 := by omega
        have hP : va_P D vwCl (wM cI cZ cJ mo se co ou le wo ma pl tl tm th na si pa ta thr G ky DE cn got S0 C0 O0 L0 W0 S1 C1 O1 L1 W1 MP (putR PL sl n (L1 n) (W1 n)) ML DL TH NM SZ PT TK) _ := hP
        have hD : va_D A (wM cI cZ cJ mo se co ou le wo ma pl tl tm th na si pa ta thr G ky DE cn got S0 C0 O0 L0 W0 S1 C1 O1 L1 W1 MP (putR PL sl n (L1 n) (W1 n)) ML DL TH NM SZ PT TK) := hD
        refine lv_aload_n hx hb dX5_put_79 rfl (lv_at hl 0 rfl) ?_
        refine va_get (D := D) (ci := 5) (v := .ref ou) (C := RX5) (T := TX5) (N := 20) hx hb hts (by decide +kernel) hown hK hP 0 rfl rfl 7 (by decide) (hts (.fieldLink RX5 16 "VeiledFilesModel" "out" "[Z") (by decide +kernel)) (fun _ h9 => h9) rfl dX5_put_80 ?_
        refine lv_iload hx hb dX5_put_83 (lv_at hl 4 rfl) ?_
        refine lv_iconst (v := nI 0) hx hb dX5_put_85 (by decide) ?_
        refine k_zast hx hb hK hP hD hS 3 1 rfl rfl (8 + n) (by omega) (by omega) (g := jn 8 O0 (upd O1 n 0)) (jn_u1) (by first | rfl | decide) dX5_put_86 (fun H locs hP hD hS => ?_)
        have hP : va_P D vwCl (wM cI cZ cJ mo se co ou le wo ma pl tl tm th na si pa ta thr G ky DE cn got S0 C0 O0 L0 W0 S1 C1 (upd O1 n 0) L1 W1 MP (putR PL sl n (L1 n) (W1 n)) ML DL TH NM SZ PT TK) _ := hP
        have hD : va_D A (wM cI cZ cJ mo se co ou le wo ma pl tl tm th na si pa ta thr G ky DE cn got S0 C0 O0 L0 W0 S1 C1 (upd O1 n 0) L1 W1 MP (putR PL sl n (L1 n) (W1 n)) ML DL TH NM SZ PT TK) := hD
        exact k_retv () hx hb hr hK hS hlk dX5_put_87 hP hD (trivial) hQ
      · skip
        refine lv_aload_n hx hb dX5_put_47 rfl (lv_at hl 0 rfl) ?_
        refine va_get (D := D) (ci := 5) (v := .ref pl) (C := RX5) (T := TX5) (N := 20) hx hb hts (by decide +kernel) hown hK hP 0 rfl rfl 11 (by decide) (hts (.fieldLink RX5 29 "VeiledFilesModel" "plain" "[I") (by decide +kernel)) (fun _ h9 => h9) rfl dX5_put_48 ?_
        refine lv_bipush (v := nI 6) hx hb dX5_put_51 (by decide) ?_
        refine lv_iload_n hx hb dX5_put_53 rfl (lv_at hl 2 rfl) ?_
        refine lv_imul hx hb dX5_put_54 ?_
        refine k_t1 (show (nI 6) * (nI sl) = nI (6 * sl) from pk_mul _ _) ?_
        refine lv_iconst (v := nI 2) hx hb dX5_put_55 (by decide) ?_
        refine lv_iadd hx hb dX5_put_56 ?_
        refine k_t1 (show (nI (6 * sl)) + (nI 2) = nI (6 * sl + 2) from nI_add _ _) ?_
        refine lv_iload hx hb dX5_put_57 (lv_at hl 5 rfl) ?_
        refine lv_iadd hx hb dX5_put_59 ?_
        refine k_t1 (show (nI (6 * sl + 2)) + (nI k) = nI (6 * sl + 2 + k) from nI_add _ _) ?_
        refine lv_aload_n hx hb dX5_put_60 rfl (lv_at hl 0 rfl) ?_
        refine va_get (D := D) (ci := 5) (v := .ref wo) (C := RX5) (T := TX5) (N := 20) hx hb hts (by decide +kernel) hown hK hP 0 rfl rfl 9 (by decide) (hts (.fieldLink RX5 23 "VeiledFilesModel" "words" "[I") (by decide +kernel)) (fun _ h9 => h9) rfl dX5_put_61 ?_
        refine lv_iconst (v := nI 4) hx hb dX5_put_64 (by decide) ?_
        refine lv_iload hx hb dX5_put_65 (lv_at hl 4 rfl) ?_
        refine lv_imul hx hb dX5_put_67 ?_
        refine k_t1 (show (nI 4) * (nI (8 + n)) = nI (4 * (8 + n)) from pk_mul _ _) ?_
        refine lv_iload hx hb dX5_put_68 (lv_at hl 5 rfl) ?_
        refine lv_iadd hx hb dX5_put_70 ?_
        refine k_t1 (show (nI (4 * (8 + n))) + (nI k) = nI (4 * (8 + n) + k) from nI_add _ _) ?_
        refine k_iald hx hb hK hP 5 0 rfl rfl (4 * (8 + n) + k) (by omega) (by omega) (v := W1 n k) (rW1 (p := n) (by omega) (by omega)) dX5_put_71 ?_
        refine k_iast hx hb hK hP hD hS 7 0 rfl rfl (6 * sl + 2 + k) (by omega) (by omega) (g := (putK PL sl n (L1 n) (W1 n) (2 + (k + 1)))) (by rw [show 6 * sl + 2 + k = 6 * sl + (2 + k) by omega]; exact putK_s (k := 2 + k) sloV_2) dX5_put_72 (fun H locs hP hD hS => ?_)
        have hP : va_P D vwCl (wM cI cZ cJ mo se co ou le wo ma pl tl tm th na si pa ta thr G ky DE cn got S0 C0 O0 L0 W0 S1 C1 O1 L1 W1 MP (putK PL sl n (L1 n) (W1 n) (2 + (k + 1))) ML DL TH NM SZ PT TK) _ := hP
        have hD : va_D A (wM cI cZ cJ mo se co ou le wo ma pl tl tm th na si pa ta thr G ky DE cn got S0 C0 O0 L0 W0 S1 C1 O1 L1 W1 MP (putK PL sl n (L1 n) (W1 n) (2 + (k + 1))) ML DL TH NM SZ PT TK) := hD
        refine lv_iinc (v := nI (k + 1)) (lv' := [(5, .int (nI (k + 1))), (0, .ref mo), (1, .int (nI 1)), (2, .int (nI sl)), (3, .int (nI n)), (4, .int (nI (8 + n)))]) hx hb dX5_put_73 hl (k := 5) rfl (nI_add k 1) (by decide) rfl (fun ls hl => ?_)
        refine lv_goto (tgt := 41) hx hb dX5_put_76 (by decide) ?_
        exact ihL1l (k + 1)  (by omega) (by omega)  _ _ _ hP hD hS (lv_sub hl [1, 2, 3, 4, 5, 0] rfl)
  exact L1l (4 + 1) 0  (by omega) (by omega)  _ _ _ hP hD hS (lv_sub hl [2, 3, 4, 5, 1, 0] rfl)

set_option maxHeartbeats 800000 in
set_option maxRecDepth 100000 in
theorem c_m_open1 (l : Launch) (D : va_G) (cI cZ cJ : ClassId) (mo : Nat) (se : Nat) (co : Nat) (ou : Nat) (le : Nat) (wo : Nat) (ma : Nat) (pl : Nat) (tl : Nat) (tm : Nat) (th : Nat) (na : Nat) (si : Nat) (pa : Nat) (ta : Nat) (thr : Int32) (G : Int32) (ky : Int32) (DE : Int32) (cn : Nat) (got : Int32) (S0 : Nat → Nat → Int32) (C0 : Nat → Int32) (O0 : Nat → Int32) (L0 : Nat → Int32) (W0 : Nat → Nat → Int32) (S1 : Nat → Nat → Int32) (C1 : Nat → Int32) (O1 : Nat → Int32) (L1 : Nat → Int32) (W1 : Nat → Nat → Int32) (MP : Nat → Nat) (PL : Nat → Int32) (ML : Nat → Int32) (DL : Nat → Int32) (TH : Nat → Int32) (NM : Nat → Int64) (SZ : Nat → Nat) (PT : Nat → Nat) (TK : Nat → Int32) (b sl : Nat) (hb0 : b < 63) (hs : sl < 4) : KV l yX5_open wsX5_open ({ frames := 3, cells := 0, slots := 0, locals := 68 }) D (kty cI cZ cJ) [.ref mo, .int (nI 1), .int (nI b), .int (nI sl)] (wM cI cZ cJ mo se co ou le wo ma pl tl tm th na si pa ta thr G ky DE cn got S0 C0 O0 L0 W0 S1 C1 O1 L1 W1 MP PL ML DL TH NM SZ PT TK) (fun (_ : Unit) => True) (fun _ : Unit => (wM cI cZ cJ mo se co ou le wo ma pl tl tm th na si pa ta thr G ky DE cn got S0 C0 O0 L0 W0 S1 C1 (hoO 64 (decR ky 1 C1 S1 b) sl O1) (hoL 64 (decR ky 1 C1 S1 b) sl L1) (hoW 64 (decR ky 1 C1 S1 b) sl W1) MP PL ML DL TH NM SZ PT TK)) 0 0 := by
  refine k_headV (cc := cX5_open) (maxL := 7) (ret := none) (by decide) rfl (Nat.le_of_ble_eq_true rfl) ?_
  intro p e s m below meth c A ls args Q hx hb hr hml hts hown hlk hnm hA hK hP hD hS hl hQ
  have hl : lv_has ls 7 [(0, .ref mo), (1, .int (nI 1)), (2, .int (nI b)), (3, .int (nI sl))] := hl
  refine lv_aload_n hx hb dX5_open_0 rfl (lv_at hl 0 rfl) ?_
  refine lv_iload_n hx hb dX5_open_1 rfl (lv_at hl 1 rfl) ?_
  refine lv_iload_n hx hb dX5_open_2 rfl (lv_at hl 2 rfl) ?_
  refine lv_bipush (v := nI 6) hx hb dX5_open_3 (by decide) ?_
  refine lv_iload_n hx hb dX5_open_5 rfl (lv_at hl 3 rfl) ?_
  refine lv_imul hx hb dX5_open_6 ?_
  refine k_t1 (show (nI 6) * (nI sl) = nI (6 * sl) from pk_mul _ _) ?_
  refine k_vi (As := [.int (nI 1), .int (nI b), .int (nI (6 * sl))]) (rest := []) (w2 := fun u : Unit => (wM cI cZ cJ mo se co ou le wo ma pl tl tm th na si pa ta thr G ky DE cn got S0 C0 O0 L0 W0 S1 C1 O1 L1 W1 MP PL ML DL TH NM SZ PT TK)) ⟨hx, hb, hml, hown, hts⟩ (c_m_plain1 l D cI cZ cJ mo se co ou le wo ma pl tl tm th na si pa ta thr G ky DE cn got S0 C0 O0 L0 W0 S1 C1 O1 L1 W1 MP PL ML DL TH NM SZ PT TK b (6 * sl) hb0 (by omega)) (cwV 3 hts gX5_open_X5_plainWord rfl rfl rfl (by decide +kernel) ⟨Nat.le_of_ble_eq_true rfl, Nat.le_of_ble_eq_true rfl⟩) hP hD hK hS hA [0, 1, 2, 3, 4, 5, 6, 7, 8, 9, 10, 11, 12, 13, 14] [] [0, 1, 2, 3, 4, 5, 6, 7, 8, 9, 10, 11, 12, 13, 14] rfl rfl (by decide) (fun u => rfl) rfl rfl (q0 := 0) rfl rfl hl.1 rfl (Nat.le_of_ble_eq_true rfl) dX5_open_7 ⟨Nat.le_of_ble_eq_true rfl, Nat.le_of_ble_eq_true rfl⟩ (fun r u H locs hu1 hP hD hS => ?_)
  refine k_t1 (show r = (decR ky 1 C1 S1 b) (6 * sl) from hu1) ?_
  refine lv_iconst (v := nI 1) hx hb dX5_open_10 (by decide) ?_
  refine lv_isub hx hb dX5_open_11 ?_
  refine lv_istore (lv' := [(4, .int (((decR ky 1 C1 S1 b) (6 * sl)) - (nI 1))), (0, .ref mo), (1, .int (nI 1)), (2, .int (nI b)), (3, .int (nI sl))]) hx hb dX5_open_12 hl (by decide) rfl (fun ls hl => ?_)
  refine lv_iload hx hb dX5_open_14 (lv_at hl 0 rfl) ?_
  refine lv_if_lt (tgt := 28) hx hb dX5_open_16 (by decide) (fun c1 => ?_) (fun c1 => ?_)
  · skip
    have hE2 : (wM cI cZ cJ mo se co ou le wo ma pl tl tm th na si pa ta thr G ky DE cn got S0 C0 O0 L0 W0 S1 C1 O1 L1 W1 MP PL ML DL TH NM SZ PT TK) = (wM cI cZ cJ mo se co ou le wo ma pl tl tm th na si pa ta thr G ky DE cn got S0 C0 O0 L0 W0 S1 C1 (hoO 64 (decR ky 1 C1 S1 b) sl O1) L1 W1 MP PL ML DL TH NM SZ PT TK) := by rw [hoO_n (noB_lt c1)]
    rw [hE2] at hP hD
    have hE3 : (wM cI cZ cJ mo se co ou le wo ma pl tl tm th na si pa ta thr G ky DE cn got S0 C0 O0 L0 W0 S1 C1 (hoO 64 (decR ky 1 C1 S1 b) sl O1) L1 W1 MP PL ML DL TH NM SZ PT TK) = (wM cI cZ cJ mo se co ou le wo ma pl tl tm th na si pa ta thr G ky DE cn got S0 C0 O0 L0 W0 S1 C1 (hoO 64 (decR ky 1 C1 S1 b) sl O1) (hoL 64 (decR ky 1 C1 S1 b) sl L1) W1 MP PL ML DL TH NM SZ PT TK) := by rw [hoL_n (noB_lt c1)]
    rw [hE3] at hP hD
    have hE4 : (wM cI cZ cJ mo se co ou le wo ma pl tl tm th na si pa ta thr G ky DE cn got S0 C0 O0 L0 W0 S1 C1 (hoO 64 (decR ky 1 C1 S1 b) sl O1) (hoL 64 (decR ky 1 C1 S1 b) sl L1) W1 MP PL ML DL TH NM SZ PT TK) = (wM cI cZ cJ mo se co ou le wo ma pl tl tm th na si pa ta thr G ky DE cn got S0 C0 O0 L0 W0 S1 C1 (hoO 64 (decR ky 1 C1 S1 b) sl O1) (hoL 64 (decR ky 1 C1 S1 b) sl L1) (hoW 64 (decR ky 1 C1 S1 b) sl W1) MP PL ML DL TH NM SZ PT TK) := by rw [hoW_n (noB_lt c1)]
    rw [hE4] at hP hD
    exact k_retv () hx hb hr hK hS hlk dX5_open_28 hP hD (trivial) hQ
  · skip
    refine lv_iload hx hb dX5_open_19 (lv_at hl 0 rfl) ?_
    refine lv_iload_n hx hb dX5_open_21 rfl (lv_at hl 2 rfl) ?_
    refine k_si (As := [.int (nI 1)]) (rest := [.int (((decR ky 1 C1 S1 b) (6 * sl)) - (nI 1))]) (w2 := fun u : Unit => (wM cI cZ cJ mo se co ou le wo ma pl tl tm th na si pa ta thr G ky DE cn got S0 C0 O0 L0 W0 S1 C1 O1 L1 W1 MP PL ML DL TH NM SZ PT TK)) ⟨hx, hb, hml, hown, hts⟩ (c_m_blocks1 l D cI cZ cJ  ) (va_cwS 1 hts gX5_open_X5_blocks rfl rfl rfl (by decide +kernel) ⟨Nat.le_of_ble_eq_true rfl, Nat.le_of_ble_eq_true rfl⟩) hP hD hK hS hA [] [0, 1, 2, 3, 4, 5, 6, 7, 8, 9, 10, 11, 12, 13, 14] [0, 1, 2, 3, 4, 5, 6, 7, 8, 9, 10, 11, 12, 13, 14] rfl rfl (by decide) (fun u => rfl) rfl hl.1 rfl (Nat.le_of_ble_eq_true rfl) dX5_open_22 ⟨Nat.le_of_ble_eq_true rfl, Nat.le_of_ble_eq_true rfl⟩ (fun r u H locs hu5 hP hD hS => ?_)
    refine k_t1 (show r = nI 64 from hu5) ?_
    refine lv_icmp_lt (tgt := 29) hx hb dX5_open_25 (by decide) (fun c2 => ?_) (fun c2 => ?_)
    · skip
      obtain ⟨n, hn, hxn⟩ : ∃ n, n < 64 ∧ (decR ky 1 C1 S1 b) (6 * sl) - nI 1 = nI n := noB_false (by decide) c1 (fun q => absurd c2 (Int32.not_lt.mpr q))
      have hxn1 : (decR ky 1 C1 S1 b) (6 * sl) - 1 = nI n := hxn
      have hnk : (64 : Nat) < 2147483648 := by decide
      rw [hxn] at hl
      refine lv_iload_n hx hb dX5_open_29 rfl (lv_at hl 2 rfl) ?_
      refine k_si (As := [.int (nI 1)]) (rest := []) (w2 := fun u : Unit => (wM cI cZ cJ mo se co ou le wo ma pl tl tm th na si pa ta thr G ky DE cn got S0 C0 O0 L0 W0 S1 C1 O1 L1 W1 MP PL ML DL TH NM SZ PT TK)) ⟨hx, hb, hml, hown, hts⟩ (c_m_first1 l D cI cZ cJ  ) (va_cwS 1 hts gX5_open_X5_first rfl rfl rfl (by decide +kernel) ⟨Nat.le_of_ble_eq_true rfl, Nat.le_of_ble_eq_true rfl⟩) hP hD hK hS hA [] [0, 1, 2, 3, 4, 5, 6, 7, 8, 9, 10, 11, 12, 13, 14] [0, 1, 2, 3, 4, 5, 6, 7, 8, 9, 10, 11, 12, 13, 14] rfl rfl (by decide) (fun u => rfl) rfl hl.1 rfl (Nat.le_of_ble_eq_true rfl) dX5_open_30 ⟨Nat.le_of_ble_eq_true rfl, Nat.le_of_ble_eq_true rfl⟩ (fun r u H locs hu6 hP hD hS => ?_)
      refine k_t1 (show r = nI 8 from hu6) ?_
      refine lv_iload hx hb dX5_open_33 (lv_at hl 0 rfl) ?_
      refine lv_iadd hx hb dX5_open_35 ?_
      refine k_t1 (show (nI 8) + (nI n) = nI (8 + n) from nI_add _ _) ?_
      refine lv_istore (lv' := [(5, .int (nI (8 + n))), (4, .int (nI n)), (0, .ref mo), (1, .int (nI 1)), (2, .int (nI b)), (3, .int (nI sl))]) hx hb dX5_open_36 hl (by decide) rfl (fun ls hl => ?_)
      refine lv_aload_n hx hb dX5_open_38 rfl (lv_at hl 2 rfl) ?_
      refine va_get (D := D) (ci := 5) (v := .ref ou) (C := RX5) (T := TX5) (N := 20) hx hb hts (by decide +kernel) hown hK hP 0 rfl rfl 7 (by decide) (hts (.fieldLink RX5 16 "VeiledFilesModel" "out" "[Z") (by decide +kernel)) (fun _ h9 => h9) rfl dX5_open_39 ?_
      refine lv_iload hx hb dX5_open_42 (lv_at hl 0 rfl) ?_
      refine lv_iconst (v := nI 1) hx hb dX5_open_44 (by decide) ?_
      refine k_zast hx hb hK hP hD hS 3 1 rfl rfl (8 + n) (by omega) (by omega) (g := jn 8 O0 (upd O1 n 1)) (jn_u1) (by first | rfl | decide) dX5_open_45 (fun H locs hP hD hS => ?_)
      have hP : va_P D vwCl (wM cI cZ cJ mo se co ou le wo ma pl tl tm th na si pa ta thr G ky DE cn got S0 C0 O0 L0 W0 S1 C1 (upd O1 n 1) L1 W1 MP PL ML DL TH NM SZ PT TK) _ := hP
      have hD : va_D A (wM cI cZ cJ mo se co ou le wo ma pl tl tm th na si pa ta thr G ky DE cn got S0 C0 O0 L0 W0 S1 C1 (upd O1 n 1) L1 W1 MP PL ML DL TH NM SZ PT TK) := hD
      refine lv_aload_n hx hb dX5_open_46 rfl (lv_at hl 2 rfl) ?_
      refine va_get (D := D) (ci := 5) (v := .ref le) (C := RX5) (T := TX5) (N := 20) hx hb hts (by decide +kernel) hown hK hP 0 rfl rfl 8 (by decide) (hts (.fieldLink RX5 20 "VeiledFilesModel" "leaf" "[I") (by decide +kernel)) (fun _ h9 => h9) rfl dX5_open_47 ?_
      refine lv_iload hx hb dX5_open_50 (lv_at hl 0 rfl) ?_
      refine lv_aload_n hx hb dX5_open_52 rfl (lv_at hl 2 rfl) ?_
      refine lv_iload_n hx hb dX5_open_53 rfl (lv_at hl 3 rfl) ?_
      refine lv_iload_n hx hb dX5_open_54 rfl (lv_at hl 4 rfl) ?_
      refine lv_bipush (v := nI 6) hx hb dX5_open_55 (by decide) ?_
      refine lv_iload_n hx hb dX5_open_57 rfl (lv_at hl 5 rfl) ?_
      refine lv_imul hx hb dX5_open_58 ?_
      refine k_t1 (show (nI 6) * (nI sl) = nI (6 * sl) from pk_mul _ _) ?_
      refine lv_iconst (v := nI 1) hx hb dX5_open_59 (by decide) ?_
      refine lv_iadd hx hb dX5_open_60 ?_
      refine k_t1 (show (nI (6 * sl)) + (nI 1) = nI (6 * sl + 1) from nI_add _ _) ?_
      refine k_vi (As := [.int (nI 1), .int (nI b), .int (nI (6 * sl + 1))]) (rest := [.int (nI (8 + n)), .ref le]) (w2 := fun u : Unit => (wM cI cZ cJ mo se co ou le wo ma pl tl tm th na si pa ta thr G ky DE cn got S0 C0 O0 L0 W0 S1 C1 (upd O1 n 1) L1 W1 MP PL ML DL TH NM SZ PT TK)) ⟨hx, hb, hml, hown, hts⟩ (c_m_plain1 l D cI cZ cJ mo se co ou le wo ma pl tl tm th na si pa ta thr G ky DE cn got S0 C0 O0 L0 W0 S1 C1 (upd O1 n 1) L1 W1 MP PL ML DL TH NM SZ PT TK b (6 * sl + 1) hb0 (by omega)) (cwV 3 hts gX5_open_X5_plainWord rfl rfl rfl (by decide +kernel) ⟨Nat.le_of_ble_eq_true rfl, Nat.le_of_ble_eq_true rfl⟩) hP hD hK hS hA [0, 1, 2, 3, 4, 5, 6, 7, 8, 9, 10, 11, 12, 13, 14] [] [0, 1, 2, 3, 4, 5, 6, 7, 8, 9, 10, 11, 12, 13, 14] rfl rfl (by decide) (fun u => rfl) rfl rfl (q0 := 0) rfl rfl hl.1 rfl (Nat.le_of_ble_eq_true rfl) dX5_open_61 ⟨Nat.le_of_ble_eq_true rfl, Nat.le_of_ble_eq_true rfl⟩ (fun r u H locs hu7 hP hD hS => ?_)
      refine k_t1 (show r = (decR ky 1 C1 S1 b) (6 * sl + 1) from hu7) ?_
      refine k_iast hx hb hK hP hD hS 4 0 rfl rfl (8 + n) (by omega) (by omega) (g := jn 8 L0 (upd L1 n ((decR ky 1 C1 S1 b) (6 * sl + 1)))) (jn_u1) dX5_open_64 (fun H locs hP hD hS => ?_)
      have hP : va_P D vwCl (wM cI cZ cJ mo se co ou le wo ma pl tl tm th na si pa ta thr G ky DE cn got S0 C0 O0 L0 W0 S1 C1 (upd O1 n 1) (upd L1 n ((decR ky 1 C1 S1 b) (6 * sl + 1))) W1 MP PL ML DL TH NM SZ PT TK) _ := hP
      have hD : va_D A (wM cI cZ cJ mo se co ou le wo ma pl tl tm th na si pa ta thr G ky DE cn got S0 C0 O0 L0 W0 S1 C1 (upd O1 n 1) (upd L1 n ((decR ky 1 C1 S1 b) (6 * sl + 1))) W1 MP PL ML DL TH NM SZ PT TK) := hD
      refine lv_iconst (v := nI 0) hx hb dX5_open_65 (by decide) ?_
      refine lv_istore (lv' := [(6, .int (nI 0)), (5, .int (nI (8 + n))), (4, .int (nI n)), (0, .ref mo), (1, .int (nI 1)), (2, .int (nI b)), (3, .int (nI sl))]) hx hb dX5_open_66 hl (by decide) rfl (fun ls hl => ?_)
      have hE8 : (wM cI cZ cJ mo se co ou le wo ma pl tl tm th na si pa ta thr G ky DE cn got S0 C0 O0 L0 W0 S1 C1 (upd O1 n 1) (upd L1 n ((decR ky 1 C1 S1 b) (6 * sl + 1))) W1 MP PL ML DL TH NM SZ PT TK) = (wM cI cZ cJ mo se co ou le wo ma pl tl tm th na si pa ta thr G ky DE cn got S0 C0 O0 L0 W0 S1 C1 (hoO 64 (decR ky 1 C1 S1 b) sl O1) (upd L1 n ((decR ky 1 C1 S1 b) (6 * sl + 1))) W1 MP PL ML DL TH NM SZ PT TK) := by rw [hoO_y hn hnk hxn1]
      rw [hE8] at hP hD
      have hE9 : (wM cI cZ cJ mo se co ou le wo ma pl tl tm th na si pa ta thr G ky DE cn got S0 C0 O0 L0 W0 S1 C1 (hoO 64 (decR ky 1 C1 S1 b) sl O1) (upd L1 n ((decR ky 1 C1 S1 b) (6 * sl + 1))) W1 MP PL ML DL TH NM SZ PT TK) = (wM cI cZ cJ mo se co ou le wo ma pl tl tm th na si pa ta thr G ky DE cn got S0 C0 O0 L0 W0 S1 C1 (hoO 64 (decR ky 1 C1 S1 b) sl O1) (hoL 64 (decR ky 1 C1 S1 b) sl L1) W1 MP PL ML DL TH NM SZ PT TK) := by rw [hoL_y hn hnk hxn1]
      rw [hE9] at hP hD
      have hE10 : (wM cI cZ cJ mo se co ou le wo ma pl tl tm th na si pa ta thr G ky DE cn got S0 C0 O0 L0 W0 S1 C1 (hoO 64 (decR ky 1 C1 S1 b) sl O1) (hoL 64 (decR ky 1 C1 S1 b) sl L1) W1 MP PL ML DL TH NM SZ PT TK) = (wM cI cZ cJ mo se co ou le wo ma pl tl tm th na si pa ta thr G ky DE cn got S0 C0 O0 L0 W0 S1 C1 (hoO 64 (decR ky 1 C1 S1 b) sl O1) (hoL 64 (decR ky 1 C1 S1 b) sl L1) (setRow W1 n (wdK (decR ky 1 C1 S1 b) sl (W1 n) 0)) MP PL ML DL TH NM SZ PT TK) := by rw [wdK_0, setRow_id]
      rw [hE10] at hP hD
      have L1l : ∀ (nf k : Nat) (hvL1l : k ≤ 4) (hFL1l : 4 - k < nf) (H : Heap) (locs : List Loc) (ls : Array Slot), va_P D vwCl (wM cI cZ cJ mo se co ou le wo ma pl tl tm th na si pa ta thr G ky DE cn got S0 C0 O0 L0 W0 S1 C1 (hoO 64 (decR ky 1 C1 S1 b) sl O1) (hoL 64 (decR ky 1 C1 S1 b) sl L1) (setRow W1 n (wdK (decR ky 1 C1 S1 b) sl (W1 n) k)) MP PL ML DL TH NM SZ PT TK) H → va_D A (wM cI cZ cJ mo se co ou le wo ma pl tl tm th na si pa ta thr G ky DE cn got S0 C0 O0 L0 W0 S1 C1 (hoO 64 (decR ky 1 C1 S1 b) sl O1) (hoL 64 (decR ky 1 C1 S1 b) sl L1) (setRow W1 n (wdK (decR ky 1 C1 S1 b) sl (W1 n) k)) MP PL ML DL TH NM SZ PT TK) → va_S A s.heap H locs → lv_has ls 7 [(0, .ref mo), (1, .int (nI 1)), (2, .int (nI b)), (3, .int (nI sl)), (4, .int (nI n)), (5, .int (nI (8 + n))), (6, .int (nI k))] → W p l e ({ frames := 3, cells := 0, slots := 0, locals := 68 } : Room) s m args below meth c H locs 0 0 Q (F0 m 68 ls []) := by
        intro nf
        induction nf with
        | zero => intro k  hvL1l hFL1l; omega
        | succ nf ihL1l =>
          intro k  hvL1l hFL1l  H locs ls hP hD hS hl
          refine lv_iload hx hb dX5_open_68 (lv_at hl 6 rfl) ?_
          refine lv_iconst (v := nI 4) hx hb dX5_open_70 (by decide) ?_
          refine k_icmp_ge (tgt := 107) hx hb (by omega) (by omega) dX5_open_71 (by decide) (fun c3 => ?_) (fun c3 => ?_)
          · skip
            obtain rfl : k = 4 := by omega
            have hE11 : (wM cI cZ cJ mo se co ou le wo ma pl tl tm th na si pa ta thr G ky DE cn got S0 C0 O0 L0 W0 S1 C1 (hoO 64 (decR ky 1 C1 S1 b) sl O1) (hoL 64 (decR ky 1 C1 S1 b) sl L1) (setRow W1 n (wdK (decR ky 1 C1 S1 b) sl (W1 n) 4)) MP PL ML DL TH NM SZ PT TK) = (wM cI cZ cJ mo se co ou le wo ma pl tl tm th na si pa ta thr G ky DE cn got S0 C0 O0 L0 W0 S1 C1 (hoO 64 (decR ky 1 C1 S1 b) sl O1) (hoL 64 (decR ky 1 C1 S1 b) sl L1) (hoW 64 (decR ky 1 C1 S1 b) sl W1) MP PL ML DL TH NM SZ PT TK) := by rw [hoW_y hn hnk hxn1]
            rw [hE11] at hP hD
            exact k_retv () hx hb hr hK hS hlk dX5_open_107 hP hD (trivial) hQ
          · skip
            refine lv_aload_n hx hb dX5_open_74 rfl (lv_at hl 0 rfl) ?_
            refine va_get (D := D) (ci := 5) (v := .ref wo) (C := RX5) (T := TX5) (N := 20) hx hb hts (by decide +kernel) hown hK hP 0 rfl rfl 9 (by decide) (hts (.fieldLink RX5 23 "VeiledFilesModel" "words" "[I") (by decide +kernel)) (fun _ h9 => h9) rfl dX5_open_75 ?_
            refine lv_iconst (v := nI 4) hx hb dX5_open_78 (by decide) ?_
            refine lv_iload hx hb dX5_open_79 (lv_at hl 5 rfl) ?_
            refine lv_imul hx hb dX5_open_81 ?_
            refine k_t1 (show (nI 4) * (nI (8 + n)) = nI (4 * (8 + n)) from pk_mul _ _) ?_
            refine lv_iload hx hb dX5_open_82 (lv_at hl 6 rfl) ?_
            refine lv_iadd hx hb dX5_open_84 ?_
            refine k_t1 (show (nI (4 * (8 + n))) + (nI k) = nI (4 * (8 + n) + k) from nI_add _ _) ?_
            refine lv_aload_n hx hb dX5_open_85 rfl (lv_at hl 0 rfl) ?_
            refine lv_iload_n hx hb dX5_open_86 rfl (lv_at hl 1 rfl) ?_
            refine lv_iload_n hx hb dX5_open_87 rfl (lv_at hl 2 rfl) ?_
            refine lv_bipush (v := nI 6) hx hb dX5_open_88 (by decide) ?_
            refine lv_iload_n hx hb dX5_open_90 rfl (lv_at hl 3 rfl) ?_
            refine lv_imul hx hb dX5_open_91 ?_
            refine k_t1 (show (nI 6) * (nI sl) = nI (6 * sl) from pk_mul _ _) ?_
            refine lv_iconst (v := nI 2) hx hb dX5_open_92 (by decide) ?_
            refine lv_iadd hx hb dX5_open_93 ?_
            refine k_t1 (show (nI (6 * sl)) + (nI 2) = nI (6 * sl + 2) from nI_add _ _) ?_
            refine lv_iload hx hb dX5_open_94 (lv_at hl 6 rfl) ?_
            refine lv_iadd hx hb dX5_open_96 ?_
            refine k_t1 (show (nI (6 * sl + 2)) + (nI k) = nI (6 * sl + 2 + k) from nI_add _ _) ?_
            refine k_vi (As := [.int (nI 1), .int (nI b), .int (nI (6 * sl + 2 + k))]) (rest := [.int (nI (4 * (8 + n) + k)), .ref wo]) (w2 := fun u : Unit => (wM cI cZ cJ mo se co ou le wo ma pl tl tm th na si pa ta thr G ky DE cn got S0 C0 O0 L0 W0 S1 C1 (hoO 64 (decR ky 1 C1 S1 b) sl O1) (hoL 64 (decR ky 1 C1 S1 b) sl L1) (setRow W1 n (wdK (decR ky 1 C1 S1 b) sl (W1 n) k)) MP PL ML DL TH NM SZ PT TK)) ⟨hx, hb, hml, hown, hts⟩ (c_m_plain1 l D cI cZ cJ mo se co ou le wo ma pl tl tm th na si pa ta thr G ky DE cn got S0 C0 O0 L0 W0 S1 C1 (hoO 64 (decR ky 1 C1 S1 b) sl O1) (hoL 64 (decR ky 1 C1 S1 b) sl L1) (setRow W1 n (wdK (decR ky 1 C1 S1 b) sl (W1 n) k)) MP PL ML DL TH NM SZ PT TK b (6 * sl + 2 + k) hb0 (by omega)) (cwV 3 hts gX5_open_X5_plainWord rfl rfl rfl (by decide +kernel) ⟨Nat.le_of_ble_eq_true rfl, Nat.le_of_ble_eq_true rfl⟩) hP hD hK hS hA [0, 1, 2, 3, 4, 5, 6, 7, 8, 9, 10, 11, 12, 13, 14] [] [0, 1, 2, 3, 4, 5, 6, 7, 8, 9, 10, 11, 12, 13, 14] rfl rfl (by decide) (fun u => rfl) rfl rfl (q0 := 0) rfl rfl hl.1 rfl (Nat.le_of_ble_eq_true rfl) dX5_open_97 ⟨Nat.le_of_ble_eq_true rfl, Nat.le_of_ble_eq_true rfl⟩ (fun r u H locs hu12 hP hD hS => ?_)
            refine k_t1 (show r = (decR ky 1 C1 S1 b) (6 * sl + 2 + k) from hu12) ?_
            refine k_iast hx hb hK hP hD hS 5 0 rfl rfl (4 * (8 + n) + k) (by omega) (by omega) (g := fl4 (jn 8 W0 (setRow W1 n (wdK (decR ky 1 C1 S1 b) sl (W1 n) (k + 1))))) ((uW1 (p := n) (i := k) (by omega) (by omega)).trans (by rw [setRow_s, setRow_2, wdK_s])) dX5_open_100 (fun H locs hP hD hS => ?_)
            have hP : va_P D vwCl (wM cI cZ cJ mo se co ou le wo ma pl tl tm th na si pa ta thr G ky DE cn got S0 C0 O0 L0 W0 S1 C1 (hoO 64 (decR ky 1 C1 S1 b) sl O1) (hoL 64 (decR ky 1 C1 S1 b) sl L1) (setRow W1 n (wdK (decR ky 1 C1 S1 b) sl (W1 n) (k + 1))) MP PL ML DL TH NM SZ PT TK) _ := hP
            have hD : va_D A (wM cI cZ cJ mo se co ou le wo ma pl tl tm th na si pa ta thr G ky DE cn got S0 C0 O0 L0 W0 S1 C1 (hoO 64 (decR ky 1 C1 S1 b) sl O1) (hoL 64 (decR ky 1 C1 S1 b) sl L1) (setRow W1 n (wdK (decR ky 1 C1 S1 b) sl (W1 n) (k + 1))) MP PL ML DL TH NM SZ PT TK) := hD
            refine lv_iinc (v := nI (k + 1)) (lv' := [(6, .int (nI (k + 1))), (0, .ref mo), (1, .int (nI 1)), (2, .int (nI b)), (3, .int (nI sl)), (4, .int (nI n)), (5, .int (nI (8 + n)))]) hx hb dX5_open_101 hl (k := 6) rfl (nI_add k 1) (by decide) rfl (fun ls hl => ?_)
            refine lv_goto (tgt := 68) hx hb dX5_open_104 (by decide) ?_
            exact ihL1l (k + 1)  (by omega) (by omega)  _ _ _ hP hD hS (lv_sub hl [1, 2, 3, 4, 5, 6, 0] rfl)
      exact L1l (4 + 1) 0  (by omega) (by omega)  _ _ _ hP hD hS (lv_sub hl [3, 4, 5, 6, 2, 1, 0] rfl)
    · skip
      have hE13 : (wM cI cZ cJ mo se co ou le wo ma pl tl tm th na si pa ta thr G ky DE cn got S0 C0 O0 L0 W0 S1 C1 O1 L1 W1 MP PL ML DL TH NM SZ PT TK) = (wM cI cZ cJ mo se co ou le wo ma pl tl tm th na si pa ta thr G ky DE cn got S0 C0 O0 L0 W0 S1 C1 (hoO 64 (decR ky 1 C1 S1 b) sl O1) L1 W1 MP PL ML DL TH NM SZ PT TK) := by rw [hoO_n (noB_ge (Int32.not_lt.mp c2))]
      rw [hE13] at hP hD
      have hE14 : (wM cI cZ cJ mo se co ou le wo ma pl tl tm th na si pa ta thr G ky DE cn got S0 C0 O0 L0 W0 S1 C1 (hoO 64 (decR ky 1 C1 S1 b) sl O1) L1 W1 MP PL ML DL TH NM SZ PT TK) = (wM cI cZ cJ mo se co ou le wo ma pl tl tm th na si pa ta thr G ky DE cn got S0 C0 O0 L0 W0 S1 C1 (hoO 64 (decR ky 1 C1 S1 b) sl O1) (hoL 64 (decR ky 1 C1 S1 b) sl L1) W1 MP PL ML DL TH NM SZ PT TK) := by rw [hoL_n (noB_ge (Int32.not_lt.mp c2))]
      rw [hE14] at hP hD
      have hE15 : (wM cI cZ cJ mo se co ou le wo ma pl tl tm th na si pa ta thr G ky DE cn got S0 C0 O0 L0 W0 S1 C1 (hoO 64 (decR ky 1 C1 S1 b) sl O1) (hoL 64 (decR ky 1 C1 S1 b) sl L1) W1 MP PL ML DL TH NM SZ PT TK) = (wM cI cZ cJ mo se co ou le wo ma pl tl tm th na si pa ta thr G ky DE cn got S0 C0 O0 L0 W0 S1 C1 (hoO 64 (decR ky 1 C1 S1 b) sl O1) (hoL 64 (decR ky 1 C1 S1 b) sl L1) (hoW 64 (decR ky 1 C1 S1 b) sl W1) MP PL ML DL TH NM SZ PT TK) := by rw [hoW_n (noB_ge (Int32.not_lt.mp c2))]
      rw [hE15] at hP hD
      exact k_retv () hx hb hr hK hS hlk dX5_open_28 hP hD (trivial) hQ

set_option maxHeartbeats 800000 in
set_option maxRecDepth 100000 in
theorem c_m_take1_y (l : Launch) (D : va_G) (cI cZ cJ : ClassId) (mo : Nat) (se : Nat) (co : Nat) (ou : Nat) (le : Nat) (wo : Nat) (ma : Nat) (pl : Nat) (tl : Nat) (tm : Nat) (th : Nat) (na : Nat) (si : Nat) (pa : Nat) (ta : Nat) (thr : Int32) (G : Int32) (ky : Int32) (DE : Int32) (cn : Nat) (got : Int32) (S0 : Nat → Nat → Int32) (C0 : Nat → Int32) (O0 : Nat → Int32) (L0 : Nat → Int32) (W0 : Nat → Nat → Int32) (S1 : Nat → Nat → Int32) (C1 : Nat → Int32) (O1 : Nat → Int32) (L1 : Nat → Int32) (W1 : Nat → Nat → Int32) (MP : Nat → Nat) (PL : Nat → Int32) (ML : Nat → Int32) (DL : Nat → Int32) (TH : Nat → Int32) (NM : Nat → Int64) (SZ : Nat → Nat) (PT : Nat → Nat) (TK : Nat → Int32) (l0 : Nat) (hl0 : l0 < 32) (hw : ∀ up, up < 6 → wholeB ky 1 C1 S1 (pathB 32 l0 up)) : KI l yX5_take wsX5_take ({ frames := 4, cells := 0, slots := 0, locals := 94 }) D (kty cI cZ cJ) [.ref mo, .int (nI 1), .int (nI l0)] (wM cI cZ cJ mo se co ou le wo ma pl tl tm th na si pa ta thr G ky DE cn got S0 C0 O0 L0 W0 S1 C1 O1 L1 W1 MP PL ML DL TH NM SZ PT TK) (fun r (_ : Unit) => r = 1) (fun _ : Unit => (wM cI cZ cJ mo se co ou le wo ma pl tl tm th na si pa ta thr G ky DE cn got S0 C0 O0 L0 W0 S1 C1 (tkO 64 (rowsP ky 1 C1 S1 32 l0) O1 6) (tkL 64 (rowsP ky 1 C1 S1 32 l0) L1 6) (tkW 64 (rowsP ky 1 C1 S1 32 l0) W1 6) MP PL ML DL TH NM SZ PT TK)) 0 0 := by
  refine k_headI (cc := cX5_take) (maxL := 6) (ret := (some .boolean)) (by decide) rfl (Nat.le_of_ble_eq_true rfl) ?_
  intro p e s m below meth c A ls args Q hx hb hr hml hts hown hlk hnm hA hK hP hD hS hl hQ
  have hl : lv_has ls 6 [(0, .ref mo), (1, .int (nI 1)), (2, .int (nI l0))] := hl
  refine lv_iconst (v := nI 0) hx hb dX5_take_0 (by decide) ?_
  refine lv_istore_n (lv' := [(3, .int (nI 0)), (0, .ref mo), (1, .int (nI 1)), (2, .int (nI l0))]) hx hb dX5_take_1 rfl hl (by decide) rfl (fun ls hl => ?_)
  have L1l : ∀ (nf k : Nat) (hvL1l : k ≤ 6) (hFL1l : 6 - k < nf) (H : Heap) (locs : List Loc) (ls : Array Slot), va_P D vwCl (wM cI cZ cJ mo se co ou le wo ma pl tl tm th na si pa ta thr G ky DE cn got S0 C0 O0 L0 W0 S1 C1 O1 L1 W1 MP PL ML DL TH NM SZ PT TK) H → va_D A (wM cI cZ cJ mo se co ou le wo ma pl tl tm th na si pa ta thr G ky DE cn got S0 C0 O0 L0 W0 S1 C1 O1 L1 W1 MP PL ML DL TH NM SZ PT TK) → va_S A s.heap H locs → lv_has ls 6 [(0, .ref mo), (1, .int (nI 1)), (2, .int (nI l0)), (3, .int (nI k))] → W p l e ({ frames := 4, cells := 0, slots := 0, locals := 94 } : Room) s m args below meth c H locs 0 0 Q (F0 m 2 ls []) := by
    intro nf
    induction nf with
    | zero => intro k  hvL1l hFL1l; omega
    | succ nf ihL1l =>
      intro k  hvL1l hFL1l  H locs ls hP hD hS hl
      refine lv_iload_n hx hb dX5_take_2 rfl (lv_at hl 3 rfl) ?_
      refine lv_iload_n hx hb dX5_take_3 rfl (lv_at hl 1 rfl) ?_
      refine k_si (As := [.int (nI 1)]) (rest := [.int (nI k)]) (w2 := fun u : Unit => (wM cI cZ cJ mo se co ou le wo ma pl tl tm th na si pa ta thr G ky DE cn got S0 C0 O0 L0 W0 S1 C1 O1 L1 W1 MP PL ML DL TH NM SZ PT TK)) ⟨hx, hb, hml, hown, hts⟩ (c_m_levels1 l D cI cZ cJ  ) (va_cwS 1 hts gX5_take_X5_levels rfl rfl rfl (by decide +kernel) ⟨Nat.le_of_ble_eq_true rfl, Nat.le_of_ble_eq_true rfl⟩) hP hD hK hS hA [] [0, 1, 2, 3, 4, 5, 6, 7, 8, 9, 10, 11, 12, 13, 14] [0, 1, 2, 3, 4, 5, 6, 7, 8, 9, 10, 11, 12, 13, 14] rfl rfl (by decide) (fun u => rfl) rfl hl.1 rfl (Nat.le_of_ble_eq_true rfl) dX5_take_4 ⟨Nat.le_of_ble_eq_true rfl, Nat.le_of_ble_eq_true rfl⟩ (fun r u H locs hu1 hP hD hS => ?_)
      refine k_t1 (show r = nI 6 from hu1) ?_
      refine k_icmp_ge (tgt := 53) hx hb (by omega) (by omega) dX5_take_7 (by decide) (fun c1 => ?_) (fun c1 => ?_)
      · skip
        refine lv_iconst (v := nI 0) hx hb dX5_take_53 (by decide) ?_
        refine lv_istore_n (lv' := [(3, .int (nI 0)), (0, .ref mo), (1, .int (nI 1)), (2, .int (nI l0))]) hx hb dX5_take_54 rfl hl (by decide) rfl (fun ls hl => ?_)
        have L2l : ∀ (nf k : Nat) (hvL2l : k ≤ 6) (hFL2l : 6 - k < nf) (H : Heap) (locs : List Loc) (ls : Array Slot), va_P D vwCl (wM cI cZ cJ mo se co ou le wo ma pl tl tm th na si pa ta thr G ky DE cn got S0 C0 O0 L0 W0 S1 C1 (tkO 64 (rowsP ky 1 C1 S1 32 l0) O1 k) (tkL 64 (rowsP ky 1 C1 S1 32 l0) L1 k) (tkW 64 (rowsP ky 1 C1 S1 32 l0) W1 k) MP PL ML DL TH NM SZ PT TK) H → va_D A (wM cI cZ cJ mo se co ou le wo ma pl tl tm th na si pa ta thr G ky DE cn got S0 C0 O0 L0 W0 S1 C1 (tkO 64 (rowsP ky 1 C1 S1 32 l0) O1 k) (tkL 64 (rowsP ky 1 C1 S1 32 l0) L1 k) (tkW 64 (rowsP ky 1 C1 S1 32 l0) W1 k) MP PL ML DL TH NM SZ PT TK) → va_S A s.heap H locs → lv_has ls 6 [(0, .ref mo), (1, .int (nI 1)), (2, .int (nI l0)), (3, .int (nI k))] → W p l e ({ frames := 4, cells := 0, slots := 0, locals := 94 } : Room) s m args below meth c H locs 0 0 Q (F0 m 55 ls []) := by
          intro nf
          induction nf with
          | zero => intro k  hvL2l hFL2l; omega
          | succ nf ihL2l =>
            intro k  hvL2l hFL2l  H locs ls hP hD hS hl
            refine lv_iload_n hx hb dX5_take_55 rfl (lv_at hl 3 rfl) ?_
            refine lv_iload_n hx hb dX5_take_56 rfl (lv_at hl 1 rfl) ?_
            refine k_si (As := [.int (nI 1)]) (rest := [.int (nI k)]) (w2 := fun u : Unit => (wM cI cZ cJ mo se co ou le wo ma pl tl tm th na si pa ta thr G ky DE cn got S0 C0 O0 L0 W0 S1 C1 (tkO 64 (rowsP ky 1 C1 S1 32 l0) O1 k) (tkL 64 (rowsP ky 1 C1 S1 32 l0) L1 k) (tkW 64 (rowsP ky 1 C1 S1 32 l0) W1 k) MP PL ML DL TH NM SZ PT TK)) ⟨hx, hb, hml, hown, hts⟩ (c_m_levels1 l D cI cZ cJ  ) (va_cwS 1 hts gX5_take_X5_levels rfl rfl rfl (by decide +kernel) ⟨Nat.le_of_ble_eq_true rfl, Nat.le_of_ble_eq_true rfl⟩) hP hD hK hS hA [] [0, 1, 2, 3, 4, 5, 6, 7, 8, 9, 10, 11, 12, 13, 14] [0, 1, 2, 3, 4, 5, 6, 7, 8, 9, 10, 11, 12, 13, 14] rfl rfl (by decide) (fun u => rfl) rfl hl.1 rfl (Nat.le_of_ble_eq_true rfl) dX5_take_57 ⟨Nat.le_of_ble_eq_true rfl, Nat.le_of_ble_eq_true rfl⟩ (fun r u H locs hu2 hP hD hS => ?_)
            refine k_t1 (show r = nI 6 from hu2) ?_
            refine k_icmp_ge (tgt := 101) hx hb (by omega) (by omega) dX5_take_60 (by decide) (fun c2 => ?_) (fun c2 => ?_)
            · skip
              obtain rfl : k = 6 := by omega
              refine lv_iconst (v := nI 1) hx hb dX5_take_101 (by decide) ?_
              exact k_retz () hx hb hr hK hS hlk dX5_take_102 ((by first | exact Or.inl rfl | exact Or.inr rfl)) hP hD (by exact rfl) hQ
            · skip
              refine lv_iload_n hx hb dX5_take_63 rfl (lv_at hl 1 rfl) ?_
              refine lv_iload_n hx hb dX5_take_64 rfl (lv_at hl 2 rfl) ?_
              refine lv_iload_n hx hb dX5_take_65 rfl (lv_at hl 3 rfl) ?_
              refine k_si (As := [.int (nI 1), .int (nI l0), .int (nI k)]) (rest := []) (w2 := fun u : Unit => (wM cI cZ cJ mo se co ou le wo ma pl tl tm th na si pa ta thr G ky DE cn got S0 C0 O0 L0 W0 S1 C1 (tkO 64 (rowsP ky 1 C1 S1 32 l0) O1 k) (tkL 64 (rowsP ky 1 C1 S1 32 l0) L1 k) (tkW 64 (rowsP ky 1 C1 S1 32 l0) W1 k) MP PL ML DL TH NM SZ PT TK)) ⟨hx, hb, hml, hown, hts⟩ (c_m_onPath1 l D cI cZ cJ  l0 k hl0 c2) (va_cwS 3 hts gX5_take_X5_onPath rfl rfl rfl (by decide +kernel) ⟨Nat.le_of_ble_eq_true rfl, Nat.le_of_ble_eq_true rfl⟩) hP hD hK hS hA [] [0, 1, 2, 3, 4, 5, 6, 7, 8, 9, 10, 11, 12, 13, 14] [0, 1, 2, 3, 4, 5, 6, 7, 8, 9, 10, 11, 12, 13, 14] rfl rfl (by decide) (fun u => rfl) rfl hl.1 rfl (Nat.le_of_ble_eq_true rfl) dX5_take_66 ⟨Nat.le_of_ble_eq_true rfl, Nat.le_of_ble_eq_true rfl⟩ (fun r u H locs hu3 hP hD hS => ?_)
              refine k_t1 (show r = nI (pathB 32 l0 k) from hu3) ?_
              have hpb : pathB 32 l0 k < 63 := pathB_lt tp1 hl0
              refine lv_istore (lv' := [(4, .int (nI (pathB 32 l0 k))), (0, .ref mo), (1, .int (nI 1)), (2, .int (nI l0)), (3, .int (nI k))]) hx hb dX5_take_69 hl (by decide) rfl (fun ls hl => ?_)
              refine lv_iconst (v := nI 0) hx hb dX5_take_71 (by decide) ?_
              refine lv_istore (lv' := [(5, .int (nI 0)), (4, .int (nI (pathB 32 l0 k))), (0, .ref mo), (1, .int (nI 1)), (2, .int (nI l0)), (3, .int (nI k))]) hx hb dX5_take_72 hl (by decide) rfl (fun ls hl => ?_)
              have L3l : ∀ (nf q : Nat) (hvL3l : q ≤ 4) (hFL3l : 4 - q < nf) (H : Heap) (locs : List Loc) (ls : Array Slot), va_P D vwCl (wM cI cZ cJ mo se co ou le wo ma pl tl tm th na si pa ta thr G ky DE cn got S0 C0 O0 L0 W0 S1 C1 (opO 64 ((rowsP ky 1 C1 S1 32 l0) k) (tkO 64 (rowsP ky 1 C1 S1 32 l0) O1 k) q) (opL 64 ((rowsP ky 1 C1 S1 32 l0) k) (tkL 64 (rowsP ky 1 C1 S1 32 l0) L1 k) q) (opW 64 ((rowsP ky 1 C1 S1 32 l0) k) (tkW 64 (rowsP ky 1 C1 S1 32 l0) W1 k) q) MP PL ML DL TH NM SZ PT TK) H → va_D A (wM cI cZ cJ mo se co ou le wo ma pl tl tm th na si pa ta thr G ky DE cn got S0 C0 O0 L0 W0 S1 C1 (opO 64 ((rowsP ky 1 C1 S1 32 l0) k) (tkO 64 (rowsP ky 1 C1 S1 32 l0) O1 k) q) (opL 64 ((rowsP ky 1 C1 S1 32 l0) k) (tkL 64 (rowsP ky 1 C1 S1 32 l0) L1 k) q) (opW 64 ((rowsP ky 1 C1 S1 32 l0) k) (tkW 64 (rowsP ky 1 C1 S1 32 l0) W1 k) q) MP PL ML DL TH NM SZ PT TK) → va_S A s.heap H locs → lv_has ls 6 [(0, .ref mo), (1, .int (nI 1)), (2, .int (nI l0)), (3, .int (nI k)), (4, .int (nI (pathB 32 l0 k))), (5, .int (nI q))] → W p l e ({ frames := 4, cells := 0, slots := 0, locals := 94 } : Room) s m args below meth c H locs 0 0 Q (F0 m 74 ls []) := by
                intro nf
                induction nf with
                | zero => intro q  hvL3l hFL3l; omega
                | succ nf ihL3l =>
                  intro q  hvL3l hFL3l  H locs ls hP hD hS hl
                  refine lv_iload hx hb dX5_take_74 (lv_at hl 5 rfl) ?_
                  refine lv_iconst (v := nI 4) hx hb dX5_take_76 (by decide) ?_
                  refine k_icmp_ge (tgt := 95) hx hb (by omega) (by omega) dX5_take_77 (by decide) (fun c3 => ?_) (fun c3 => ?_)
                  · skip
                    obtain rfl : q = 4 := by omega
                    have hP : va_P D vwCl (wM cI cZ cJ mo se co ou le wo ma pl tl tm th na si pa ta thr G ky DE cn got S0 C0 O0 L0 W0 S1 C1 (tkO 64 (rowsP ky 1 C1 S1 32 l0) O1 (k + 1)) (tkL 64 (rowsP ky 1 C1 S1 32 l0) L1 (k + 1)) (tkW 64 (rowsP ky 1 C1 S1 32 l0) W1 (k + 1)) MP PL ML DL TH NM SZ PT TK) _ := hP
                    have hD : va_D A (wM cI cZ cJ mo se co ou le wo ma pl tl tm th na si pa ta thr G ky DE cn got S0 C0 O0 L0 W0 S1 C1 (tkO 64 (rowsP ky 1 C1 S1 32 l0) O1 (k + 1)) (tkL 64 (rowsP ky 1 C1 S1 32 l0) L1 (k + 1)) (tkW 64 (rowsP ky 1 C1 S1 32 l0) W1 (k + 1)) MP PL ML DL TH NM SZ PT TK) := hD
                    refine lv_iinc (v := nI (k + 1)) (lv' := [(3, .int (nI (k + 1))), (0, .ref mo), (1, .int (nI 1)), (2, .int (nI l0)), (4, .int (nI (pathB 32 l0 k))), (5, .int (nI 4))]) hx hb dX5_take_95 hl (k := 3) rfl (nI_add k 1) (by decide) rfl (fun ls hl => ?_)
                    refine lv_goto (tgt := 55) hx hb dX5_take_98 (by decide) ?_
                    exact ihL2l (k + 1)  (by omega) (by omega)  _ _ _ hP hD hS (lv_sub hl [1, 2, 3, 0] rfl)
                  · skip
                    refine lv_aload_n hx hb dX5_take_80 rfl (lv_at hl 0 rfl) ?_
                    refine lv_iload_n hx hb dX5_take_81 rfl (lv_at hl 1 rfl) ?_
                    refine lv_iload hx hb dX5_take_82 (lv_at hl 4 rfl) ?_
                    refine lv_iload hx hb dX5_take_84 (lv_at hl 5 rfl) ?_
                    refine k_vv (As := [.int (nI 1), .int (nI (pathB 32 l0 k)), .int (nI q)]) (rest := []) (w2 := fun u : Unit => (wM cI cZ cJ mo se co ou le wo ma pl tl tm th na si pa ta thr G ky DE cn got S0 C0 O0 L0 W0 S1 C1 (hoO 64 (decR ky 1 C1 S1 (pathB 32 l0 k)) q (opO 64 ((rowsP ky 1 C1 S1 32 l0) k) (tkO 64 (rowsP ky 1 C1 S1 32 l0) O1 k) q)) (hoL 64 (decR ky 1 C1 S1 (pathB 32 l0 k)) q (opL 64 ((rowsP ky 1 C1 S1 32 l0) k) (tkL 64 (rowsP ky 1 C1 S1 32 l0) L1 k) q)) (hoW 64 (decR ky 1 C1 S1 (pathB 32 l0 k)) q (opW 64 ((rowsP ky 1 C1 S1 32 l0) k) (tkW 64 (rowsP ky 1 C1 S1 32 l0) W1 k) q)) MP PL ML DL TH NM SZ PT TK)) ⟨hx, hb, hml, hown, hts⟩ (c_m_open1 l D cI cZ cJ mo se co ou le wo ma pl tl tm th na si pa ta thr G ky DE cn got S0 C0 O0 L0 W0 S1 C1 (opO 64 ((rowsP ky 1 C1 S1 32 l0) k) (tkO 64 (rowsP ky 1 C1 S1 32 l0) O1 k) q) (opL 64 ((rowsP ky 1 C1 S1 32 l0) k) (tkL 64 (rowsP ky 1 C1 S1 32 l0) L1 k) q) (opW 64 ((rowsP ky 1 C1 S1 32 l0) k) (tkW 64 (rowsP ky 1 C1 S1 32 l0) W1 k) q) MP PL ML DL TH NM SZ PT TK (pathB 32 l0 k) q hpb c3) (cwV 3 hts gX5_take_X5_open rfl rfl rfl (by decide +kernel) ⟨Nat.le_of_ble_eq_true rfl, Nat.le_of_ble_eq_true rfl⟩) hP hD hK hS hA [0, 1, 2, 3, 4, 5, 6, 7, 8, 9, 10, 11, 12, 13, 14] [] [0, 1, 2, 3, 4, 5, 6, 7, 8, 9, 10, 11, 12, 13, 14] rfl rfl (by decide) (fun u => rfl) rfl rfl (q0 := 0) rfl rfl hl.1 rfl (Nat.le_of_ble_eq_true rfl) dX5_take_86 ⟨Nat.le_of_ble_eq_true rfl, Nat.le_of_ble_eq_true rfl⟩ (fun u H locs hu4 hP hD hS => ?_)
                    have hP : va_P D vwCl (wM cI cZ cJ mo se co ou le wo ma pl tl tm th na si pa ta thr G ky DE cn got S0 C0 O0 L0 W0 S1 C1 (opO 64 ((rowsP ky 1 C1 S1 32 l0) k) (tkO 64 (rowsP ky 1 C1 S1 32 l0) O1 k) (q + 1)) (opL 64 ((rowsP ky 1 C1 S1 32 l0) k) (tkL 64 (rowsP ky 1 C1 S1 32 l0) L1 k) (q + 1)) (opW 64 ((rowsP ky 1 C1 S1 32 l0) k) (tkW 64 (rowsP ky 1 C1 S1 32 l0) W1 k) (q + 1)) MP PL ML DL TH NM SZ PT TK) _ := hP
                    have hD : va_D A (wM cI cZ cJ mo se co ou le wo ma pl tl tm th na si pa ta thr G ky DE cn got S0 C0 O0 L0 W0 S1 C1 (opO 64 ((rowsP ky 1 C1 S1 32 l0) k) (tkO 64 (rowsP ky 1 C1 S1 32 l0) O1 k) (q + 1)) (opL 64 ((rowsP ky 1 C1 S1 32 l0) k) (tkL 64 (rowsP ky 1 C1 S1 32 l0) L1 k) (q + 1)) (opW 64 ((rowsP ky 1 C1 S1 32 l0) k) (tkW 64 (rowsP ky 1 C1 S1 32 l0) W1 k) (q + 1)) MP PL ML DL TH NM SZ PT TK) := hD
                    refine lv_iinc (v := nI (q + 1)) (lv' := [(5, .int (nI (q + 1))), (0, .ref mo), (1, .int (nI 1)), (2, .int (nI l0)), (3, .int (nI k)), (4, .int (nI (pathB 32 l0 k)))]) hx hb dX5_take_89 hl (k := 5) rfl (nI_add q 1) (by decide) rfl (fun ls hl => ?_)
                    refine lv_goto (tgt := 74) hx hb dX5_take_92 (by decide) ?_
                    exact ihL3l (q + 1)  (by omega) (by omega)  _ _ _ hP hD hS (lv_sub hl [1, 2, 3, 4, 5, 0] rfl)
              exact L3l (4 + 1) 0  (by omega) (by omega)  _ _ _ hP hD hS (lv_sub hl [2, 3, 4, 5, 1, 0] rfl)
        exact L2l (6 + 1) 0  (by omega) (by omega)  _ _ _ hP hD hS (lv_sub hl [1, 2, 3, 0] rfl)
      · skip
        refine lv_iload_n hx hb dX5_take_10 rfl (lv_at hl 1 rfl) ?_
        refine lv_iload_n hx hb dX5_take_11 rfl (lv_at hl 2 rfl) ?_
        refine lv_iload_n hx hb dX5_take_12 rfl (lv_at hl 3 rfl) ?_
        refine k_si (As := [.int (nI 1), .int (nI l0), .int (nI k)]) (rest := []) (w2 := fun u : Unit => (wM cI cZ cJ mo se co ou le wo ma pl tl tm th na si pa ta thr G ky DE cn got S0 C0 O0 L0 W0 S1 C1 O1 L1 W1 MP PL ML DL TH NM SZ PT TK)) ⟨hx, hb, hml, hown, hts⟩ (c_m_onPath1 l D cI cZ cJ  l0 k hl0 c1) (va_cwS 3 hts gX5_take_X5_onPath rfl rfl rfl (by decide +kernel) ⟨Nat.le_of_ble_eq_true rfl, Nat.le_of_ble_eq_true rfl⟩) hP hD hK hS hA [] [0, 1, 2, 3, 4, 5, 6, 7, 8, 9, 10, 11, 12, 13, 14] [0, 1, 2, 3, 4, 5, 6, 7, 8, 9, 10, 11, 12, 13, 14] rfl rfl (by decide) (fun u => rfl) rfl hl.1 rfl (Nat.le_of_ble_eq_true rfl) dX5_take_13 ⟨Nat.le_of_ble_eq_true rfl, Nat.le_of_ble_eq_true rfl⟩ (fun r u H locs hu5 hP hD hS => ?_)
        refine k_t1 (show r = nI (pathB 32 l0 k) from hu5) ?_
        have hpb : pathB 32 l0 k < 63 := pathB_lt tp1 hl0
        refine lv_istore (lv' := [(4, .int (nI (pathB 32 l0 k))), (0, .ref mo), (1, .int (nI 1)), (2, .int (nI l0)), (3, .int (nI k))]) hx hb dX5_take_16 hl (by decide) rfl (fun ls hl => ?_)
        refine lv_aload_n hx hb dX5_take_18 rfl (lv_at hl 1 rfl) ?_
        refine va_get (D := D) (ci := 5) (v := .ref se) (C := RX5) (T := TX5) (N := 20) hx hb hts (by decide +kernel) hown hK hP 0 rfl rfl 5 (by decide) (hts (.fieldLink RX5 7 "VeiledFilesModel" "sealed" "[I") (by decide +kernel)) (fun _ h9 => h9) rfl dX5_take_19 ?_
        refine lv_bipush (v := nI 25) hx hb dX5_take_22 (by decide) ?_
        refine lv_iload_n hx hb dX5_take_24 rfl (lv_at hl 2 rfl) ?_
        refine lv_iload hx hb dX5_take_25 (lv_at hl 0 rfl) ?_
        refine k_si (As := [.int (nI 1), .int (nI (pathB 32 l0 k))]) (rest := [.int (nI 25), .ref se]) (w2 := fun u : Unit => (wM cI cZ cJ mo se co ou le wo ma pl tl tm th na si pa ta thr G ky DE cn got S0 C0 O0 L0 W0 S1 C1 O1 L1 W1 MP PL ML DL TH NM SZ PT TK)) ⟨hx, hb, hml, hown, hts⟩ (c_m_place1 l D cI cZ cJ  (pathB 32 l0 k)) (va_cwS 2 hts gX5_take_X5_place rfl rfl rfl (by decide +kernel) ⟨Nat.le_of_ble_eq_true rfl, Nat.le_of_ble_eq_true rfl⟩) hP hD hK hS hA [] [0, 1, 2, 3, 4, 5, 6, 7, 8, 9, 10, 11, 12, 13, 14] [0, 1, 2, 3, 4, 5, 6, 7, 8, 9, 10, 11, 12, 13, 14] rfl rfl (by decide) (fun u => rfl) rfl hl.1 rfl (Nat.le_of_ble_eq_true rfl) dX5_take_27 ⟨Nat.le_of_ble_eq_true rfl, Nat.le_of_ble_eq_true rfl⟩ (fun r u H locs hu6 hP hD hS => ?_)
        refine k_t1 (show r = nI (7 + (pathB 32 l0 k)) from hu6) ?_
        refine lv_imul hx hb dX5_take_30 ?_
        refine k_t1 (show (nI 25) * (nI (7 + (pathB 32 l0 k))) = nI (25 * (7 + (pathB 32 l0 k))) from pk_mul _ _) ?_
        refine lv_bipush (v := nI 24) hx hb dX5_take_31 (by decide) ?_
        refine lv_iadd hx hb dX5_take_33 ?_
        refine k_t1 (show (nI (25 * (7 + (pathB 32 l0 k)))) + (nI 24) = nI (25 * (7 + (pathB 32 l0 k)) + 24) from nI_add _ _) ?_
        refine k_iald hx hb hK hP 1 0 rfl rfl (25 * (7 + (pathB 32 l0 k)) + 24) (by omega) (by omega) (v := S1 (pathB 32 l0 k) 24) (rS1 (p := pathB 32 l0 k) (by omega) (by omega)) dX5_take_34 ?_
        refine lv_aload_n hx hb dX5_take_35 rfl (lv_at hl 1 rfl) ?_
        refine lv_iload_n hx hb dX5_take_36 rfl (lv_at hl 2 rfl) ?_
        refine lv_iload hx hb dX5_take_37 (lv_at hl 0 rfl) ?_
        refine k_vi (As := [.int (nI 1), .int (nI (pathB 32 l0 k))]) (rest := [.int (S1 (pathB 32 l0 k) 24)]) (w2 := fun u : Unit => (wM cI cZ cJ mo se co ou le wo ma pl tl tm th na si pa ta thr G ky DE cn got S0 C0 O0 L0 W0 S1 C1 O1 L1 W1 MP PL ML DL TH NM SZ PT TK)) ⟨hx, hb, hml, hown, hts⟩ (c_m_tag1 l D cI cZ cJ mo se co ou le wo ma pl tl tm th na si pa ta thr G ky DE cn got S0 C0 O0 L0 W0 S1 C1 O1 L1 W1 MP PL ML DL TH NM SZ PT TK (pathB 32 l0 k) hpb) (cwV 2 hts gX5_take_X5_tag rfl rfl rfl (by decide +kernel) ⟨Nat.le_of_ble_eq_true rfl, Nat.le_of_ble_eq_true rfl⟩) hP hD hK hS hA [0, 1, 2, 3, 4, 5, 6, 7, 8, 9, 10, 11, 12, 13, 14] [] [0, 1, 2, 3, 4, 5, 6, 7, 8, 9, 10, 11, 12, 13, 14] rfl rfl (by decide) (fun u => rfl) rfl rfl (q0 := 0) rfl rfl hl.1 rfl (Nat.le_of_ble_eq_true rfl) dX5_take_39 ⟨Nat.le_of_ble_eq_true rfl, Nat.le_of_ble_eq_true rfl⟩ (fun r u H locs hu7 hP hD hS => ?_)
        refine k_t1 (show r = tagF ky 1 (C1 (pathB 32 l0 k)) (pathB 32 l0 k) (S1 (pathB 32 l0 k)) from hu7) ?_
        refine lv_icmp_eq (tgt := 47) hx hb dX5_take_42 (by decide) (fun c2 => ?_) (fun c2 => ?_)
        · skip
          refine lv_iinc (v := nI (k + 1)) (lv' := [(3, .int (nI (k + 1))), (4, .int (nI (pathB 32 l0 k))), (0, .ref mo), (1, .int (nI 1)), (2, .int (nI l0))]) hx hb dX5_take_47 hl (k := 4) rfl (nI_add k 1) (by decide) rfl (fun ls hl => ?_)
          refine lv_goto (tgt := 2) hx hb dX5_take_50 (by decide) ?_
          exact ihL1l (k + 1)  (by omega) (by omega)  _ _ _ hP hD hS (lv_sub hl [2, 3, 4, 0] rfl)
        · skip
          exact absurd (hw k c1) c2
  exact L1l (6 + 1) 0  (by omega) (by omega)  _ _ _ hP hD hS (lv_sub hl [1, 2, 3, 0] rfl)

set_option maxHeartbeats 800000 in
set_option maxRecDepth 100000 in
theorem c_m_take1_n (l : Launch) (D : va_G) (cI cZ cJ : ClassId) (mo : Nat) (se : Nat) (co : Nat) (ou : Nat) (le : Nat) (wo : Nat) (ma : Nat) (pl : Nat) (tl : Nat) (tm : Nat) (th : Nat) (na : Nat) (si : Nat) (pa : Nat) (ta : Nat) (thr : Int32) (G : Int32) (ky : Int32) (DE : Int32) (cn : Nat) (got : Int32) (S0 : Nat → Nat → Int32) (C0 : Nat → Int32) (O0 : Nat → Int32) (L0 : Nat → Int32) (W0 : Nat → Nat → Int32) (S1 : Nat → Nat → Int32) (C1 : Nat → Int32) (O1 : Nat → Int32) (L1 : Nat → Int32) (W1 : Nat → Nat → Int32) (MP : Nat → Nat) (PL : Nat → Int32) (ML : Nat → Int32) (DL : Nat → Int32) (TH : Nat → Int32) (NM : Nat → Int64) (SZ : Nat → Nat) (PT : Nat → Nat) (TK : Nat → Int32) (l0 j0 : Nat) (hl0 : l0 < 32) (hj : j0 < 6) (hw : ∀ up, up < j0 → wholeB ky 1 C1 S1 (pathB 32 l0 up)) (hn : ¬ wholeB ky 1 C1 S1 (pathB 32 l0 j0)) : KI l yX5_take wsX5_take ({ frames := 3, cells := 0, slots := 0, locals := 69 }) D (kty cI cZ cJ) [.ref mo, .int (nI 1), .int (nI l0)] (wM cI cZ cJ mo se co ou le wo ma pl tl tm th na si pa ta thr G ky DE cn got S0 C0 O0 L0 W0 S1 C1 O1 L1 W1 MP PL ML DL TH NM SZ PT TK) (fun r (_ : Unit) => r = 0) (fun _ : Unit => (wM cI cZ cJ mo se co ou le wo ma pl tl tm th na si pa ta thr G ky DE cn got S0 C0 O0 L0 W0 S1 C1 O1 L1 W1 MP PL ML DL TH NM SZ PT TK)) 0 0 := by
  refine k_headI (cc := cX5_take) (maxL := 6) (ret := (some .boolean)) (by decide) rfl (Nat.le_of_ble_eq_true rfl) ?_
  intro p e s m below meth c A ls args Q hx hb hr hml hts hown hlk hnm hA hK hP hD hS hl hQ
  have hl : lv_has ls 6 [(0, .ref mo), (1, .int (nI 1)), (2, .int (nI l0))] := hl
  refine lv_iconst (v := nI 0) hx hb dX5_take_0 (by decide) ?_
  refine lv_istore_n (lv' := [(3, .int (nI 0)), (0, .ref mo), (1, .int (nI 1)), (2, .int (nI l0))]) hx hb dX5_take_1 rfl hl (by decide) rfl (fun ls hl => ?_)
  have L1l : ∀ (nf k : Nat) (hvL1l : k ≤ j0) (hFL1l : j0 - k < nf) (H : Heap) (locs : List Loc) (ls : Array Slot), va_P D vwCl (wM cI cZ cJ mo se co ou le wo ma pl tl tm th na si pa ta thr G ky DE cn got S0 C0 O0 L0 W0 S1 C1 O1 L1 W1 MP PL ML DL TH NM SZ PT TK) H → va_D A (wM cI cZ cJ mo se co ou le wo ma pl tl tm th na si pa ta thr G ky DE cn got S0 C0 O0 L0 W0 S1 C1 O1 L1 W1 MP PL ML DL TH NM SZ PT TK) → va_S A s.heap H locs → lv_has ls 6 [(0, .ref mo), (1, .int (nI 1)), (2, .int (nI l0)), (3, .int (nI k))] → W p l e ({ frames := 3, cells := 0, slots := 0, locals := 69 } : Room) s m args below meth c H locs 0 0 Q (F0 m 2 ls []) := by
    intro nf
    induction nf with
    | zero => intro k  hvL1l hFL1l; omega
    | succ nf ihL1l =>
      intro k  hvL1l hFL1l  H locs ls hP hD hS hl
      refine lv_iload_n hx hb dX5_take_2 rfl (lv_at hl 3 rfl) ?_
      refine lv_iload_n hx hb dX5_take_3 rfl (lv_at hl 1 rfl) ?_
      refine k_si (As := [.int (nI 1)]) (rest := [.int (nI k)]) (w2 := fun u : Unit => (wM cI cZ cJ mo se co ou le wo ma pl tl tm th na si pa ta thr G ky DE cn got S0 C0 O0 L0 W0 S1 C1 O1 L1 W1 MP PL ML DL TH NM SZ PT TK)) ⟨hx, hb, hml, hown, hts⟩ (c_m_levels1 l D cI cZ cJ  ) (va_cwS 1 hts gX5_take_X5_levels rfl rfl rfl (by decide +kernel) ⟨Nat.le_of_ble_eq_true rfl, Nat.le_of_ble_eq_true rfl⟩) hP hD hK hS hA [] [0, 1, 2, 3, 4, 5, 6, 7, 8, 9, 10, 11, 12, 13, 14] [0, 1, 2, 3, 4, 5, 6, 7, 8, 9, 10, 11, 12, 13, 14] rfl rfl (by decide) (fun u => rfl) rfl hl.1 rfl (Nat.le_of_ble_eq_true rfl) dX5_take_4 ⟨Nat.le_of_ble_eq_true rfl, Nat.le_of_ble_eq_true rfl⟩ (fun r u H locs hu1 hP hD hS => ?_)
      refine k_t1 (show r = nI 6 from hu1) ?_
      refine k_icmp_ge (tgt := 53) hx hb (by omega) (by omega) dX5_take_7 (by decide) (fun c1 => ?_) (fun c1 => ?_)
      · skip
        omega
      · skip
        refine lv_iload_n hx hb dX5_take_10 rfl (lv_at hl 1 rfl) ?_
        refine lv_iload_n hx hb dX5_take_11 rfl (lv_at hl 2 rfl) ?_
        refine lv_iload_n hx hb dX5_take_12 rfl (lv_at hl 3 rfl) ?_
        refine k_si (As := [.int (nI 1), .int (nI l0), .int (nI k)]) (rest := []) (w2 := fun u : Unit => (wM cI cZ cJ mo se co ou le wo ma pl tl tm th na si pa ta thr G ky DE cn got S0 C0 O0 L0 W0 S1 C1 O1 L1 W1 MP PL ML DL TH NM SZ PT TK)) ⟨hx, hb, hml, hown, hts⟩ (c_m_onPath1 l D cI cZ cJ  l0 k hl0 c1) (va_cwS 3 hts gX5_take_X5_onPath rfl rfl rfl (by decide +kernel) ⟨Nat.le_of_ble_eq_true rfl, Nat.le_of_ble_eq_true rfl⟩) hP hD hK hS hA [] [0, 1, 2, 3, 4, 5, 6, 7, 8, 9, 10, 11, 12, 13, 14] [0, 1, 2, 3, 4, 5, 6, 7, 8, 9, 10, 11, 12, 13, 14] rfl rfl (by decide) (fun u => rfl) rfl hl.1 rfl (Nat.le_of_ble_eq_true rfl) dX5_take_13 ⟨Nat.le_of_ble_eq_true rfl, Nat.le_of_ble_eq_true rfl⟩ (fun r u H locs hu2 hP hD hS => ?_)
        refine k_t1 (show r = nI (pathB 32 l0 k) from hu2) ?_
        have hpb : pathB 32 l0 k < 63 := pathB_lt tp1 hl0
        refine lv_istore (lv' := [(4, .int (nI (pathB 32 l0 k))), (0, .ref mo), (1, .int (nI 1)), (2, .int (nI l0)), (3, .int (nI k))]) hx hb dX5_take_16 hl (by decide) rfl (fun ls hl => ?_)
        refine lv_aload_n hx hb dX5_take_18 rfl (lv_at hl 1 rfl) ?_
        refine va_get (D := D) (ci := 5) (v := .ref se) (C := RX5) (T := TX5) (N := 20) hx hb hts (by decide +kernel) hown hK hP 0 rfl rfl 5 (by decide) (hts (.fieldLink RX5 7 "VeiledFilesModel" "sealed" "[I") (by decide +kernel)) (fun _ h9 => h9) rfl dX5_take_19 ?_
        refine lv_bipush (v := nI 25) hx hb dX5_take_22 (by decide) ?_
        refine lv_iload_n hx hb dX5_take_24 rfl (lv_at hl 2 rfl) ?_
        refine lv_iload hx hb dX5_take_25 (lv_at hl 0 rfl) ?_
        refine k_si (As := [.int (nI 1), .int (nI (pathB 32 l0 k))]) (rest := [.int (nI 25), .ref se]) (w2 := fun u : Unit => (wM cI cZ cJ mo se co ou le wo ma pl tl tm th na si pa ta thr G ky DE cn got S0 C0 O0 L0 W0 S1 C1 O1 L1 W1 MP PL ML DL TH NM SZ PT TK)) ⟨hx, hb, hml, hown, hts⟩ (c_m_place1 l D cI cZ cJ  (pathB 32 l0 k)) (va_cwS 2 hts gX5_take_X5_place rfl rfl rfl (by decide +kernel) ⟨Nat.le_of_ble_eq_true rfl, Nat.le_of_ble_eq_true rfl⟩) hP hD hK hS hA [] [0, 1, 2, 3, 4, 5, 6, 7, 8, 9, 10, 11, 12, 13, 14] [0, 1, 2, 3, 4, 5, 6, 7, 8, 9, 10, 11, 12, 13, 14] rfl rfl (by decide) (fun u => rfl) rfl hl.1 rfl (Nat.le_of_ble_eq_true rfl) dX5_take_27 ⟨Nat.le_of_ble_eq_true rfl, Nat.le_of_ble_eq_true rfl⟩ (fun r u H locs hu3 hP hD hS => ?_)
        refine k_t1 (show r = nI (7 + (pathB 32 l0 k)) from hu3) ?_
        refine lv_imul hx hb dX5_take_30 ?_
        refine k_t1 (show (nI 25) * (nI (7 + (pathB 32 l0 k))) = nI (25 * (7 + (pathB 32 l0 k))) from pk_mul _ _) ?_
        refine lv_bipush (v := nI 24) hx hb dX5_take_31 (by decide) ?_
        refine lv_iadd hx hb dX5_take_33 ?_
        refine k_t1 (show (nI (25 * (7 + (pathB 32 l0 k)))) + (nI 24) = nI (25 * (7 + (pathB 32 l0 k)) + 24) from nI_add _ _) ?_
        refine k_iald hx hb hK hP 1 0 rfl rfl (25 * (7 + (pathB 32 l0 k)) + 24) (by omega) (by omega) (v := S1 (pathB 32 l0 k) 24) (rS1 (p := pathB 32 l0 k) (by omega) (by omega)) dX5_take_34 ?_
        refine lv_aload_n hx hb dX5_take_35 rfl (lv_at hl 1 rfl) ?_
        refine lv_iload_n hx hb dX5_take_36 rfl (lv_at hl 2 rfl) ?_
        refine lv_iload hx hb dX5_take_37 (lv_at hl 0 rfl) ?_
        refine k_vi (As := [.int (nI 1), .int (nI (pathB 32 l0 k))]) (rest := [.int (S1 (pathB 32 l0 k) 24)]) (w2 := fun u : Unit => (wM cI cZ cJ mo se co ou le wo ma pl tl tm th na si pa ta thr G ky DE cn got S0 C0 O0 L0 W0 S1 C1 O1 L1 W1 MP PL ML DL TH NM SZ PT TK)) ⟨hx, hb, hml, hown, hts⟩ (c_m_tag1 l D cI cZ cJ mo se co ou le wo ma pl tl tm th na si pa ta thr G ky DE cn got S0 C0 O0 L0 W0 S1 C1 O1 L1 W1 MP PL ML DL TH NM SZ PT TK (pathB 32 l0 k) hpb) (cwV 2 hts gX5_take_X5_tag rfl rfl rfl (by decide +kernel) ⟨Nat.le_of_ble_eq_true rfl, Nat.le_of_ble_eq_true rfl⟩) hP hD hK hS hA [0, 1, 2, 3, 4, 5, 6, 7, 8, 9, 10, 11, 12, 13, 14] [] [0, 1, 2, 3, 4, 5, 6, 7, 8, 9, 10, 11, 12, 13, 14] rfl rfl (by decide) (fun u => rfl) rfl rfl (q0 := 0) rfl rfl hl.1 rfl (Nat.le_of_ble_eq_true rfl) dX5_take_39 ⟨Nat.le_of_ble_eq_true rfl, Nat.le_of_ble_eq_true rfl⟩ (fun r u H locs hu4 hP hD hS => ?_)
        refine k_t1 (show r = tagF ky 1 (C1 (pathB 32 l0 k)) (pathB 32 l0 k) (S1 (pathB 32 l0 k)) from hu4) ?_
        refine lv_icmp_eq (tgt := 47) hx hb dX5_take_42 (by decide) (fun c2 => ?_) (fun c2 => ?_)
        · skip
          by_cases hk0 : k < j0
          · skip
            refine lv_iinc (v := nI (k + 1)) (lv' := [(3, .int (nI (k + 1))), (4, .int (nI (pathB 32 l0 k))), (0, .ref mo), (1, .int (nI 1)), (2, .int (nI l0))]) hx hb dX5_take_47 hl (k := 4) rfl (nI_add k 1) (by decide) rfl (fun ls hl => ?_)
            refine lv_goto (tgt := 2) hx hb dX5_take_50 (by decide) ?_
            exact ihL1l (k + 1)  (by omega) (by omega)  _ _ _ hP hD hS (lv_sub hl [2, 3, 4, 0] rfl)
          · have hkj : k = j0 := by omega
            subst hkj
            exact absurd c2 hn
        · skip
          refine lv_iconst (v := nI 0) hx hb dX5_take_45 (by decide) ?_
          exact k_retz () hx hb hr hK hS hlk dX5_take_46 ((by first | exact Or.inl rfl | exact Or.inr rfl)) hP hD (by exact rfl) hQ
  exact L1l (j0 + 1) 0  (by omega) (by omega)  _ _ _ hP hD hS (lv_sub hl [1, 2, 3, 0] rfl)

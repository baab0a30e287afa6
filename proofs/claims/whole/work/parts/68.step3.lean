set_option maxHeartbeats 1600000 in
theorem st_write {p : Program} {l : Launch} {e : Env} {s : State} {m : MethodId} {args : Array Value} {below : List Frame} {meth : Method} {c : Code} {H : Heap} {locs : List Loc} {cells slots : Nat} {Q : State → Prop} {A : Nat → Prop} {D : va_G} {cI cZ cJ : ClassId} {b L : Nat} {xs : Nat → Int32} {vf di t0 st0 ct0 hd0 lv0 wd0 t1 st1 ct1 hd1 lv1 wd1 mp bk nm ln pt tk tr ml dl mo se co ou le wo ma pl tl tm th na si pa ta oz i k : Nat} (hlS : l.stackTraces = false) (hC : lC3 p s m args c A D (kty cI cZ cJ) b L xs) (hi : i + 5 ≤ L) (hL2 : L ≤ 2560) (hk : k < 1000) (hrm : cells + 1 ≤ room_1.cells ∧ slots + 6 ≤ room_1.slots) {ls : Array Slot} (hl : lv_has ls 7 (lwL b vf mo oz i)) (hS : va_S A s.heap H locs) {wx wm : va_W} {fo : Nat → Int64} (hI : IX cI cZ cJ vf di t0 st0 ct0 hd0 lv0 wd0 t1 st1 ct1 hd1 lv1 wd1 mp bk nm ln pt tk tr ml dl mo se co ou le wo ma pl tl tm th na si pa ta k wx wm) (hLS : lS3 D A wx wm [(oz, .inl (cJ, 1, .inr (.inl fo)))] H) {a1 : Int32} (h1 : xs (i + 1) = a1) {a2 : Int32} (h2 : xs (i + 2) = a2) {a3 : Int32} (h3 : xs (i + 3) = a3)
    (kk : ∀ (cells' slots' : Nat) (wx wm : va_W) (fo : Nat → Int64) (H : Heap) (locs : List Loc) (ls : Array Slot), cells' ≤ cells + 1 → slots' ≤ slots + 6 → IX cI cZ cJ vf di t0 st0 ct0 hd0 lv0 wd0 t1 st1 ct1 hd1 lv1 wd1 mp bk nm ln pt tk tr ml dl mo se co ou le wo ma pl tl tm th na si pa ta (k + 1) wx wm → lS3 D A wx wm [(oz, .inl (cJ, 1, .inr (.inl fo)))] H → va_S A s.heap H locs → lv_has ls 7 (lwL b vf mo oz i) → W p l e room_1 s m args below meth c H locs cells' slots' Q (F0 m 724 ls [])) :
    W p l e room_1 s m args below meth c H locs cells slots Q (F0 m 307 ls []) := by
  obtain ⟨thr, G, G', ky, DE, cn, got, S0, C0, O0, L0, W0, S1, C1, O1, L1, W1, MP, PL, ML, DL, TH, NM, SZ, PT, TK, rfl, rfl, hG, hv0, hl0, hv1, hl1, hMP, hB, hcn⟩ := hI
  have hSZ := hB.1
  have hPT := hB.2.1
  rcases ix_write TH SZ a1 a2 hSZ with hbad | ⟨f, j, hf, rfl, ht, hj0, hj2, rfl⟩
  · have hfx := ix_file TH a1
    refine arm_write hC hi hL2 hrm hl hS wV_0 wM_0 hLS h1 h2 h3 (by decide) (by decide) (h_write_IO l D cI cZ cJ wV_0 (by decide) (by decide) (c_write_bad l hlS D cI cZ cJ vf di t0 st0 ct0 hd0 lv0 wd0 t1 st1 ct1 hd1 lv1 wd1 mp bk nm ln pt tk tr ml dl G ky S0 C0 O0 L0 W0 ky S1 C1 O1 L1 W1 MP NM TH SZ PT TK ML DL cn DE a1 a2 a3 hbad hSZ)) (c_m_write_bad l D cI cZ cJ mo se co ou le wo ma pl tl tm th na si pa ta thr G' ky DE cn got S0 C0 O0 L0 W0 S1 C1 O1 L1 W1 MP PL ML DL TH NM SZ PT TK a1 a2 a3 hfx hbad) (fun _ => ⟨_, wM_0⟩) (fun _ => th_m) (fun u H locs ls hLS hS hl => ?_)
    refine kk (cells + 1) (slots + 6) _ _ _ H locs ls (by omega) (by omega) (ix ?_) hLS hS hl
    exact ⟨hG, hv0, hl0, hv1, hl1, hMP, hB, by omega⟩
  · have hs := hSZ f hf
    by_cases ho : j = SZ f ∧ j % 4 = 0
    · obtain ⟨hsz, hm⟩ := ho
      obtain ⟨d, hdd⟩ : ∃ z, z = frQ TK 64 := ⟨_, rfl⟩
      have hd : d < 64 := hdd ▸ (bI_free hB).1
      have hz : TK d = 0 := hdd ▸ (bI_free hB).2
      by_cases hDE : DE = 0
      · skip
        have hc : cn < 100000 := by omega
        obtain ⟨l0, hMl⟩ : ∃ z, MP (d / 8) = z := ⟨_, rfl⟩
        have hl4 : l0 < 4 := hMl ▸ hMP _
        have e9 := hG hDE
        subst e9
        rcases ix_path (fun up => wholeB ky 0 C0 S0 (pathB 4 l0 up)) 3 with ⟨j0, hj, hw, hn⟩ | hw0
        · skip
          refine arm_write hC hi hL2 hrm hl hS wV_0 wM_0 hLS h1 h2 h3 (by decide) (by decide) (h_write_IS l D cI cZ cJ wV_0 (by decide) (by decide) (c_write_Ao l hlS D cI cZ cJ vf di t0 st0 ct0 hd0 lv0 wd0 t1 st1 ct1 hd1 lv1 wd1 mp bk nm ln pt tk tr ml dl G ky S0 C0 O0 L0 W0 ky S1 C1 O1 L1 W1 MP NM TH SZ PT TK ML DL cn DE f j d l0 a3 hf ht hj0 hj2 hs hsz hm hdd hd hMl hl4 hc hDE j0 hj hw hn)) (c_m_write_Ao l D cI cZ cJ mo se co ou le wo ma pl tl tm th na si pa ta thr G ky DE cn got S0 C0 O0 L0 W0 S1 C1 O1 L1 W1 MP PL ML DL TH NM SZ PT TK f j d l0 a3 hDE hf ht hj0 hj2 hs hsz hm hdd hd hMl hl4 hc j0 hj hw hn) (fun _ => ⟨_, wM_0⟩) (fun _ => th_m) (fun u H locs ls hLS hS hl => ?_)
          refine kk (cells + 1) (slots + 6) _ _ _ H locs ls (by omega) (by omega) (ix ?_) hLS hS hl
          exact ⟨fun _ => rfl, hv0, hl0, hv1, hl1, upN_lt hMP (drw_lt (n := 2) _ (by decide)), hB, by omega⟩
        · obtain ⟨O0a, hO0a⟩ : ∃ z, z = tkO 8 (rowsP ky 0 C0 S0 4 l0) O0 3 := ⟨_, rfl⟩
          obtain ⟨L0a, hL0a⟩ : ∃ z, z = tkL 8 (rowsP ky 0 C0 S0 4 l0) L0 3 := ⟨_, rfl⟩
          obtain ⟨W0a, hW0a⟩ : ∃ z, z = tkW 8 (rowsP ky 0 C0 S0 4 l0) W0 3 := ⟨_, rfl⟩
          have hv0a : vL 8 4 O0a (upd L0a (d / 8) (nI (drw 2 G))) := by rw [hO0a, hL0a]; exact vL_take (lvs := 3) (nb := 7) (Or.inl ⟨rfl, rfl, rfl, rfl⟩) (by decide) hl4 hl0 hv0 hw0 ⟨_, drw_lt (n := 2) _ (by decide), rfl⟩
          obtain ⟨M, hM⟩ : ∃ z, z = entM (W0a (d / 8) (d % 8 / 2)) (d % 8 % 2) := ⟨_, rfl⟩
          have hM32 : M < 32 := hM ▸ entM_lt _ _
          rcases ix_path (fun up => wholeB ky 1 C1 S1 (pathB 32 M up)) 6 with ⟨j0, hj, hw, hn⟩ | hw1
          · skip
            refine arm_write hC hi hL2 hrm hl hS wV_0 wM_0 hLS h1 h2 h3 (by decide) (by decide) (h_write_IS l D cI cZ cJ wV_0 (by decide) (by decide) (c_write_Bo l hlS D cI cZ cJ vf di t0 st0 ct0 hd0 lv0 wd0 t1 st1 ct1 hd1 lv1 wd1 mp bk nm ln pt tk tr ml dl G ky S0 C0 O0 L0 W0 ky S1 C1 O1 L1 W1 MP NM TH SZ PT TK ML DL cn DE f j d l0 a3 hf ht hj0 hj2 hs hsz hm hdd hd hMl hl4 hc hDE O0a L0a W0a hO0a hL0a hW0a hw0 hv0a M hM j0 hj hw hn)) (c_m_write_Bo l D cI cZ cJ mo se co ou le wo ma pl tl tm th na si pa ta thr G ky DE cn got S0 C0 O0 L0 W0 S1 C1 O1 L1 W1 MP PL ML DL TH NM SZ PT TK f j d l0 a3 hDE hf ht hj0 hj2 hs hsz hm hdd hd hMl hl4 hc O0a L0a W0a hO0a hL0a hW0a hw0 hv0a M hM j0 hj hw hn) (fun _ => ⟨_, wM_0⟩) (fun _ => th_m) (fun u H locs ls hLS hS hl => ?_)
            refine kk (cells + 1) (slots + 6) _ _ _ H locs ls (by omega) (by omega) (ix ?_) hLS hS hl
            exact ⟨fun _ => rfl, vS_pb (by decide) hv0a hv0 3, vL_pb hv0a 3, hv1, hl1, upN_lt hMP (drw_lt (n := 2) _ (by decide)), hB, by omega⟩
          · obtain ⟨O1a, hO1a⟩ : ∃ z, z = tkO 64 (rowsP ky 1 C1 S1 32 M) O1 6 := ⟨_, rfl⟩
            obtain ⟨L1a, hL1a⟩ : ∃ z, z = tkL 64 (rowsP ky 1 C1 S1 32 M) L1 6 := ⟨_, rfl⟩
            obtain ⟨W1a, hW1a⟩ : ∃ z, z = tkW 64 (rowsP ky 1 C1 S1 32 M) W1 6 := ⟨_, rfl⟩
            have hv1a : vL 64 32 O1a (upd L1a d (nI (drw 5 (dstep G)))) := by rw [hO1a, hL1a]; exact vL_take (lvs := 6) (nb := 63) (Or.inr ⟨rfl, rfl, rfl, rfl⟩) (by decide) hM32 hl1 hv1 hw1 ⟨_, drw_lt (n := 5) _ (by decide), rfl⟩
            refine arm_write hC hi hL2 hrm hl hS wV_0 wM_0 hLS h1 h2 h3 (by decide) (by decide) (h_write_ok l D cI cZ cJ wV_0 (by decide) (by decide) (c_write_Co l D cI cZ cJ vf di t0 st0 ct0 hd0 lv0 wd0 t1 st1 ct1 hd1 lv1 wd1 mp bk nm ln pt tk tr ml dl G ky S0 C0 O0 L0 W0 ky S1 C1 O1 L1 W1 MP NM TH SZ PT TK ML DL cn DE f j d l0 a3 hf ht hj0 hj2 hs hsz hm hdd hd hMl hl4 hc hDE O0a L0a W0a hO0a hL0a hW0a hw0 hv0a M hM O1a L1a W1a hO1a hL1a hW1a hw1 hv1a)) (c_m_write_Co l D cI cZ cJ mo se co ou le wo ma pl tl tm th na si pa ta thr G ky DE cn got S0 C0 O0 L0 W0 S1 C1 O1 L1 W1 MP PL ML DL TH NM SZ PT TK f j d l0 a3 hDE hf ht hj0 hj2 hs hsz hm hdd hd hMl hl4 hc O0a L0a W0a hO0a hL0a hW0a hw0 hv0a M hM O1a L1a W1a hO1a hL1a hW1a hw1 hv1a) (fun _ => ⟨_, wM_0⟩) (fun _ => th_m) (fun u H locs ls hLS hS hl => ?_)
            refine kk (cells + 1) (slots + 6) _ _ _ H locs ls (by omega) (by omega) (ix ?_) hLS hS hl
            exact ⟨fun _ => rfl, vS_pb (by decide) hv0a hv0 3, vL_pb hv0a 3, vS_pb (by decide) hv1a hv1 6, vL_pb hv1a 6, upN_lt hMP (drw_lt (n := 2) _ (by decide)), bI_open hf ht hsz hm hj2 hd hz hB, by omega⟩
      · skip
        refine arm_write hC hi hL2 hrm hl hS wV_0 wM_0 hLS h1 h2 h3 (by decide) (by decide) (h_write_IS l D cI cZ cJ wV_0 (by decide) (by decide) (c_write_Do l hlS D cI cZ cJ vf di t0 st0 ct0 hd0 lv0 wd0 t1 st1 ct1 hd1 lv1 wd1 mp bk nm ln pt tk tr ml dl G ky S0 C0 O0 L0 W0 ky S1 C1 O1 L1 W1 MP NM TH SZ PT TK ML DL cn DE f j d a3 hf ht hj0 hj2 hs hsz hm hdd hd hDE)) (c_m_write_D l D cI cZ cJ mo se co ou le wo ma pl tl tm th na si pa ta thr G' ky DE cn got S0 C0 O0 L0 W0 S1 C1 O1 L1 W1 MP PL ML DL TH NM SZ PT TK f j a3 hf ht hj0 hj2 hs hDE) (fun _ => ⟨_, wM_0⟩) (fun _ => th_m) (fun u H locs ls hLS hS hl => ?_)
        refine kk (cells + 1) (slots + 6) _ _ _ H locs ls (by omega) (by omega) (ix ?_) hLS hS hl
        exact ⟨hG, hv0, hl0, hv1, hl1, hMP, hB, by omega⟩
    · obtain ⟨d, hdd⟩ : ∃ z, z = PT (6 * f + j / 4) := ⟨_, rfl⟩
      have hd : d < 64 := hdd ▸ hPT _
      have hTK : TK d = 1 := hdd ▸ hB.2.2.1 f (j / 4) hf ht (by omega)
      by_cases hDE : DE = 0
      · skip
        have hc : cn < 100000 := by omega
        obtain ⟨l0, hMl⟩ : ∃ z, MP (d / 8) = z := ⟨_, rfl⟩
        have hl4 : l0 < 4 := hMl ▸ hMP _
        have e9 := hG hDE
        subst e9
        rcases ix_path (fun up => wholeB ky 0 C0 S0 (pathB 4 l0 up)) 3 with ⟨j0, hj, hw, hn⟩ | hw0
        · skip
          refine arm_write hC hi hL2 hrm hl hS wV_0 wM_0 hLS h1 h2 h3 (by decide) (by decide) (h_write_IS l D cI cZ cJ wV_0 (by decide) (by decide) (c_write_An l hlS D cI cZ cJ vf di t0 st0 ct0 hd0 lv0 wd0 t1 st1 ct1 hd1 lv1 wd1 mp bk nm ln pt tk tr ml dl G ky S0 C0 O0 L0 W0 ky S1 C1 O1 L1 W1 MP NM TH SZ PT TK ML DL cn DE f j d l0 a3 hf ht hj0 hj2 hs ho hdd hd hMl hl4 hc hDE j0 hj hw hn)) (c_m_write_An l D cI cZ cJ mo se co ou le wo ma pl tl tm th na si pa ta thr G ky DE cn got S0 C0 O0 L0 W0 S1 C1 O1 L1 W1 MP PL ML DL TH NM SZ PT TK f j d l0 a3 hDE hf ht hj0 hj2 hs ho hdd hd hMl hl4 hc j0 hj hw hn) (fun _ => ⟨_, wM_0⟩) (fun _ => th_m) (fun u H locs ls hLS hS hl => ?_)
          refine kk (cells + 1) (slots + 6) _ _ _ H locs ls (by omega) (by omega) (ix ?_) hLS hS hl
          exact ⟨fun _ => rfl, hv0, hl0, hv1, hl1, upN_lt hMP (drw_lt (n := 2) _ (by decide)), hB, by omega⟩
        · obtain ⟨O0a, hO0a⟩ : ∃ z, z = tkO 8 (rowsP ky 0 C0 S0 4 l0) O0 3 := ⟨_, rfl⟩
          obtain ⟨L0a, hL0a⟩ : ∃ z, z = tkL 8 (rowsP ky 0 C0 S0 4 l0) L0 3 := ⟨_, rfl⟩
          obtain ⟨W0a, hW0a⟩ : ∃ z, z = tkW 8 (rowsP ky 0 C0 S0 4 l0) W0 3 := ⟨_, rfl⟩
          have hv0a : vL 8 4 O0a (upd L0a (d / 8) (nI (drw 2 G))) := by rw [hO0a, hL0a]; exact vL_take (lvs := 3) (nb := 7) (Or.inl ⟨rfl, rfl, rfl, rfl⟩) (by decide) hl4 hl0 hv0 hw0 ⟨_, drw_lt (n := 2) _ (by decide), rfl⟩
          obtain ⟨M, hM⟩ : ∃ z, z = entM (W0a (d / 8) (d % 8 / 2)) (d % 8 % 2) := ⟨_, rfl⟩
          have hM32 : M < 32 := hM ▸ entM_lt _ _
          rcases ix_path (fun up => wholeB ky 1 C1 S1 (pathB 32 M up)) 6 with ⟨j0, hj, hw, hn⟩ | hw1
          · skip
            refine arm_write hC hi hL2 hrm hl hS wV_0 wM_0 hLS h1 h2 h3 (by decide) (by decide) (h_write_IS l D cI cZ cJ wV_0 (by decide) (by decide) (c_write_Bn l hlS D cI cZ cJ vf di t0 st0 ct0 hd0 lv0 wd0 t1 st1 ct1 hd1 lv1 wd1 mp bk nm ln pt tk tr ml dl G ky S0 C0 O0 L0 W0 ky S1 C1 O1 L1 W1 MP NM TH SZ PT TK ML DL cn DE f j d l0 a3 hf ht hj0 hj2 hs ho hdd hd hMl hl4 hc hDE O0a L0a W0a hO0a hL0a hW0a hw0 hv0a M hM j0 hj hw hn)) (c_m_write_Bn l D cI cZ cJ mo se co ou le wo ma pl tl tm th na si pa ta thr G ky DE cn got S0 C0 O0 L0 W0 S1 C1 O1 L1 W1 MP PL ML DL TH NM SZ PT TK f j d l0 a3 hDE hf ht hj0 hj2 hs ho hdd hd hMl hl4 hc O0a L0a W0a hO0a hL0a hW0a hw0 hv0a M hM j0 hj hw hn) (fun _ => ⟨_, wM_0⟩) (fun _ => th_m) (fun u H locs ls hLS hS hl => ?_)
            refine kk (cells + 1) (slots + 6) _ _ _ H locs ls (by omega) (by omega) (ix ?_) hLS hS hl
            exact ⟨fun _ => rfl, vS_pb (by decide) hv0a hv0 3, vL_pb hv0a 3, hv1, hl1, upN_lt hMP (drw_lt (n := 2) _ (by decide)), hB, by omega⟩
          · obtain ⟨O1a, hO1a⟩ : ∃ z, z = tkO 64 (rowsP ky 1 C1 S1 32 M) O1 6 := ⟨_, rfl⟩
            obtain ⟨L1a, hL1a⟩ : ∃ z, z = tkL 64 (rowsP ky 1 C1 S1 32 M) L1 6 := ⟨_, rfl⟩
            obtain ⟨W1a, hW1a⟩ : ∃ z, z = tkW 64 (rowsP ky 1 C1 S1 32 M) W1 6 := ⟨_, rfl⟩
            have hv1a : vL 64 32 O1a (upd L1a d (nI (drw 5 (dstep G)))) := by rw [hO1a, hL1a]; exact vL_take (lvs := 6) (nb := 63) (Or.inr ⟨rfl, rfl, rfl, rfl⟩) (by decide) hM32 hl1 hv1 hw1 ⟨_, drw_lt (n := 5) _ (by decide), rfl⟩
            by_cases he : j = SZ f
            · have hm : ¬ j % 4 = 0 := fun q => ho ⟨he, q⟩
              refine arm_write hC hi hL2 hrm hl hS wV_0 wM_0 hLS h1 h2 h3 (by decide) (by decide) (h_write_ok l D cI cZ cJ wV_0 (by decide) (by decide) (c_write_Ce l D cI cZ cJ vf di t0 st0 ct0 hd0 lv0 wd0 t1 st1 ct1 hd1 lv1 wd1 mp bk nm ln pt tk tr ml dl G ky S0 C0 O0 L0 W0 ky S1 C1 O1 L1 W1 MP NM TH SZ PT TK ML DL cn DE f j d l0 a3 hf ht hj0 hj2 hs he hm hdd hd hMl hl4 hc hDE O0a L0a W0a hO0a hL0a hW0a hw0 hv0a M hM O1a L1a W1a hO1a hL1a hW1a hw1 hv1a)) (c_m_write_Ce l D cI cZ cJ mo se co ou le wo ma pl tl tm th na si pa ta thr G ky DE cn got S0 C0 O0 L0 W0 S1 C1 O1 L1 W1 MP PL ML DL TH NM SZ PT TK f j d l0 a3 hDE hf ht hj0 hj2 hs he hm hdd hTK hd hMl hl4 hc O0a L0a W0a hO0a hL0a hW0a hw0 hv0a M hM O1a L1a W1a hO1a hL1a hW1a hw1 hv1a) (fun _ => ⟨_, wM_0⟩) (fun _ => th_m) (fun u H locs ls hLS hS hl => ?_)
              refine kk (cells + 1) (slots + 6) _ _ _ H locs ls (by omega) (by omega) (ix ?_) hLS hS hl
              exact ⟨fun _ => rfl, vS_pb (by decide) hv0a hv0 3, vL_pb hv0a 3, vS_pb (by decide) hv1a hv1 6, vL_pb hv1a 6, upN_lt hMP (drw_lt (n := 2) _ (by decide)), bI_ext he hm hj2 hB, by omega⟩
            · have hlt : j < SZ f := by omega
              refine arm_write hC hi hL2 hrm hl hS wV_0 wM_0 hLS h1 h2 h3 (by decide) (by decide) (h_write_ok l D cI cZ cJ wV_0 (by decide) (by decide) (c_write_Ci l D cI cZ cJ vf di t0 st0 ct0 hd0 lv0 wd0 t1 st1 ct1 hd1 lv1 wd1 mp bk nm ln pt tk tr ml dl G ky S0 C0 O0 L0 W0 ky S1 C1 O1 L1 W1 MP NM TH SZ PT TK ML DL cn DE f j d l0 a3 hf ht hj0 hj2 hs hlt hdd hd hMl hl4 hc hDE O0a L0a W0a hO0a hL0a hW0a hw0 hv0a M hM O1a L1a W1a hO1a hL1a hW1a hw1 hv1a)) (c_m_write_Ci l D cI cZ cJ mo se co ou le wo ma pl tl tm th na si pa ta thr G ky DE cn got S0 C0 O0 L0 W0 S1 C1 O1 L1 W1 MP PL ML DL TH NM SZ PT TK f j d l0 a3 hDE hf ht hj0 hj2 hs hlt hdd hTK hd hMl hl4 hc O0a L0a W0a hO0a hL0a hW0a hw0 hv0a M hM O1a L1a W1a hO1a hL1a hW1a hw1 hv1a) (fun _ => ⟨_, wM_0⟩) (fun _ => th_m) (fun u H locs ls hLS hS hl => ?_)
              refine kk (cells + 1) (slots + 6) _ _ _ H locs ls (by omega) (by omega) (ix ?_) hLS hS hl
              exact ⟨fun _ => rfl, vS_pb (by decide) hv0a hv0 3, vL_pb hv0a 3, vS_pb (by decide) hv1a hv1 6, vL_pb hv1a 6, upN_lt hMP (drw_lt (n := 2) _ (by decide)), hB, by omega⟩
      · skip
        refine arm_write hC hi hL2 hrm hl hS wV_0 wM_0 hLS h1 h2 h3 (by decide) (by decide) (h_write_IS l D cI cZ cJ wV_0 (by decide) (by decide) (c_write_Dn l hlS D cI cZ cJ vf di t0 st0 ct0 hd0 lv0 wd0 t1 st1 ct1 hd1 lv1 wd1 mp bk nm ln pt tk tr ml dl G ky S0 C0 O0 L0 W0 ky S1 C1 O1 L1 W1 MP NM TH SZ PT TK ML DL cn DE f j d a3 hf ht hj0 hj2 hs ho hdd hd hDE)) (c_m_write_D l D cI cZ cJ mo se co ou le wo ma pl tl tm th na si pa ta thr G' ky DE cn got S0 C0 O0 L0 W0 S1 C1 O1 L1 W1 MP PL ML DL TH NM SZ PT TK f j a3 hf ht hj0 hj2 hs hDE) (fun _ => ⟨_, wM_0⟩) (fun _ => th_m) (fun u H locs ls hLS hS hl => ?_)
        refine kk (cells + 1) (slots + 6) _ _ _ H locs ls (by omega) (by omega) (ix ?_) hLS hS hl
        exact ⟨hG, hv0, hl0, hv1, hl1, hMP, hB, by omega⟩

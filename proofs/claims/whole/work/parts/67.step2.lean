set_option maxHeartbeats 1600000 in
theorem st_sealed {p : Program} {l : Launch} {e : Env} {s : State} {m : MethodId} {args : Array Value} {below : List Frame} {meth : Method} {c : Code} {H : Heap} {locs : List Loc} {cells slots : Nat} {Q : State → Prop} {A : Nat → Prop} {D : va_G} {cI cZ cJ : ClassId} {b L : Nat} {xs : Nat → Int32} {vf di t0 st0 ct0 hd0 lv0 wd0 t1 st1 ct1 hd1 lv1 wd1 mp bk nm ln pt tk tr ml dl mo se co ou le wo ma pl tl tm th na si pa ta oz i k : Nat} (hlS : l.stackTraces = false) (hC : lC3 p s m args c A D (kty cI cZ cJ) b L xs) (hi : i + 5 ≤ L) (hL2 : L ≤ 2560) (hk : k < 1000) (hrm : cells + 1 ≤ room_1.cells ∧ slots + 6 ≤ room_1.slots) {ls : Array Slot} (hl : lv_has ls 7 (lwL b vf mo oz i)) (hS : va_S A s.heap H locs) {wx wm : va_W} {fo : Nat → Int64} (hI : IX cI cZ cJ vf di t0 st0 ct0 hd0 lv0 wd0 t1 st1 ct1 hd1 lv1 wd1 mp bk nm ln pt tk tr ml dl mo se co ou le wo ma pl tl tm th na si pa ta k wx wm) (hLS : lS3 D A wx wm [(oz, .inl (cJ, 1, .inr (.inl fo)))] H) {a1 : Int32} (h1 : xs (i + 1) = a1) {a2 : Int32} (h2 : xs (i + 2) = a2) {a3 : Int32} (h3 : xs (i + 3) = a3)
    (kk : ∀ (cells' slots' : Nat) (wx wm : va_W) (fo : Nat → Int64) (H : Heap) (locs : List Loc) (ls : Array Slot), cells' ≤ cells + 1 → slots' ≤ slots + 6 → IX cI cZ cJ vf di t0 st0 ct0 hd0 lv0 wd0 t1 st1 ct1 hd1 lv1 wd1 mp bk nm ln pt tk tr ml dl mo se co ou le wo ma pl tl tm th na si pa ta (k + 1) wx wm → lS3 D A wx wm [(oz, .inl (cJ, 1, .inr (.inl fo)))] H → va_S A s.heap H locs → lv_has ls 7 (lwL b vf mo oz i) → W p l e room_1 s m args below meth c H locs cells' slots' Q (F0 m 724 ls [])) :
    W p l e room_1 s m args below meth c H locs cells slots Q (F0 m 459 ls []) := by
  obtain ⟨thr, G, G', ky, DE, cn, got, S0, C0, O0, L0, W0, S1, C1, O1, L1, W1, MP, PL, ML, DL, TH, NM, SZ, PT, TK, rfl, rfl, hG, hv0, hl0, hv1, hl1, hMP, hB, hcn⟩ := hI
  have hSZ := hB.1
  have hPT := hB.2.1
  rcases ix_tree a1 with rfl | rfl | hx0
  · rcases ix_nob 7 (by decide) a2 with hy | ⟨y, hb0, rfl⟩
    · skip
      refine arm_sealed_t hC hi hL2 hrm hl hS wV_0 wM_0 hLS h1 h2 h3 (by decide) (by decide) (by decide) (h_sealed_IO l D cI cZ cJ wV_0 (by decide) (by decide) (c_sealed0_n1 l hlS D cI cZ cJ vf di t0 st0 ct0 hd0 lv0 wd0 t1 st1 ct1 hd1 lv1 wd1 mp bk nm ln pt tk tr ml dl G ky S0 C0 O0 L0 W0 ky S1 C1 O1 L1 W1 MP NM TH SZ PT TK ML DL cn DE a2 a3 hy)) (c_m_sealed0_n1 l D cI cZ cJ mo se co ou le wo ma pl tl tm th na si pa ta thr G' ky DE cn got S0 C0 O0 L0 W0 S1 C1 O1 L1 W1 MP PL ML DL TH NM SZ PT TK a2 a3 hy) (fun _ => ⟨_, wM_0⟩) (fun _ => th_m) (fun u H locs ls hLS hS hl => ?_)
      refine kk (cells + 1) (slots + 6) _ _ _ H locs ls (by omega) (by omega) (ix ?_) hLS hS hl
      exact ⟨hG, hv0, hl0, hv1, hl1, hMP, hB, by omega⟩
    · rcases ix_nob 25 (by decide) a3 with hj | ⟨j, hj, rfl⟩
      · skip
        refine arm_sealed_t hC hi hL2 hrm hl hS wV_0 wM_0 hLS h1 h2 h3 (by decide) (by decide) (by decide) (h_sealed_IO l D cI cZ cJ wV_0 (by decide) (by decide) (c_sealed0_n2 l hlS D cI cZ cJ vf di t0 st0 ct0 hd0 lv0 wd0 t1 st1 ct1 hd1 lv1 wd1 mp bk nm ln pt tk tr ml dl G ky S0 C0 O0 L0 W0 ky S1 C1 O1 L1 W1 MP NM TH SZ PT TK ML DL cn DE y a3 hb0 hj)) (c_m_sealed0_n2 l D cI cZ cJ mo se co ou le wo ma pl tl tm th na si pa ta thr G' ky DE cn got S0 C0 O0 L0 W0 S1 C1 O1 L1 W1 MP PL ML DL TH NM SZ PT TK y a3 hb0 hj) (fun _ => ⟨_, wM_0⟩) (fun _ => th_m) (fun u H locs ls hLS hS hl => ?_)
        refine kk (cells + 1) (slots + 6) _ _ _ H locs ls (by omega) (by omega) (ix ?_) hLS hS hl
        exact ⟨hG, hv0, hl0, hv1, hl1, hMP, hB, by omega⟩
      · skip
        refine arm_sealed_ok hC hi hL2 hrm hl hS wV_0 wM_0 hLS h1 h2 h3 (by decide) (by decide) (h_sealed_ok l D cI cZ cJ wV_0 (by decide) (by decide) (c_sealed0_y l D cI cZ cJ vf di t0 st0 ct0 hd0 lv0 wd0 t1 st1 ct1 hd1 lv1 wd1 mp bk nm ln pt tk tr ml dl G ky S0 C0 O0 L0 W0 ky S1 C1 O1 L1 W1 MP NM TH SZ PT TK ML DL cn DE y j hb0 hj)) (c_m_sealed0_y l D cI cZ cJ mo se co ou le wo ma pl tl tm th na si pa ta thr G' ky DE cn got S0 C0 O0 L0 W0 S1 C1 O1 L1 W1 MP PL ML DL TH NM SZ PT TK y j hb0 hj) (fun _ => ⟨_, wM_0⟩) (fun _ => th_m) (fun u H locs ls hLS hS hl => ?_)
        refine kk (cells + 1) (slots + 6) _ _ _ H locs ls (by omega) (by omega) (ix ?_) hLS hS hl
        exact ⟨hG, hv0, hl0, hv1, hl1, hMP, hB, by omega⟩
  · rcases ix_nob 63 (by decide) a2 with hy | ⟨y, hb0, rfl⟩
    · skip
      refine arm_sealed_t hC hi hL2 hrm hl hS wV_0 wM_0 hLS h1 h2 h3 (by decide) (by decide) (by decide) (h_sealed_IO l D cI cZ cJ wV_0 (by decide) (by decide) (c_sealed1_n1 l hlS D cI cZ cJ vf di t0 st0 ct0 hd0 lv0 wd0 t1 st1 ct1 hd1 lv1 wd1 mp bk nm ln pt tk tr ml dl G ky S0 C0 O0 L0 W0 ky S1 C1 O1 L1 W1 MP NM TH SZ PT TK ML DL cn DE a2 a3 hy)) (c_m_sealed1_n1 l D cI cZ cJ mo se co ou le wo ma pl tl tm th na si pa ta thr G' ky DE cn got S0 C0 O0 L0 W0 S1 C1 O1 L1 W1 MP PL ML DL TH NM SZ PT TK a2 a3 hy) (fun _ => ⟨_, wM_0⟩) (fun _ => th_m) (fun u H locs ls hLS hS hl => ?_)
      refine kk (cells + 1) (slots + 6) _ _ _ H locs ls (by omega) (by omega) (ix ?_) hLS hS hl
      exact ⟨hG, hv0, hl0, hv1, hl1, hMP, hB, by omega⟩
    · rcases ix_nob 25 (by decide) a3 with hj | ⟨j, hj, rfl⟩
      · skip
        refine arm_sealed_t hC hi hL2 hrm hl hS wV_0 wM_0 hLS h1 h2 h3 (by decide) (by decide) (by decide) (h_sealed_IO l D cI cZ cJ wV_0 (by decide) (by decide) (c_sealed1_n2 l hlS D cI cZ cJ vf di t0 st0 ct0 hd0 lv0 wd0 t1 st1 ct1 hd1 lv1 wd1 mp bk nm ln pt tk tr ml dl G ky S0 C0 O0 L0 W0 ky S1 C1 O1 L1 W1 MP NM TH SZ PT TK ML DL cn DE y a3 hb0 hj)) (c_m_sealed1_n2 l D cI cZ cJ mo se co ou le wo ma pl tl tm th na si pa ta thr G' ky DE cn got S0 C0 O0 L0 W0 S1 C1 O1 L1 W1 MP PL ML DL TH NM SZ PT TK y a3 hb0 hj) (fun _ => ⟨_, wM_0⟩) (fun _ => th_m) (fun u H locs ls hLS hS hl => ?_)
        refine kk (cells + 1) (slots + 6) _ _ _ H locs ls (by omega) (by omega) (ix ?_) hLS hS hl
        exact ⟨hG, hv0, hl0, hv1, hl1, hMP, hB, by omega⟩
      · skip
        refine arm_sealed_ok hC hi hL2 hrm hl hS wV_0 wM_0 hLS h1 h2 h3 (by decide) (by decide) (h_sealed_ok l D cI cZ cJ wV_0 (by decide) (by decide) (c_sealed1_y l D cI cZ cJ vf di t0 st0 ct0 hd0 lv0 wd0 t1 st1 ct1 hd1 lv1 wd1 mp bk nm ln pt tk tr ml dl G ky S0 C0 O0 L0 W0 ky S1 C1 O1 L1 W1 MP NM TH SZ PT TK ML DL cn DE y j hb0 hj)) (c_m_sealed1_y l D cI cZ cJ mo se co ou le wo ma pl tl tm th na si pa ta thr G' ky DE cn got S0 C0 O0 L0 W0 S1 C1 O1 L1 W1 MP PL ML DL TH NM SZ PT TK y j hb0 hj) (fun _ => ⟨_, wM_0⟩) (fun _ => th_m) (fun u H locs ls hLS hS hl => ?_)
        refine kk (cells + 1) (slots + 6) _ _ _ H locs ls (by omega) (by omega) (ix ?_) hLS hS hl
        exact ⟨hG, hv0, hl0, hv1, hl1, hMP, hB, by omega⟩
  · skip
    refine arm_sealed_t hC hi hL2 hrm hl hS wV_0 wM_0 hLS h1 h2 h3 (by decide) (by decide) (by decide) (h_sealed_IO l D cI cZ cJ wV_0 (by decide) (by decide) (c_sealedN l hlS D cI cZ cJ vf di t0 st0 ct0 hd0 lv0 wd0 t1 st1 ct1 hd1 lv1 wd1 mp bk nm ln pt tk tr ml dl G ky S0 C0 O0 L0 W0 ky S1 C1 O1 L1 W1 MP NM TH SZ PT TK ML DL cn DE a1 a2 a3 hx0)) (c_m_sealedN l D cI cZ cJ mo se co ou le wo ma pl tl tm th na si pa ta thr G' ky DE cn got S0 C0 O0 L0 W0 S1 C1 O1 L1 W1 MP PL ML DL TH NM SZ PT TK a1 a2 a3 hx0) (fun _ => ⟨_, wM_0⟩) (fun _ => th_m) (fun u H locs ls hLS hS hl => ?_)
    refine kk (cells + 1) (slots + 6) _ _ _ H locs ls (by omega) (by omega) (ix ?_) hLS hS hl
    exact ⟨hG, hv0, hl0, hv1, hl1, hMP, hB, by omega⟩

set_option maxHeartbeats 1600000 in
theorem st_idle {p : Program} {l : Launch} {e : Env} {s : State} {m : MethodId} {args : Array Value} {below : List Frame} {meth : Method} {c : Code} {H : Heap} {locs : List Loc} {cells slots : Nat} {Q : State → Prop} {A : Nat → Prop} {D : va_G} {cI cZ cJ : ClassId} {b L : Nat} {xs : Nat → Int32} {vf di t0 st0 ct0 hd0 lv0 wd0 t1 st1 ct1 hd1 lv1 wd1 mp bk nm ln pt tk tr ml dl mo se co ou le wo ma pl tl tm th na si pa ta oz i k : Nat} (hlS : l.stackTraces = false) (hC : lC3 p s m args c A D (kty cI cZ cJ) b L xs) (hi : i + 5 ≤ L) (hL2 : L ≤ 2560) (hk : k < 1000) (hrm : cells + 1 ≤ room_1.cells ∧ slots + 6 ≤ room_1.slots) {ls : Array Slot} (hl : lv_has ls 7 (lwL b vf mo oz i)) (hS : va_S A s.heap H locs) {wx wm : va_W} {fo : Nat → Int64} (hI : IX cI cZ cJ vf di t0 st0 ct0 hd0 lv0 wd0 t1 st1 ct1 hd1 lv1 wd1 mp bk nm ln pt tk tr ml dl mo se co ou le wo ma pl tl tm th na si pa ta k wx wm) (hLS : lS3 D A wx wm [(oz, .inl (cJ, 1, .inr (.inl fo)))] H)
    (kk : ∀ (cells' slots' : Nat) (wx wm : va_W) (fo : Nat → Int64) (H : Heap) (locs : List Loc) (ls : Array Slot), cells' ≤ cells + 1 → slots' ≤ slots + 6 → IX cI cZ cJ vf di t0 st0 ct0 hd0 lv0 wd0 t1 st1 ct1 hd1 lv1 wd1 mp bk nm ln pt tk tr ml dl mo se co ou le wo ma pl tl tm th na si pa ta (k + 1) wx wm → lS3 D A wx wm [(oz, .inl (cJ, 1, .inr (.inl fo)))] H → va_S A s.heap H locs → lv_has ls 7 (lwL b vf mo oz i) → W p l e room_1 s m args below meth c H locs cells' slots' Q (F0 m 724 ls [])) :
    W p l e room_1 s m args below meth c H locs cells slots Q (F0 m 435 ls []) := by
  obtain ⟨thr, G, G', ky, DE, cn, got, S0, C0, O0, L0, W0, S1, C1, O1, L1, W1, MP, PL, ML, DL, TH, NM, SZ, PT, TK, rfl, rfl, hG, hv0, hl0, hv1, hl1, hMP, hB, hcn⟩ := hI
  have hSZ := hB.1
  have hPT := hB.2.1
  by_cases hDE : DE = 0
  · obtain ⟨d, hdd⟩ : ∃ z, z = drw 6 G := ⟨_, rfl⟩
    have hd : d < 64 := hdd ▸ drw_lt (n := 6) G (by decide)
    have hc : cn < 100000 := by omega
    obtain ⟨l0, hMl⟩ : ∃ z, MP (d / 8) = z := ⟨_, rfl⟩
    have hl4 : l0 < 4 := hMl ▸ hMP _
    have e9 := hG hDE
    subst e9
    rcases ix_path (fun up => wholeB ky 0 C0 S0 (pathB 4 l0 up)) 3 with ⟨j0, hj, hw, hn⟩ | hw0
    · skip
      refine arm_idle hC hi hL2 hrm hl hS wV_0 wM_0 hLS  (by decide) (by decide) (h_idle_IS l D cI cZ cJ wV_0 (by decide) (by decide) (c_idle_A l hlS D cI cZ cJ vf di t0 st0 ct0 hd0 lv0 wd0 t1 st1 ct1 hd1 lv1 wd1 mp bk nm ln pt tk tr ml dl G ky S0 C0 O0 L0 W0 ky S1 C1 O1 L1 W1 MP NM TH SZ PT TK ML DL cn DE d l0 hdd hd hMl hl4 hc hDE j0 hj hw hn)) (c_m_idle_A l D cI cZ cJ mo se co ou le wo ma pl tl tm th na si pa ta thr G ky DE cn got S0 C0 O0 L0 W0 S1 C1 O1 L1 W1 MP PL ML DL TH NM SZ PT TK d l0 hDE hdd hd hMl hl4 hc j0 hj hw hn) (fun _ => ⟨_, wM_0⟩) (fun _ => th_m) (fun u H locs ls hLS hS hl => ?_)
      refine kk (cells + 1) (slots + 6) _ _ _ H locs ls (by omega) (by omega) (ix ?_) hLS hS hl
      exact ⟨fun _ => rfl, hv0, hl0, hv1, hl1, upN_lt hMP (drw_lt (n := 2) _ (by decide)), hB, by omega⟩
    · obtain ⟨O0a, hO0a⟩ : ∃ z, z = tkO 8 (rowsP ky 0 C0 S0 4 l0) O0 3 := ⟨_, rfl⟩
      obtain ⟨L0a, hL0a⟩ : ∃ z, z = tkL 8 (rowsP ky 0 C0 S0 4 l0) L0 3 := ⟨_, rfl⟩
      obtain ⟨W0a, hW0a⟩ : ∃ z, z = tkW 8 (rowsP ky 0 C0 S0 4 l0) W0 3 := ⟨_, rfl⟩
      have hv0a : vL 8 4 O0a (upd L0a (d / 8) (nI (drw 2 (dstep G)))) := by rw [hO0a, hL0a]; exact vL_take (lvs := 3) (nb := 7) (Or.inl ⟨rfl, rfl, rfl, rfl⟩) (by decide) hl4 hl0 hv0 hw0 ⟨_, drw_lt (n := 2) _ (by decide), rfl⟩
      obtain ⟨M, hM⟩ : ∃ z, z = entM (W0a (d / 8) (d % 8 / 2)) (d % 8 % 2) := ⟨_, rfl⟩
      have hM32 : M < 32 := hM ▸ entM_lt _ _
      rcases ix_path (fun up => wholeB ky 1 C1 S1 (pathB 32 M up)) 6 with ⟨j0, hj, hw, hn⟩ | hw1
      · skip
        refine arm_idle hC hi hL2 hrm hl hS wV_0 wM_0 hLS  (by decide) (by decide) (h_idle_IS l D cI cZ cJ wV_0 (by decide) (by decide) (c_idle_B l hlS D cI cZ cJ vf di t0 st0 ct0 hd0 lv0 wd0 t1 st1 ct1 hd1 lv1 wd1 mp bk nm ln pt tk tr ml dl G ky S0 C0 O0 L0 W0 ky S1 C1 O1 L1 W1 MP NM TH SZ PT TK ML DL cn DE d l0 hdd hd hMl hl4 hc hDE O0a L0a W0a hO0a hL0a hW0a hw0 hv0a M hM j0 hj hw hn)) (c_m_idle_B l D cI cZ cJ mo se co ou le wo ma pl tl tm th na si pa ta thr G ky DE cn got S0 C0 O0 L0 W0 S1 C1 O1 L1 W1 MP PL ML DL TH NM SZ PT TK d l0 hDE hdd hd hMl hl4 hc O0a L0a W0a hO0a hL0a hW0a hw0 hv0a M hM j0 hj hw hn) (fun _ => ⟨_, wM_0⟩) (fun _ => th_m) (fun u H locs ls hLS hS hl => ?_)
        refine kk (cells + 1) (slots + 6) _ _ _ H locs ls (by omega) (by omega) (ix ?_) hLS hS hl
        exact ⟨fun _ => rfl, vS_pb (by decide) hv0a hv0 3, vL_pb hv0a 3, hv1, hl1, upN_lt hMP (drw_lt (n := 2) _ (by decide)), hB, by omega⟩
      · obtain ⟨O1a, hO1a⟩ : ∃ z, z = tkO 64 (rowsP ky 1 C1 S1 32 M) O1 6 := ⟨_, rfl⟩
        obtain ⟨L1a, hL1a⟩ : ∃ z, z = tkL 64 (rowsP ky 1 C1 S1 32 M) L1 6 := ⟨_, rfl⟩
        obtain ⟨W1a, hW1a⟩ : ∃ z, z = tkW 64 (rowsP ky 1 C1 S1 32 M) W1 6 := ⟨_, rfl⟩
        have hv1a : vL 64 32 O1a (upd L1a d (nI (drw 5 (dstep (dstep G))))) := by rw [hO1a, hL1a]; exact vL_take (lvs := 6) (nb := 63) (Or.inr ⟨rfl, rfl, rfl, rfl⟩) (by decide) hM32 hl1 hv1 hw1 ⟨_, drw_lt (n := 5) _ (by decide), rfl⟩
        refine arm_idle hC hi hL2 hrm hl hS wV_0 wM_0 hLS  (by decide) (by decide) (h_idle_ok l D cI cZ cJ wV_0 (by decide) (by decide) (c_idle_C l D cI cZ cJ vf di t0 st0 ct0 hd0 lv0 wd0 t1 st1 ct1 hd1 lv1 wd1 mp bk nm ln pt tk tr ml dl G ky S0 C0 O0 L0 W0 ky S1 C1 O1 L1 W1 MP NM TH SZ PT TK ML DL cn DE d l0 hdd hd hMl hl4 hc hDE O0a L0a W0a hO0a hL0a hW0a hw0 hv0a M hM O1a L1a W1a hO1a hL1a hW1a hw1 hv1a)) (c_m_idle_C l D cI cZ cJ mo se co ou le wo ma pl tl tm th na si pa ta thr G ky DE cn got S0 C0 O0 L0 W0 S1 C1 O1 L1 W1 MP PL ML DL TH NM SZ PT TK d l0 hDE hdd hd hMl hl4 hc O0a L0a W0a hO0a hL0a hW0a hw0 hv0a M hM O1a L1a W1a hO1a hL1a hW1a hw1 hv1a) (fun _ => ⟨_, wM_0⟩) (fun _ => th_m) (fun u H locs ls hLS hS hl => ?_)
        refine kk (cells + 1) (slots + 6) _ _ _ H locs ls (by omega) (by omega) (ix ?_) hLS hS hl
        exact ⟨fun _ => rfl, vS_pb (by decide) hv0a hv0 3, vL_pb hv0a 3, vS_pb (by decide) hv1a hv1 6, vL_pb hv1a 6, upN_lt hMP (drw_lt (n := 2) _ (by decide)), hB, by omega⟩
  · skip
    refine arm_idle hC hi hL2 hrm hl hS wV_0 wM_0 hLS  (by decide) (by decide) (h_idle_IS l D cI cZ cJ wV_0 (by decide) (by decide) (c_idle_D l hlS D cI cZ cJ vf di t0 st0 ct0 hd0 lv0 wd0 t1 st1 ct1 hd1 lv1 wd1 mp bk nm ln pt tk tr ml dl G ky S0 C0 O0 L0 W0 ky S1 C1 O1 L1 W1 MP NM TH SZ PT TK ML DL cn DE hDE)) (c_m_idle_D l D cI cZ cJ mo se co ou le wo ma pl tl tm th na si pa ta thr G' ky DE cn got S0 C0 O0 L0 W0 S1 C1 O1 L1 W1 MP PL ML DL TH NM SZ PT TK hDE) (fun _ => ⟨_, wM_0⟩) (fun _ => th_m) (fun u H locs ls hLS hS hl => ?_)
    refine kk (cells + 1) (slots + 6) _ _ _ H locs ls (by omega) (by omega) (ix ?_) hLS hS hl
    exact ⟨fun h => absurd h hDE, hv0, hl0, hv1, hl1, hMP, hB, by omega⟩

set_option maxHeartbeats 1600000 in
theorem st_read {p : Program} {l : Launch} {e : Env} {s : State} {m : MethodId} {args : Array Value} {below : List Frame} {meth : Method} {c : Code} {H : Heap} {locs : List Loc} {cells slots : Nat} {Q : State → Prop} {A : Nat → Prop} {D : va_G} {cI cZ cJ : ClassId} {b L : Nat} {xs : Nat → Int32} {vf di t0 st0 ct0 hd0 lv0 wd0 t1 st1 ct1 hd1 lv1 wd1 mp bk nm ln pt tk tr ml dl mo se co ou le wo ma pl tl tm th na si pa ta oz i k : Nat} (hlS : l.stackTraces = false) (hC : lC3 p s m args c A D (kty cI cZ cJ) b L xs) (hi : i + 5 ≤ L) (hL2 : L ≤ 2560) (hk : k < 1000) (hrm : cells + 1 ≤ room_1.cells ∧ slots + 6 ≤ room_1.slots) {ls : Array Slot} (hl : lv_has ls 7 (lwL b vf mo oz i)) (hS : va_S A s.heap H locs) {wx wm : va_W} {fo : Nat → Int64} (hI : IX cI cZ cJ vf di t0 st0 ct0 hd0 lv0 wd0 t1 st1 ct1 hd1 lv1 wd1 mp bk nm ln pt tk tr ml dl mo se co ou le wo ma pl tl tm th na si pa ta k wx wm) (hLS : lS3 D A wx wm [(oz, .inl (cJ, 1, .inr (.inl fo)))] H) {a1 : Int32} (h1 : xs (i + 1) = a1) {a2 : Int32} (h2 : xs (i + 2) = a2)
    (kk : ∀ (cells' slots' : Nat) (wx wm : va_W) (fo : Nat → Int64) (H : Heap) (locs : List Loc) (ls : Array Slot), cells' ≤ cells + 1 → slots' ≤ slots + 6 → IX cI cZ cJ vf di t0 st0 ct0 hd0 lv0 wd0 t1 st1 ct1 hd1 lv1 wd1 mp bk nm ln pt tk tr ml dl mo se co ou le wo ma pl tl tm th na si pa ta (k + 1) wx wm → lS3 D A wx wm [(oz, .inl (cJ, 1, .inr (.inl fo)))] H → va_S A s.heap H locs → lv_has ls 7 (lwL b vf mo oz i) → W p l e room_1 s m args below meth c H locs cells' slots' Q (F0 m 724 ls [])) :
    W p l e room_1 s m args below meth c H locs cells slots Q (F0 m 367 ls []) := by
  obtain ⟨thr, G, G', ky, DE, cn, got, S0, C0, O0, L0, W0, S1, C1, O1, L1, W1, MP, PL, ML, DL, TH, NM, SZ, PT, TK, rfl, rfl, hG, hv0, hl0, hv1, hl1, hMP, hB, hcn⟩ := hI
  have hSZ := hB.1
  have hPT := hB.2.1
  rcases ix_read TH SZ a1 a2 hSZ with hbad | ⟨f, j, hf, rfl, ht, hj0, rfl⟩
  · have hfx := ix_file TH a1
    refine arm_read_t hC hi hL2 hrm hl hS wV_0 wM_0 hLS h1 h2 (by decide) (by decide) (by decide) (h_read_IO l D cI cZ cJ wV_0 (by decide) (by decide) (c_read_bad l hlS D cI cZ cJ vf di t0 st0 ct0 hd0 lv0 wd0 t1 st1 ct1 hd1 lv1 wd1 mp bk nm ln pt tk tr ml dl G ky S0 C0 O0 L0 W0 ky S1 C1 O1 L1 W1 MP NM TH SZ PT TK ML DL cn DE a1 a2 hbad hSZ)) (c_m_read_bad l D cI cZ cJ mo se co ou le wo ma pl tl tm th na si pa ta thr G' ky DE cn got S0 C0 O0 L0 W0 S1 C1 O1 L1 W1 MP PL ML DL TH NM SZ PT TK a1 a2 hfx hbad) (fun _ => ⟨_, wM_0⟩) (fun _ => th_m) (fun u H locs ls hLS hS hl => ?_)
    refine kk (cells + 1) (slots + 6) _ _ _ H locs ls (by omega) (by omega) (ix ?_) hLS hS hl
    exact ⟨hG, hv0, hl0, hv1, hl1, hMP, hB, by omega⟩
  · have hs := hSZ f hf
    obtain ⟨d, hdd⟩ : ∃ z, z = PT (6 * f + j / 4) := ⟨_, rfl⟩
    have hd : d < 64 := hdd ▸ hPT _
    by_cases hDE : DE = 0
    · skip
      have hc : cn < 100000 := by omega
      obtain ⟨l0, hMl⟩ : ∃ z, MP (d / 8) = z := ⟨_, rfl⟩
      have hl4 : l0 < 4 := hMl ▸ hMP _
      have e9 := hG hDE
      subst e9
      rcases ix_path (fun up => wholeB ky 0 C0 S0 (pathB 4 l0 up)) 3 with ⟨j0, hj, hw, hn⟩ | hw0
      · skip
        refine arm_read_t hC hi hL2 hrm hl hS wV_0 wM_0 hLS h1 h2 (by decide) (by decide) (by decide) (h_read_IS l D cI cZ cJ wV_0 (by decide) (by decide) (c_read_A l hlS D cI cZ cJ vf di t0 st0 ct0 hd0 lv0 wd0 t1 st1 ct1 hd1 lv1 wd1 mp bk nm ln pt tk tr ml dl G ky S0 C0 O0 L0 W0 ky S1 C1 O1 L1 W1 MP NM TH SZ PT TK ML DL cn DE f j d l0 hf ht hj0 hs hdd hd hMl hl4 hc hDE j0 hj hw hn)) (c_m_read_A l D cI cZ cJ mo se co ou le wo ma pl tl tm th na si pa ta thr G ky DE cn got S0 C0 O0 L0 W0 S1 C1 O1 L1 W1 MP PL ML DL TH NM SZ PT TK f j d l0 hDE hf ht hj0 hs hdd hd hMl hl4 hc j0 hj hw hn) (fun _ => ⟨_, wM_0⟩) (fun _ => th_m) (fun u H locs ls hLS hS hl => ?_)
        refine kk (cells + 1) (slots + 6) _ _ _ H locs ls (by omega) (by omega) (ix ?_) hLS hS hl
        exact ⟨fun _ => rfl, hv0, hl0, hv1, hl1, upN_lt hMP (drw_lt (n := 2) _ (by decide)), hB, by omega⟩
      · obtain ⟨O0a, hO0a⟩ : ∃ z, z = tkO 8 (rowsP ky 0 C0 S0 4 l0) O0 3 := ⟨_, rfl⟩
        obtain ⟨L0a, hL0a⟩ : ∃ z, z = tkL 8 (rowsP ky 0 C0 S0 4 l0) L0 3 := ⟨_, rfl⟩
        obtain ⟨W0a, hW0a⟩ : ∃ z, z = tkW 8 (rowsP ky 0 C0 S0 4 l0) W0 3 := ⟨_, rfl⟩
        have hv0a : vL 8 4 O0a (upd L0a (d / 8) (nI (drw 2 G))) := by rw [hO0a, hL0a]; exact vL_take (lvs := 3) (nb := 7) (Or.inl ⟨rfl, rfl, rfl, rfl⟩) (by decide) hl4 hl0 hv0 hw0 ⟨_, drw_lt (n := 2) _ (by decide), rfl⟩
        obtain ⟨M, hM⟩ : ∃ z, z = entM (W0a (d / 8) (d % 8 / 2)) (d % 8 % 2) := ⟨_, rfl⟩
        have hM32 : M < 32 := hM ▸ entM_lt _ _
        rcases ix_path (fun up => wholeB ky 1 C1 S1 (pathB 32 M up)) 6 with ⟨j0, hj, hw, hn⟩ | hw1
        · skip
          refine arm_read_t hC hi hL2 hrm hl hS wV_0 wM_0 hLS h1 h2 (by decide) (by decide) (by decide) (h_read_IS l D cI cZ cJ wV_0 (by decide) (by decide) (c_read_B l hlS D cI cZ cJ vf di t0 st0 ct0 hd0 lv0 wd0 t1 st1 ct1 hd1 lv1 wd1 mp bk nm ln pt tk tr ml dl G ky S0 C0 O0 L0 W0 ky S1 C1 O1 L1 W1 MP NM TH SZ PT TK ML DL cn DE f j d l0 hf ht hj0 hs hdd hd hMl hl4 hc hDE O0a L0a W0a hO0a hL0a hW0a hw0 hv0a M hM j0 hj hw hn)) (c_m_read_B l D cI cZ cJ mo se co ou le wo ma pl tl tm th na si pa ta thr G ky DE cn got S0 C0 O0 L0 W0 S1 C1 O1 L1 W1 MP PL ML DL TH NM SZ PT TK f j d l0 hDE hf ht hj0 hs hdd hd hMl hl4 hc O0a L0a W0a hO0a hL0a hW0a hw0 hv0a M hM j0 hj hw hn) (fun _ => ⟨_, wM_0⟩) (fun _ => th_m) (fun u H locs ls hLS hS hl => ?_)
          refine kk (cells + 1) (slots + 6) _ _ _ H locs ls (by omega) (by omega) (ix ?_) hLS hS hl
          exact ⟨fun _ => rfl, vS_pb (by decide) hv0a hv0 3, vL_pb hv0a 3, hv1, hl1, upN_lt hMP (drw_lt (n := 2) _ (by decide)), hB, by omega⟩
        · obtain ⟨O1a, hO1a⟩ : ∃ z, z = tkO 64 (rowsP ky 1 C1 S1 32 M) O1 6 := ⟨_, rfl⟩
          obtain ⟨L1a, hL1a⟩ : ∃ z, z = tkL 64 (rowsP ky 1 C1 S1 32 M) L1 6 := ⟨_, rfl⟩
          obtain ⟨W1a, hW1a⟩ : ∃ z, z = tkW 64 (rowsP ky 1 C1 S1 32 M) W1 6 := ⟨_, rfl⟩
          have hv1a : vL 64 32 O1a (upd L1a d (nI (drw 5 (dstep G)))) := by rw [hO1a, hL1a]; exact vL_take (lvs := 6) (nb := 63) (Or.inr ⟨rfl, rfl, rfl, rfl⟩) (by decide) hM32 hl1 hv1 hw1 ⟨_, drw_lt (n := 5) _ (by decide), rfl⟩
          refine arm_read_ok hC hi hL2 hrm hl hS wV_0 wM_0 hLS h1 h2 (by decide) (by decide) (h_read_ok l D cI cZ cJ wV_0 (by decide) (by decide) (c_read_C l D cI cZ cJ vf di t0 st0 ct0 hd0 lv0 wd0 t1 st1 ct1 hd1 lv1 wd1 mp bk nm ln pt tk tr ml dl G ky S0 C0 O0 L0 W0 ky S1 C1 O1 L1 W1 MP NM TH SZ PT TK ML DL cn DE f j d l0 hf ht hj0 hs hdd hd hMl hl4 hc hDE O0a L0a W0a hO0a hL0a hW0a hw0 hv0a M hM O1a L1a W1a hO1a hL1a hW1a hw1 hv1a)) (c_m_read_C l D cI cZ cJ mo se co ou le wo ma pl tl tm th na si pa ta thr G ky DE cn got S0 C0 O0 L0 W0 S1 C1 O1 L1 W1 MP PL ML DL TH NM SZ PT TK f j d l0 hDE hf ht hj0 hs hdd hd hMl hl4 hc O0a L0a W0a hO0a hL0a hW0a hw0 hv0a M hM O1a L1a W1a hO1a hL1a hW1a hw1 hv1a) (fun _ => ⟨_, wM_0⟩) (fun _ => th_m) (fun u H locs ls hLS hS hl => ?_)
          refine kk (cells + 1) (slots + 6) _ _ _ H locs ls (by omega) (by omega) (ix ?_) hLS hS hl
          exact ⟨fun _ => rfl, vS_pb (by decide) hv0a hv0 3, vL_pb hv0a 3, vS_pb (by decide) hv1a hv1 6, vL_pb hv1a 6, upN_lt hMP (drw_lt (n := 2) _ (by decide)), hB, by omega⟩
    · skip
      refine arm_read_t hC hi hL2 hrm hl hS wV_0 wM_0 hLS h1 h2 (by decide) (by decide) (by decide) (h_read_IS l D cI cZ cJ wV_0 (by decide) (by decide) (c_read_D l hlS D cI cZ cJ vf di t0 st0 ct0 hd0 lv0 wd0 t1 st1 ct1 hd1 lv1 wd1 mp bk nm ln pt tk tr ml dl G ky S0 C0 O0 L0 W0 ky S1 C1 O1 L1 W1 MP NM TH SZ PT TK ML DL cn DE f j d hf ht hj0 hs hdd hd hDE)) (c_m_read_D l D cI cZ cJ mo se co ou le wo ma pl tl tm th na si pa ta thr G' ky DE cn got S0 C0 O0 L0 W0 S1 C1 O1 L1 W1 MP PL ML DL TH NM SZ PT TK f j hf ht hj0 hs hDE) (fun _ => ⟨_, wM_0⟩) (fun _ => th_m) (fun u H locs ls hLS hS hl => ?_)
      refine kk (cells + 1) (slots + 6) _ _ _ H locs ls (by omega) (by omega) (ix ?_) hLS hS hl
      exact ⟨hG, hv0, hl0, hv1, hl1, hMP, hB, by omega⟩

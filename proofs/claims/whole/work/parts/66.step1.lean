set_option maxHeartbeats 1600000 in
theorem st_start {p : Program} {l : Launch} {e : Env} {s : State} {m : MethodId} {args : Array Value} {below : List Frame} {meth : Method} {c : Code} {H : Heap} {locs : List Loc} {cells slots : Nat} {Q : State → Prop} {A : Nat → Prop} {D : va_G} {cI cZ cJ : ClassId} {b L : Nat} {xs : Nat → Int32} {vf di t0 st0 ct0 hd0 lv0 wd0 t1 st1 ct1 hd1 lv1 wd1 mp bk nm ln pt tk tr ml dl mo se co ou le wo ma pl tl tm th na si pa ta oz i k : Nat} (hlS : l.stackTraces = false) (hC : lC3 p s m args c A D (kty cI cZ cJ) b L xs) (hi : i + 5 ≤ L) (hL2 : L ≤ 2560) (hk : k < 1000) (hrm : cells + 1 ≤ room_1.cells ∧ slots + 6 ≤ room_1.slots) {ls : Array Slot} (hl : lv_has ls 7 (lwL b vf mo oz i)) (hS : va_S A s.heap H locs) {wx wm : va_W} {fo : Nat → Int64} (hI : IX cI cZ cJ vf di t0 st0 ct0 hd0 lv0 wd0 t1 st1 ct1 hd1 lv1 wd1 mp bk nm ln pt tk tr ml dl mo se co ou le wo ma pl tl tm th na si pa ta k wx wm) (hLS : lS3 D A wx wm [(oz, .inl (cJ, 1, .inr (.inl fo)))] H) {a1 : Int32} (h1 : xs (i + 1) = a1) {a2 : Int32} (h2 : xs (i + 2) = a2)
    (kk : ∀ (cells' slots' : Nat) (wx wm : va_W) (fo : Nat → Int64) (H : Heap) (locs : List Loc) (ls : Array Slot), cells' ≤ cells + 1 → slots' ≤ slots + 6 → IX cI cZ cJ vf di t0 st0 ct0 hd0 lv0 wd0 t1 st1 ct1 hd1 lv1 wd1 mp bk nm ln pt tk tr ml dl mo se co ou le wo ma pl tl tm th na si pa ta (k + 1) wx wm → lS3 D A wx wm [(oz, .inl (cJ, 1, .inr (.inl fo)))] H → va_S A s.heap H locs → lv_has ls 7 (lwL b vf mo oz i) → W p l e room_1 s m args below meth c H locs cells' slots' Q (F0 m 724 ls [])) :
    W p l e room_1 s m args below meth c H locs cells slots Q (F0 m 108 ls []) := by
  obtain ⟨thr, G, G', ky, DE, cn, got, S0, C0, O0, L0, W0, S1, C1, O1, L1, W1, MP, PL, ML, DL, TH, NM, SZ, PT, TK, rfl, rfl, hG, hv0, hl0, hv1, hl1, hMP, hB, hcn⟩ := hI
  have hSZ := hB.1
  have hPT := hB.2.1
  refine arm_start hC hi hL2 hrm hl hS wV_0 wM_0 hLS h1 h2 (by decide) (c_start l D cI cZ cJ vf di t0 st0 ct0 hd0 lv0 wd0 t1 st1 ct1 hd1 lv1 wd1 mp bk nm ln pt tk tr ml dl G ky S0 C0 O0 L0 W0 ky S1 C1 O1 L1 W1 MP NM TH SZ PT TK ML DL cn DE a1 a2) (c_m_start l D cI cZ cJ mo se co ou le wo ma pl tl tm th na si pa ta thr G' ky DE cn got S0 C0 O0 L0 W0 S1 C1 O1 L1 W1 MP PL ML DL TH NM SZ PT TK a1 a2) (fun u H locs ls hLS hS hl => ?_)
  refine kk cells slots _ _ fo H locs ls (by omega) (by omega) (ix ?_) hLS hS hl
  exact ⟨fun _ => rfl, vS_s0 _ _, vL_l0 _ _, vS_s1 _ _, vL_l1 _ _, fun j => drw_lt (n := 2) _ (by decide), bI_start hB, Nat.zero_le _⟩

set_option maxHeartbeats 1600000 in
theorem st_create {p : Program} {l : Launch} {e : Env} {s : State} {m : MethodId} {args : Array Value} {below : List Frame} {meth : Method} {c : Code} {H : Heap} {locs : List Loc} {cells slots : Nat} {Q : State → Prop} {A : Nat → Prop} {D : va_G} {cI cZ cJ : ClassId} {b L : Nat} {xs : Nat → Int32} {vf di t0 st0 ct0 hd0 lv0 wd0 t1 st1 ct1 hd1 lv1 wd1 mp bk nm ln pt tk tr ml dl mo se co ou le wo ma pl tl tm th na si pa ta oz i k : Nat} (hlS : l.stackTraces = false) (hC : lC3 p s m args c A D (kty cI cZ cJ) b L xs) (hi : i + 5 ≤ L) (hL2 : L ≤ 2560) (hk : k < 1000) (hrm : cells + 1 ≤ room_1.cells ∧ slots + 6 ≤ room_1.slots) {ls : Array Slot} (hl : lv_has ls 7 (lwL b vf mo oz i)) (hS : va_S A s.heap H locs) {wx wm : va_W} {fo : Nat → Int64} (hI : IX cI cZ cJ vf di t0 st0 ct0 hd0 lv0 wd0 t1 st1 ct1 hd1 lv1 wd1 mp bk nm ln pt tk tr ml dl mo se co ou le wo ma pl tl tm th na si pa ta k wx wm) (hLS : lS3 D A wx wm [(oz, .inl (cJ, 1, .inr (.inl fo)))] H) {a1 : Int32} (h1 : xs (i + 1) = a1) {a2 : Int32} (h2 : xs (i + 2) = a2)
    (kk : ∀ (cells' slots' : Nat) (wx wm : va_W) (fo : Nat → Int64) (H : Heap) (locs : List Loc) (ls : Array Slot), cells' ≤ cells + 1 → slots' ≤ slots + 6 → IX cI cZ cJ vf di t0 st0 ct0 hd0 lv0 wd0 t1 st1 ct1 hd1 lv1 wd1 mp bk nm ln pt tk tr ml dl mo se co ou le wo ma pl tl tm th na si pa ta (k + 1) wx wm → lS3 D A wx wm [(oz, .inl (cJ, 1, .inr (.inl fo)))] H → va_S A s.heap H locs → lv_has ls 7 (lwL b vf mo oz i) → W p l e room_1 s m args below meth c H locs cells' slots' Q (F0 m 724 ls [])) :
    W p l e room_1 s m args below meth c H locs cells slots Q (F0 m 143 ls []) := by
  obtain ⟨thr, G, G', ky, DE, cn, got, S0, C0, O0, L0, W0, S1, C1, O1, L1, W1, MP, PL, ML, DL, TH, NM, SZ, PT, TK, rfl, rfl, hG, hv0, hl0, hv1, hl1, hMP, hB, hcn⟩ := hI
  have hSZ := hB.1
  have hPT := hB.2.1
  refine arm_create hC hi hL2 hrm hl hS wV_0 wM_0 hLS h1 h2 (by decide) (c_create l D cI cZ cJ vf di t0 st0 ct0 hd0 lv0 wd0 t1 st1 ct1 hd1 lv1 wd1 mp bk nm ln pt tk tr ml dl G ky S0 C0 O0 L0 W0 ky S1 C1 O1 L1 W1 MP NM TH SZ PT TK ML DL cn DE (lnm a1 a2) hSZ) (c_m_create l D cI cZ cJ mo se co ou le wo ma pl tl tm th na si pa ta thr G' ky DE cn got S0 C0 O0 L0 W0 S1 C1 O1 L1 W1 MP PL ML DL TH NM SZ PT TK (lnm a1 a2)) (fun u H locs ls hLS hS hl => ?_)
  refine kk cells slots _ _ fo H locs ls (by omega) (by omega) (ix ?_) hLS hS hl
  exact ⟨hG, hv0, hl0, hv1, hl1, hMP, bI_add _ hB, by omega⟩

set_option maxHeartbeats 1600000 in
theorem st_find {p : Program} {l : Launch} {e : Env} {s : State} {m : MethodId} {args : Array Value} {below : List Frame} {meth : Method} {c : Code} {H : Heap} {locs : List Loc} {cells slots : Nat} {Q : State → Prop} {A : Nat → Prop} {D : va_G} {cI cZ cJ : ClassId} {b L : Nat} {xs : Nat → Int32} {vf di t0 st0 ct0 hd0 lv0 wd0 t1 st1 ct1 hd1 lv1 wd1 mp bk nm ln pt tk tr ml dl mo se co ou le wo ma pl tl tm th na si pa ta oz i k : Nat} (hlS : l.stackTraces = false) (hC : lC3 p s m args c A D (kty cI cZ cJ) b L xs) (hi : i + 5 ≤ L) (hL2 : L ≤ 2560) (hk : k < 1000) (hrm : cells + 1 ≤ room_1.cells ∧ slots + 6 ≤ room_1.slots) {ls : Array Slot} (hl : lv_has ls 7 (lwL b vf mo oz i)) (hS : va_S A s.heap H locs) {wx wm : va_W} {fo : Nat → Int64} (hI : IX cI cZ cJ vf di t0 st0 ct0 hd0 lv0 wd0 t1 st1 ct1 hd1 lv1 wd1 mp bk nm ln pt tk tr ml dl mo se co ou le wo ma pl tl tm th na si pa ta k wx wm) (hLS : lS3 D A wx wm [(oz, .inl (cJ, 1, .inr (.inl fo)))] H) {a1 : Int32} (h1 : xs (i + 1) = a1) {a2 : Int32} (h2 : xs (i + 2) = a2)
    (kk : ∀ (cells' slots' : Nat) (wx wm : va_W) (fo : Nat → Int64) (H : Heap) (locs : List Loc) (ls : Array Slot), cells' ≤ cells + 1 → slots' ≤ slots + 6 → IX cI cZ cJ vf di t0 st0 ct0 hd0 lv0 wd0 t1 st1 ct1 hd1 lv1 wd1 mp bk nm ln pt tk tr ml dl mo se co ou le wo ma pl tl tm th na si pa ta (k + 1) wx wm → lS3 D A wx wm [(oz, .inl (cJ, 1, .inr (.inl fo)))] H → va_S A s.heap H locs → lv_has ls 7 (lwL b vf mo oz i) → W p l e room_1 s m args below meth c H locs cells' slots' Q (F0 m 724 ls [])) :
    W p l e room_1 s m args below meth c H locs cells slots Q (F0 m 200 ls []) := by
  obtain ⟨thr, G, G', ky, DE, cn, got, S0, C0, O0, L0, W0, S1, C1, O1, L1, W1, MP, PL, ML, DL, TH, NM, SZ, PT, TK, rfl, rfl, hG, hv0, hl0, hv1, hl1, hMP, hB, hcn⟩ := hI
  have hSZ := hB.1
  have hPT := hB.2.1
  refine arm_find hC hi hL2 hrm hl hS wV_0 wM_0 hLS h1 h2 (by decide) (c_find l D cI cZ cJ vf di t0 st0 ct0 hd0 lv0 wd0 t1 st1 ct1 hd1 lv1 wd1 mp bk nm ln pt tk tr ml dl G ky S0 C0 O0 L0 W0 ky S1 C1 O1 L1 W1 MP NM TH SZ PT TK ML DL cn DE (lnm a1 a2) hSZ) (c_m_find l D cI cZ cJ mo se co ou le wo ma pl tl tm th na si pa ta thr G' ky DE cn got S0 C0 O0 L0 W0 S1 C1 O1 L1 W1 MP PL ML DL TH NM SZ PT TK (lnm a1 a2)) (fun u H locs ls hLS hS hl => ?_)
  refine kk cells slots _ _ fo H locs ls (by omega) (by omega) (ix ?_) hLS hS hl
  exact ⟨hG, hv0, hl0, hv1, hl1, hMP, hB, by omega⟩

set_option maxHeartbeats 1600000 in
theorem st_remove {p : Program} {l : Launch} {e : Env} {s : State} {m : MethodId} {args : Array Value} {below : List Frame} {meth : Method} {c : Code} {H : Heap} {locs : List Loc} {cells slots : Nat} {Q : State → Prop} {A : Nat → Prop} {D : va_G} {cI cZ cJ : ClassId} {b L : Nat} {xs : Nat → Int32} {vf di t0 st0 ct0 hd0 lv0 wd0 t1 st1 ct1 hd1 lv1 wd1 mp bk nm ln pt tk tr ml dl mo se co ou le wo ma pl tl tm th na si pa ta oz i k : Nat} (hlS : l.stackTraces = false) (hC : lC3 p s m args c A D (kty cI cZ cJ) b L xs) (hi : i + 5 ≤ L) (hL2 : L ≤ 2560) (hk : k < 1000) (hrm : cells + 1 ≤ room_1.cells ∧ slots + 6 ≤ room_1.slots) {ls : Array Slot} (hl : lv_has ls 7 (lwL b vf mo oz i)) (hS : va_S A s.heap H locs) {wx wm : va_W} {fo : Nat → Int64} (hI : IX cI cZ cJ vf di t0 st0 ct0 hd0 lv0 wd0 t1 st1 ct1 hd1 lv1 wd1 mp bk nm ln pt tk tr ml dl mo se co ou le wo ma pl tl tm th na si pa ta k wx wm) (hLS : lS3 D A wx wm [(oz, .inl (cJ, 1, .inr (.inl fo)))] H) {a1 : Int32} (h1 : xs (i + 1) = a1)
    (kk : ∀ (cells' slots' : Nat) (wx wm : va_W) (fo : Nat → Int64) (H : Heap) (locs : List Loc) (ls : Array Slot), cells' ≤ cells + 1 → slots' ≤ slots + 6 → IX cI cZ cJ vf di t0 st0 ct0 hd0 lv0 wd0 t1 st1 ct1 hd1 lv1 wd1 mp bk nm ln pt tk tr ml dl mo se co ou le wo ma pl tl tm th na si pa ta (k + 1) wx wm → lS3 D A wx wm [(oz, .inl (cJ, 1, .inr (.inl fo)))] H → va_S A s.heap H locs → lv_has ls 7 (lwL b vf mo oz i) → W p l e room_1 s m args below meth c H locs cells' slots' Q (F0 m 724 ls [])) :
    W p l e room_1 s m args below meth c H locs cells slots Q (F0 m 257 ls []) := by
  obtain ⟨thr, G, G', ky, DE, cn, got, S0, C0, O0, L0, W0, S1, C1, O1, L1, W1, MP, PL, ML, DL, TH, NM, SZ, PT, TK, rfl, rfl, hG, hv0, hl0, hv1, hl1, hMP, hB, hcn⟩ := hI
  have hSZ := hB.1
  have hPT := hB.2.1
  rcases ix_file TH a1 with hf | ⟨f, hf, rfl, ht⟩
  · skip
    refine arm_remove hC hi hL2 hrm hl hS wV_0 wM_0 hLS h1 (by decide) (c_remove_n l D cI cZ cJ vf di t0 st0 ct0 hd0 lv0 wd0 t1 st1 ct1 hd1 lv1 wd1 mp bk nm ln pt tk tr ml dl G ky S0 C0 O0 L0 W0 ky S1 C1 O1 L1 W1 MP NM TH SZ PT TK ML DL cn DE a1 hf) (c_m_remove_n l D cI cZ cJ mo se co ou le wo ma pl tl tm th na si pa ta thr G' ky DE cn got S0 C0 O0 L0 W0 S1 C1 O1 L1 W1 MP PL ML DL TH NM SZ PT TK a1 hf) (fun u H locs ls hLS hS hl => ?_)
    refine kk cells slots _ _ fo H locs ls (by omega) (by omega) (ix ?_) hLS hS hl
    exact ⟨hG, hv0, hl0, hv1, hl1, hMP, hB, by omega⟩
  · have hs := hSZ f hf
    refine arm_remove hC hi hL2 hrm hl hS wV_0 wM_0 hLS h1 (by decide) (c_remove_y l D cI cZ cJ vf di t0 st0 ct0 hd0 lv0 wd0 t1 st1 ct1 hd1 lv1 wd1 mp bk nm ln pt tk tr ml dl G ky S0 C0 O0 L0 W0 ky S1 C1 O1 L1 W1 MP NM TH SZ PT TK ML DL cn DE f hf ht hs hPT) (c_m_remove_y l D cI cZ cJ mo se co ou le wo ma pl tl tm th na si pa ta thr G' ky DE cn got S0 C0 O0 L0 W0 S1 C1 O1 L1 W1 MP PL ML DL TH NM SZ PT TK f hf ht hs hPT) (fun u H locs ls hLS hS hl => ?_)
    refine kk cells slots _ _ fo H locs ls (by omega) (by omega) (ix ?_) hLS hS hl
    exact ⟨hG, hv0, hl0, hv1, hl1, hMP, bI_drop hf ht hB, by omega⟩

set_option maxHeartbeats 1600000 in
theorem st_size {p : Program} {l : Launch} {e : Env} {s : State} {m : MethodId} {args : Array Value} {below : List Frame} {meth : Method} {c : Code} {H : Heap} {locs : List Loc} {cells slots : Nat} {Q : State → Prop} {A : Nat → Prop} {D : va_G} {cI cZ cJ : ClassId} {b L : Nat} {xs : Nat → Int32} {vf di t0 st0 ct0 hd0 lv0 wd0 t1 st1 ct1 hd1 lv1 wd1 mp bk nm ln pt tk tr ml dl mo se co ou le wo ma pl tl tm th na si pa ta oz i k : Nat} (hlS : l.stackTraces = false) (hC : lC3 p s m args c A D (kty cI cZ cJ) b L xs) (hi : i + 5 ≤ L) (hL2 : L ≤ 2560) (hk : k < 1000) (hrm : cells + 1 ≤ room_1.cells ∧ slots + 6 ≤ room_1.slots) {ls : Array Slot} (hl : lv_has ls 7 (lwL b vf mo oz i)) (hS : va_S A s.heap H locs) {wx wm : va_W} {fo : Nat → Int64} (hI : IX cI cZ cJ vf di t0 st0 ct0 hd0 lv0 wd0 t1 st1 ct1 hd1 lv1 wd1 mp bk nm ln pt tk tr ml dl mo se co ou le wo ma pl tl tm th na si pa ta k wx wm) (hLS : lS3 D A wx wm [(oz, .inl (cJ, 1, .inr (.inl fo)))] H) {a1 : Int32} (h1 : xs (i + 1) = a1)
    (kk : ∀ (cells' slots' : Nat) (wx wm : va_W) (fo : Nat → Int64) (H : Heap) (locs : List Loc) (ls : Array Slot), cells' ≤ cells + 1 → slots' ≤ slots + 6 → IX cI cZ cJ vf di t0 st0 ct0 hd0 lv0 wd0 t1 st1 ct1 hd1 lv1 wd1 mp bk nm ln pt tk tr ml dl mo se co ou le wo ma pl tl tm th na si pa ta (k + 1) wx wm → lS3 D A wx wm [(oz, .inl (cJ, 1, .inr (.inl fo)))] H → va_S A s.heap H locs → lv_has ls 7 (lwL b vf mo oz i) → W p l e room_1 s m args below meth c H locs cells' slots' Q (F0 m 724 ls [])) :
    W p l e room_1 s m args below meth c H locs cells slots Q (F0 m 282 ls []) := by
  obtain ⟨thr, G, G', ky, DE, cn, got, S0, C0, O0, L0, W0, S1, C1, O1, L1, W1, MP, PL, ML, DL, TH, NM, SZ, PT, TK, rfl, rfl, hG, hv0, hl0, hv1, hl1, hMP, hB, hcn⟩ := hI
  have hSZ := hB.1
  have hPT := hB.2.1
  rcases ix_file TH a1 with hf | ⟨f, hf, rfl, ht⟩
  · skip
    refine arm_size hC hi hL2 hrm hl hS wV_0 wM_0 hLS h1 (by decide) (c_size_n l D cI cZ cJ vf di t0 st0 ct0 hd0 lv0 wd0 t1 st1 ct1 hd1 lv1 wd1 mp bk nm ln pt tk tr ml dl G ky S0 C0 O0 L0 W0 ky S1 C1 O1 L1 W1 MP NM TH SZ PT TK ML DL cn DE a1 hf) (c_m_size_n l D cI cZ cJ mo se co ou le wo ma pl tl tm th na si pa ta thr G' ky DE cn got S0 C0 O0 L0 W0 S1 C1 O1 L1 W1 MP PL ML DL TH NM SZ PT TK a1 hf) (fun u H locs ls hLS hS hl => ?_)
    refine kk cells slots _ _ fo H locs ls (by omega) (by omega) (ix ?_) hLS hS hl
    exact ⟨hG, hv0, hl0, hv1, hl1, hMP, hB, by omega⟩
  · skip
    refine arm_size hC hi hL2 hrm hl hS wV_0 wM_0 hLS h1 (by decide) (c_size_y l D cI cZ cJ vf di t0 st0 ct0 hd0 lv0 wd0 t1 st1 ct1 hd1 lv1 wd1 mp bk nm ln pt tk tr ml dl G ky S0 C0 O0 L0 W0 ky S1 C1 O1 L1 W1 MP NM TH SZ PT TK ML DL cn DE f hf ht) (c_m_size_y l D cI cZ cJ mo se co ou le wo ma pl tl tm th na si pa ta thr G' ky DE cn got S0 C0 O0 L0 W0 S1 C1 O1 L1 W1 MP PL ML DL TH NM SZ PT TK f hf ht) (fun u H locs ls hLS hS hl => ?_)
    refine kk cells slots _ _ fo H locs ls (by omega) (by omega) (ix ?_) hLS hS hl
    exact ⟨hG, hv0, hl0, hv1, hl1, hMP, hB, by omega⟩

set_option maxHeartbeats 1600000 in
theorem st_alter {p : Program} {l : Launch} {e : Env} {s : State} {m : MethodId} {args : Array Value} {below : List Frame} {meth : Method} {c : Code} {H : Heap} {locs : List Loc} {cells slots : Nat} {Q : State → Prop} {A : Nat → Prop} {D : va_G} {cI cZ cJ : ClassId} {b L : Nat} {xs : Nat → Int32} {vf di t0 st0 ct0 hd0 lv0 wd0 t1 st1 ct1 hd1 lv1 wd1 mp bk nm ln pt tk tr ml dl mo se co ou le wo ma pl tl tm th na si pa ta oz i k : Nat} (hlS : l.stackTraces = false) (hC : lC3 p s m args c A D (kty cI cZ cJ) b L xs) (hi : i + 5 ≤ L) (hL2 : L ≤ 2560) (hk : k < 1000) (hrm : cells + 1 ≤ room_1.cells ∧ slots + 6 ≤ room_1.slots) {ls : Array Slot} (hl : lv_has ls 7 (lwL b vf mo oz i)) (hS : va_S A s.heap H locs) {wx wm : va_W} {fo : Nat → Int64} (hI : IX cI cZ cJ vf di t0 st0 ct0 hd0 lv0 wd0 t1 st1 ct1 hd1 lv1 wd1 mp bk nm ln pt tk tr ml dl mo se co ou le wo ma pl tl tm th na si pa ta k wx wm) (hLS : lS3 D A wx wm [(oz, .inl (cJ, 1, .inr (.inl fo)))] H) {a1 : Int32} (h1 : xs (i + 1) = a1) {a2 : Int32} (h2 : xs (i + 2) = a2) {a3 : Int32} (h3 : xs (i + 3) = a3) {a4 : Int32} (h4 : xs (i + 4) = a4)
    (kk : ∀ (cells' slots' : Nat) (wx wm : va_W) (fo : Nat → Int64) (H : Heap) (locs : List Loc) (ls : Array Slot), cells' ≤ cells + 1 → slots' ≤ slots + 6 → IX cI cZ cJ vf di t0 st0 ct0 hd0 lv0 wd0 t1 st1 ct1 hd1 lv1 wd1 mp bk nm ln pt tk tr ml dl mo se co ou le wo ma pl tl tm th na si pa ta (k + 1) wx wm → lS3 D A wx wm [(oz, .inl (cJ, 1, .inr (.inl fo)))] H → va_S A s.heap H locs → lv_has ls 7 (lwL b vf mo oz i) → W p l e room_1 s m args below meth c H locs cells' slots' Q (F0 m 724 ls [])) :
    W p l e room_1 s m args below meth c H locs cells slots Q (F0 m 539 ls []) := by
  obtain ⟨thr, G, G', ky, DE, cn, got, S0, C0, O0, L0, W0, S1, C1, O1, L1, W1, MP, PL, ML, DL, TH, NM, SZ, PT, TK, rfl, rfl, hG, hv0, hl0, hv1, hl1, hMP, hB, hcn⟩ := hI
  have hSZ := hB.1
  have hPT := hB.2.1
  rcases ix_tree a1 with rfl | rfl | hx0
  · rcases ix_nob 7 (by decide) a2 with hy | ⟨y, hb0, rfl⟩
    · skip
      refine arm_alter hC hi hL2 hrm hl hS wV_0 wM_0 hLS h1 h2 h3 h4 (by decide) (c_alter0_n1 l D cI cZ cJ vf di t0 st0 ct0 hd0 lv0 wd0 t1 st1 ct1 hd1 lv1 wd1 mp bk nm ln pt tk tr ml dl G ky S0 C0 O0 L0 W0 ky S1 C1 O1 L1 W1 MP NM TH SZ PT TK ML DL cn DE a2 a3 a4 hy) (c_m_alter0_n1 l D cI cZ cJ mo se co ou le wo ma pl tl tm th na si pa ta thr G' ky DE cn got S0 C0 O0 L0 W0 S1 C1 O1 L1 W1 MP PL ML DL TH NM SZ PT TK a2 a3 a4 hy) (fun u H locs ls hLS hS hl => ?_)
      refine kk cells slots _ _ fo H locs ls (by omega) (by omega) (ix ?_) hLS hS hl
      exact ⟨hG, hv0, hl0, hv1, hl1, hMP, hB, by omega⟩
    · rcases ix_nob 25 (by decide) a3 with hj | ⟨j, hj, rfl⟩
      · skip
        refine arm_alter hC hi hL2 hrm hl hS wV_0 wM_0 hLS h1 h2 h3 h4 (by decide) (c_alter0_n2 l D cI cZ cJ vf di t0 st0 ct0 hd0 lv0 wd0 t1 st1 ct1 hd1 lv1 wd1 mp bk nm ln pt tk tr ml dl G ky S0 C0 O0 L0 W0 ky S1 C1 O1 L1 W1 MP NM TH SZ PT TK ML DL cn DE y a3 a4 hb0 hj) (c_m_alter0_n2 l D cI cZ cJ mo se co ou le wo ma pl tl tm th na si pa ta thr G' ky DE cn got S0 C0 O0 L0 W0 S1 C1 O1 L1 W1 MP PL ML DL TH NM SZ PT TK y a3 a4 hb0 hj) (fun u H locs ls hLS hS hl => ?_)
        refine kk cells slots _ _ fo H locs ls (by omega) (by omega) (ix ?_) hLS hS hl
        exact ⟨hG, hv0, hl0, hv1, hl1, hMP, hB, by omega⟩
      · by_cases hw : wholeB ky 0 C0 (setRow S0 y (upd (S0 y) j a4)) y
        · skip
          refine arm_alter hC hi hL2 hrm hl hS wV_0 wM_0 hLS h1 h2 h3 h4 (by decide) (c_alter0_w l D cI cZ cJ vf di t0 st0 ct0 hd0 lv0 wd0 t1 st1 ct1 hd1 lv1 wd1 mp bk nm ln pt tk tr ml dl G ky S0 C0 O0 L0 W0 ky S1 C1 O1 L1 W1 MP NM TH SZ PT TK ML DL cn DE y j a4 hb0 hj hw) (c_m_alter0_w l D cI cZ cJ mo se co ou le wo ma pl tl tm th na si pa ta thr G' ky DE cn got S0 C0 O0 L0 W0 S1 C1 O1 L1 W1 MP PL ML DL TH NM SZ PT TK y j a4 hb0 hj hw) (fun u H locs ls hLS hS hl => ?_)
          refine kk cells slots _ _ fo H locs ls (by omega) (by omega) (ix ?_) hLS hS hl
          exact ⟨hG, hv0, hl0, hv1, hl1, hMP, hB, by omega⟩
        · skip
          refine arm_alter hC hi hL2 hrm hl hS wV_0 wM_0 hLS h1 h2 h3 h4 (by decide) (c_alter0_y l D cI cZ cJ vf di t0 st0 ct0 hd0 lv0 wd0 t1 st1 ct1 hd1 lv1 wd1 mp bk nm ln pt tk tr ml dl G ky S0 C0 O0 L0 W0 ky S1 C1 O1 L1 W1 MP NM TH SZ PT TK ML DL cn DE y j a4 hb0 hj hw) (c_m_alter0_y l D cI cZ cJ mo se co ou le wo ma pl tl tm th na si pa ta thr G' ky DE cn got S0 C0 O0 L0 W0 S1 C1 O1 L1 W1 MP PL ML DL TH NM SZ PT TK y j a4 hb0 hj hw) (fun u H locs ls hLS hS hl => ?_)
          refine kk cells slots _ _ fo H locs ls (by omega) (by omega) (ix ?_) hLS hS hl
          exact ⟨hG, vS_alter hw hv0, hl0, hv1, hl1, hMP, hB, by omega⟩
  · rcases ix_nob 63 (by decide) a2 with hy | ⟨y, hb0, rfl⟩
    · skip
      refine arm_alter hC hi hL2 hrm hl hS wV_0 wM_0 hLS h1 h2 h3 h4 (by decide) (c_alter1_n1 l D cI cZ cJ vf di t0 st0 ct0 hd0 lv0 wd0 t1 st1 ct1 hd1 lv1 wd1 mp bk nm ln pt tk tr ml dl G ky S0 C0 O0 L0 W0 ky S1 C1 O1 L1 W1 MP NM TH SZ PT TK ML DL cn DE a2 a3 a4 hy) (c_m_alter1_n1 l D cI cZ cJ mo se co ou le wo ma pl tl tm th na si pa ta thr G' ky DE cn got S0 C0 O0 L0 W0 S1 C1 O1 L1 W1 MP PL ML DL TH NM SZ PT TK a2 a3 a4 hy) (fun u H locs ls hLS hS hl => ?_)
      refine kk cells slots _ _ fo H locs ls (by omega) (by omega) (ix ?_) hLS hS hl
      exact ⟨hG, hv0, hl0, hv1, hl1, hMP, hB, by omega⟩
    · rcases ix_nob 25 (by decide) a3 with hj | ⟨j, hj, rfl⟩
      · skip
        refine arm_alter hC hi hL2 hrm hl hS wV_0 wM_0 hLS h1 h2 h3 h4 (by decide) (c_alter1_n2 l D cI cZ cJ vf di t0 st0 ct0 hd0 lv0 wd0 t1 st1 ct1 hd1 lv1 wd1 mp bk nm ln pt tk tr ml dl G ky S0 C0 O0 L0 W0 ky S1 C1 O1 L1 W1 MP NM TH SZ PT TK ML DL cn DE y a3 a4 hb0 hj) (c_m_alter1_n2 l D cI cZ cJ mo se co ou le wo ma pl tl tm th na si pa ta thr G' ky DE cn got S0 C0 O0 L0 W0 S1 C1 O1 L1 W1 MP PL ML DL TH NM SZ PT TK y a3 a4 hb0 hj) (fun u H locs ls hLS hS hl => ?_)
        refine kk cells slots _ _ fo H locs ls (by omega) (by omega) (ix ?_) hLS hS hl
        exact ⟨hG, hv0, hl0, hv1, hl1, hMP, hB, by omega⟩
      · by_cases hw : wholeB ky 1 C1 (setRow S1 y (upd (S1 y) j a4)) y
        · skip
          refine arm_alter hC hi hL2 hrm hl hS wV_0 wM_0 hLS h1 h2 h3 h4 (by decide) (c_alter1_w l D cI cZ cJ vf di t0 st0 ct0 hd0 lv0 wd0 t1 st1 ct1 hd1 lv1 wd1 mp bk nm ln pt tk tr ml dl G ky S0 C0 O0 L0 W0 ky S1 C1 O1 L1 W1 MP NM TH SZ PT TK ML DL cn DE y j a4 hb0 hj hw) (c_m_alter1_w l D cI cZ cJ mo se co ou le wo ma pl tl tm th na si pa ta thr G' ky DE cn got S0 C0 O0 L0 W0 S1 C1 O1 L1 W1 MP PL ML DL TH NM SZ PT TK y j a4 hb0 hj hw) (fun u H locs ls hLS hS hl => ?_)
          refine kk cells slots _ _ fo H locs ls (by omega) (by omega) (ix ?_) hLS hS hl
          exact ⟨hG, hv0, hl0, hv1, hl1, hMP, hB, by omega⟩
        · skip
          refine arm_alter hC hi hL2 hrm hl hS wV_0 wM_0 hLS h1 h2 h3 h4 (by decide) (c_alter1_y l D cI cZ cJ vf di t0 st0 ct0 hd0 lv0 wd0 t1 st1 ct1 hd1 lv1 wd1 mp bk nm ln pt tk tr ml dl G ky S0 C0 O0 L0 W0 ky S1 C1 O1 L1 W1 MP NM TH SZ PT TK ML DL cn DE y j a4 hb0 hj hw) (c_m_alter1_y l D cI cZ cJ mo se co ou le wo ma pl tl tm th na si pa ta thr G' ky DE cn got S0 C0 O0 L0 W0 S1 C1 O1 L1 W1 MP PL ML DL TH NM SZ PT TK y j a4 hb0 hj hw) (fun u H locs ls hLS hS hl => ?_)
          refine kk cells slots _ _ fo H locs ls (by omega) (by omega) (ix ?_) hLS hS hl
          exact ⟨hG, hv0, hl0, vS_alter hw hv1, hl1, hMP, hB, by omega⟩
  · skip
    refine arm_alter hC hi hL2 hrm hl hS wV_0 wM_0 hLS h1 h2 h3 h4 (by decide) (c_alterN l D cI cZ cJ vf di t0 st0 ct0 hd0 lv0 wd0 t1 st1 ct1 hd1 lv1 wd1 mp bk nm ln pt tk tr ml dl G ky S0 C0 O0 L0 W0 ky S1 C1 O1 L1 W1 MP NM TH SZ PT TK ML DL cn DE a1 a2 a3 a4 hx0) (c_m_alterN l D cI cZ cJ mo se co ou le wo ma pl tl tm th na si pa ta thr G' ky DE cn got S0 C0 O0 L0 W0 S1 C1 O1 L1 W1 MP PL ML DL TH NM SZ PT TK a1 a2 a3 a4 hx0) (fun u H locs ls hLS hS hl => ?_)
    refine kk cells slots _ _ fo H locs ls (by omega) (by omega) (ix ?_) hLS hS hl
    exact ⟨hG, hv0, hl0, hv1, hl1, hMP, hB, by omega⟩

set_option maxHeartbeats 1600000 in
theorem st_counter {p : Program} {l : Launch} {e : Env} {s : State} {m : MethodId} {args : Array Value} {below : List Frame} {meth : Method} {c : Code} {H : Heap} {locs : List Loc} {cells slots : Nat} {Q : State → Prop} {A : Nat → Prop} {D : va_G} {cI cZ cJ : ClassId} {b L : Nat} {xs : Nat → Int32} {vf di t0 st0 ct0 hd0 lv0 wd0 t1 st1 ct1 hd1 lv1 wd1 mp bk nm ln pt tk tr ml dl mo se co ou le wo ma pl tl tm th na si pa ta oz i k : Nat} (hlS : l.stackTraces = false) (hC : lC3 p s m args c A D (kty cI cZ cJ) b L xs) (hi : i + 5 ≤ L) (hL2 : L ≤ 2560) (hk : k < 1000) (hrm : cells + 1 ≤ room_1.cells ∧ slots + 6 ≤ room_1.slots) {ls : Array Slot} (hl : lv_has ls 7 (lwL b vf mo oz i)) (hS : va_S A s.heap H locs) {wx wm : va_W} {fo : Nat → Int64} (hI : IX cI cZ cJ vf di t0 st0 ct0 hd0 lv0 wd0 t1 st1 ct1 hd1 lv1 wd1 mp bk nm ln pt tk tr ml dl mo se co ou le wo ma pl tl tm th na si pa ta k wx wm) (hLS : lS3 D A wx wm [(oz, .inl (cJ, 1, .inr (.inl fo)))] H) {a1 : Int32} (h1 : xs (i + 1) = a1) {a2 : Int32} (h2 : xs (i + 2) = a2)
    (kk : ∀ (cells' slots' : Nat) (wx wm : va_W) (fo : Nat → Int64) (H : Heap) (locs : List Loc) (ls : Array Slot), cells' ≤ cells + 1 → slots' ≤ slots + 6 → IX cI cZ cJ vf di t0 st0 ct0 hd0 lv0 wd0 t1 st1 ct1 hd1 lv1 wd1 mp bk nm ln pt tk tr ml dl mo se co ou le wo ma pl tl tm th na si pa ta (k + 1) wx wm → lS3 D A wx wm [(oz, .inl (cJ, 1, .inr (.inl fo)))] H → va_S A s.heap H locs → lv_has ls 7 (lwL b vf mo oz i) → W p l e room_1 s m args below meth c H locs cells' slots' Q (F0 m 724 ls [])) :
    W p l e room_1 s m args below meth c H locs cells slots Q (F0 m 600 ls []) := by
  obtain ⟨thr, G, G', ky, DE, cn, got, S0, C0, O0, L0, W0, S1, C1, O1, L1, W1, MP, PL, ML, DL, TH, NM, SZ, PT, TK, rfl, rfl, hG, hv0, hl0, hv1, hl1, hMP, hB, hcn⟩ := hI
  have hSZ := hB.1
  have hPT := hB.2.1
  rcases ix_tree a1 with rfl | rfl | hx0
  · rcases ix_nob 7 (by decide) a2 with hy | ⟨y, hb0, rfl⟩
    · skip
      refine arm_counter hC hi hL2 hrm hl hS wV_0 wM_0 hLS h1 h2 (by decide) (c_counter0_n l D cI cZ cJ vf di t0 st0 ct0 hd0 lv0 wd0 t1 st1 ct1 hd1 lv1 wd1 mp bk nm ln pt tk tr ml dl G ky S0 C0 O0 L0 W0 ky S1 C1 O1 L1 W1 MP NM TH SZ PT TK ML DL cn DE a2 hy) (c_m_counter0_n l D cI cZ cJ mo se co ou le wo ma pl tl tm th na si pa ta thr G' ky DE cn got S0 C0 O0 L0 W0 S1 C1 O1 L1 W1 MP PL ML DL TH NM SZ PT TK a2 hy) (fun u H locs ls hLS hS hl => ?_)
      refine kk cells slots _ _ fo H locs ls (by omega) (by omega) (ix ?_) hLS hS hl
      exact ⟨hG, hv0, hl0, hv1, hl1, hMP, hB, by omega⟩
    · skip
      refine arm_counter hC hi hL2 hrm hl hS wV_0 wM_0 hLS h1 h2 (by decide) (c_counter0_y l D cI cZ cJ vf di t0 st0 ct0 hd0 lv0 wd0 t1 st1 ct1 hd1 lv1 wd1 mp bk nm ln pt tk tr ml dl G ky S0 C0 O0 L0 W0 ky S1 C1 O1 L1 W1 MP NM TH SZ PT TK ML DL cn DE y hb0) (c_m_counter0_y l D cI cZ cJ mo se co ou le wo ma pl tl tm th na si pa ta thr G' ky DE cn got S0 C0 O0 L0 W0 S1 C1 O1 L1 W1 MP PL ML DL TH NM SZ PT TK y hb0) (fun u H locs ls hLS hS hl => ?_)
      refine kk cells slots _ _ fo H locs ls (by omega) (by omega) (ix ?_) hLS hS hl
      exact ⟨hG, hv0, hl0, hv1, hl1, hMP, hB, by omega⟩
  · rcases ix_nob 63 (by decide) a2 with hy | ⟨y, hb0, rfl⟩
    · skip
      refine arm_counter hC hi hL2 hrm hl hS wV_0 wM_0 hLS h1 h2 (by decide) (c_counter1_n l D cI cZ cJ vf di t0 st0 ct0 hd0 lv0 wd0 t1 st1 ct1 hd1 lv1 wd1 mp bk nm ln pt tk tr ml dl G ky S0 C0 O0 L0 W0 ky S1 C1 O1 L1 W1 MP NM TH SZ PT TK ML DL cn DE a2 hy) (c_m_counter1_n l D cI cZ cJ mo se co ou le wo ma pl tl tm th na si pa ta thr G' ky DE cn got S0 C0 O0 L0 W0 S1 C1 O1 L1 W1 MP PL ML DL TH NM SZ PT TK a2 hy) (fun u H locs ls hLS hS hl => ?_)
      refine kk cells slots _ _ fo H locs ls (by omega) (by omega) (ix ?_) hLS hS hl
      exact ⟨hG, hv0, hl0, hv1, hl1, hMP, hB, by omega⟩
    · skip
      refine arm_counter hC hi hL2 hrm hl hS wV_0 wM_0 hLS h1 h2 (by decide) (c_counter1_y l D cI cZ cJ vf di t0 st0 ct0 hd0 lv0 wd0 t1 st1 ct1 hd1 lv1 wd1 mp bk nm ln pt tk tr ml dl G ky S0 C0 O0 L0 W0 ky S1 C1 O1 L1 W1 MP NM TH SZ PT TK ML DL cn DE y hb0) (c_m_counter1_y l D cI cZ cJ mo se co ou le wo ma pl tl tm th na si pa ta thr G' ky DE cn got S0 C0 O0 L0 W0 S1 C1 O1 L1 W1 MP PL ML DL TH NM SZ PT TK y hb0) (fun u H locs ls hLS hS hl => ?_)
      refine kk cells slots _ _ fo H locs ls (by omega) (by omega) (ix ?_) hLS hS hl
      exact ⟨hG, hv0, hl0, hv1, hl1, hMP, hB, by omega⟩
  · skip
    refine arm_counter hC hi hL2 hrm hl hS wV_0 wM_0 hLS h1 h2 (by decide) (c_counterN l D cI cZ cJ vf di t0 st0 ct0 hd0 lv0 wd0 t1 st1 ct1 hd1 lv1 wd1 mp bk nm ln pt tk tr ml dl G ky S0 C0 O0 L0 W0 ky S1 C1 O1 L1 W1 MP NM TH SZ PT TK ML DL cn DE a1 a2 hx0) (c_m_counterN l D cI cZ cJ mo se co ou le wo ma pl tl tm th na si pa ta thr G' ky DE cn got S0 C0 O0 L0 W0 S1 C1 O1 L1 W1 MP PL ML DL TH NM SZ PT TK a1 a2 hx0) (fun u H locs ls hLS hS hl => ?_)
    refine kk cells slots _ _ fo H locs ls (by omega) (by omega) (ix ?_) hLS hS hl
    exact ⟨hG, hv0, hl0, hv1, hl1, hMP, hB, by omega⟩

set_option maxHeartbeats 1600000 in
theorem st_trace {p : Program} {l : Launch} {e : Env} {s : State} {m : MethodId} {args : Array Value} {below : List Frame} {meth : Method} {c : Code} {H : Heap} {locs : List Loc} {cells slots : Nat} {Q : State → Prop} {A : Nat → Prop} {D : va_G} {cI cZ cJ : ClassId} {b L : Nat} {xs : Nat → Int32} {vf di t0 st0 ct0 hd0 lv0 wd0 t1 st1 ct1 hd1 lv1 wd1 mp bk nm ln pt tk tr ml dl mo se co ou le wo ma pl tl tm th na si pa ta oz i k : Nat} (hlS : l.stackTraces = false) (hC : lC3 p s m args c A D (kty cI cZ cJ) b L xs) (hi : i + 5 ≤ L) (hL2 : L ≤ 2560) (hk : k < 1000) (hrm : cells + 1 ≤ room_1.cells ∧ slots + 6 ≤ room_1.slots) {ls : Array Slot} (hl : lv_has ls 7 (lwL b vf mo oz i)) (hS : va_S A s.heap H locs) {wx wm : va_W} {fo : Nat → Int64} (hI : IX cI cZ cJ vf di t0 st0 ct0 hd0 lv0 wd0 t1 st1 ct1 hd1 lv1 wd1 mp bk nm ln pt tk tr ml dl mo se co ou le wo ma pl tl tm th na si pa ta k wx wm) (hLS : lS3 D A wx wm [(oz, .inl (cJ, 1, .inr (.inl fo)))] H) {a1 : Int32} (h1 : xs (i + 1) = a1) {a2 : Int32} (h2 : xs (i + 2) = a2)
    (kk : ∀ (cells' slots' : Nat) (wx wm : va_W) (fo : Nat → Int64) (H : Heap) (locs : List Loc) (ls : Array Slot), cells' ≤ cells + 1 → slots' ≤ slots + 6 → IX cI cZ cJ vf di t0 st0 ct0 hd0 lv0 wd0 t1 st1 ct1 hd1 lv1 wd1 mp bk nm ln pt tk tr ml dl mo se co ou le wo ma pl tl tm th na si pa ta (k + 1) wx wm → lS3 D A wx wm [(oz, .inl (cJ, 1, .inr (.inl fo)))] H → va_S A s.heap H locs → lv_has ls 7 (lwL b vf mo oz i) → W p l e room_1 s m args below meth c H locs cells' slots' Q (F0 m 724 ls [])) :
    W p l e room_1 s m args below meth c H locs cells slots Q (F0 m 637 ls []) := by
  obtain ⟨thr, G, G', ky, DE, cn, got, S0, C0, O0, L0, W0, S1, C1, O1, L1, W1, MP, PL, ML, DL, TH, NM, SZ, PT, TK, rfl, rfl, hG, hv0, hl0, hv1, hl1, hMP, hB, hcn⟩ := hI
  have hSZ := hB.1
  have hPT := hB.2.1
  refine arm_trace hC hi hL2 hrm hl hS wV_0 wM_0 hLS h1 h2 (by decide) (c_trace l D cI cZ cJ vf di t0 st0 ct0 hd0 lv0 wd0 t1 st1 ct1 hd1 lv1 wd1 mp bk nm ln pt tk tr ml dl G ky S0 C0 O0 L0 W0 ky S1 C1 O1 L1 W1 MP NM TH SZ PT TK ML DL cn DE a1 a2 (by omega)) (c_m_trace l D cI cZ cJ mo se co ou le wo ma pl tl tm th na si pa ta thr G' ky DE cn got S0 C0 O0 L0 W0 S1 C1 O1 L1 W1 MP PL ML DL TH NM SZ PT TK a1 a2 (by omega)) (fun u H locs ls hLS hS hl => ?_)
  refine kk cells slots _ _ fo H locs ls (by omega) (by omega) (ix ?_) hLS hS hl
  exact ⟨hG, hv0, hl0, hv1, hl1, hMP, hB, by omega⟩

set_option maxHeartbeats 1600000 in
theorem st_stash {p : Program} {l : Launch} {e : Env} {s : State} {m : MethodId} {args : Array Value} {below : List Frame} {meth : Method} {c : Code} {H : Heap} {locs : List Loc} {cells slots : Nat} {Q : State → Prop} {A : Nat → Prop} {D : va_G} {cI cZ cJ : ClassId} {b L : Nat} {xs : Nat → Int32} {vf di t0 st0 ct0 hd0 lv0 wd0 t1 st1 ct1 hd1 lv1 wd1 mp bk nm ln pt tk tr ml dl mo se co ou le wo ma pl tl tm th na si pa ta oz i k : Nat} (hlS : l.stackTraces = false) (hC : lC3 p s m args c A D (kty cI cZ cJ) b L xs) (hi : i + 5 ≤ L) (hL2 : L ≤ 2560) (hk : k < 1000) (hrm : cells + 1 ≤ room_1.cells ∧ slots + 6 ≤ room_1.slots) {ls : Array Slot} (hl : lv_has ls 7 (lwL b vf mo oz i)) (hS : va_S A s.heap H locs) {wx wm : va_W} {fo : Nat → Int64} (hI : IX cI cZ cJ vf di t0 st0 ct0 hd0 lv0 wd0 t1 st1 ct1 hd1 lv1 wd1 mp bk nm ln pt tk tr ml dl mo se co ou le wo ma pl tl tm th na si pa ta k wx wm) (hLS : lS3 D A wx wm [(oz, .inl (cJ, 1, .inr (.inl fo)))] H) {a1 : Int32} (h1 : xs (i + 1) = a1)
    (kk : ∀ (cells' slots' : Nat) (wx wm : va_W) (fo : Nat → Int64) (H : Heap) (locs : List Loc) (ls : Array Slot), cells' ≤ cells + 1 → slots' ≤ slots + 6 → IX cI cZ cJ vf di t0 st0 ct0 hd0 lv0 wd0 t1 st1 ct1 hd1 lv1 wd1 mp bk nm ln pt tk tr ml dl mo se co ou le wo ma pl tl tm th na si pa ta (k + 1) wx wm → lS3 D A wx wm [(oz, .inl (cJ, 1, .inr (.inl fo)))] H → va_S A s.heap H locs → lv_has ls 7 (lwL b vf mo oz i) → W p l e room_1 s m args below meth c H locs cells' slots' Q (F0 m 724 ls [])) :
    W p l e room_1 s m args below meth c H locs cells slots Q (F0 m 674 ls []) := by
  obtain ⟨thr, G, G', ky, DE, cn, got, S0, C0, O0, L0, W0, S1, C1, O1, L1, W1, MP, PL, ML, DL, TH, NM, SZ, PT, TK, rfl, rfl, hG, hv0, hl0, hv1, hl1, hMP, hB, hcn⟩ := hI
  have hSZ := hB.1
  have hPT := hB.2.1
  rcases ix_tree a1 with rfl | rfl | hx0
  · skip
    refine arm_stash hC hi hL2 hrm hl hS wV_0 wM_0 hLS h1 (by decide) (c_stash0 l D cI cZ cJ vf di t0 st0 ct0 hd0 lv0 wd0 t1 st1 ct1 hd1 lv1 wd1 mp bk nm ln pt tk tr ml dl G ky S0 C0 O0 L0 W0 ky S1 C1 O1 L1 W1 MP NM TH SZ PT TK ML DL cn DE) (c_m_stash0 l D cI cZ cJ mo se co ou le wo ma pl tl tm th na si pa ta thr G' ky DE cn got S0 C0 O0 L0 W0 S1 C1 O1 L1 W1 MP PL ML DL TH NM SZ PT TK) (fun u H locs ls hLS hS hl => ?_)
    refine kk cells slots _ _ fo H locs ls (by omega) (by omega) (ix ?_) hLS hS hl
    exact ⟨hG, hv0, hl0, hv1, hl1, hMP, hB, by omega⟩
  · skip
    refine arm_stash hC hi hL2 hrm hl hS wV_0 wM_0 hLS h1 (by decide) (c_stash1 l D cI cZ cJ vf di t0 st0 ct0 hd0 lv0 wd0 t1 st1 ct1 hd1 lv1 wd1 mp bk nm ln pt tk tr ml dl G ky S0 C0 O0 L0 W0 ky S1 C1 O1 L1 W1 MP NM TH SZ PT TK ML DL cn DE) (c_m_stash1 l D cI cZ cJ mo se co ou le wo ma pl tl tm th na si pa ta thr G' ky DE cn got S0 C0 O0 L0 W0 S1 C1 O1 L1 W1 MP PL ML DL TH NM SZ PT TK) (fun u H locs ls hLS hS hl => ?_)
    refine kk cells slots _ _ fo H locs ls (by omega) (by omega) (ix ?_) hLS hS hl
    exact ⟨hG, hv0, hl0, hv1, hl1, hMP, hB, by omega⟩
  · skip
    refine arm_stash hC hi hL2 hrm hl hS wV_0 wM_0 hLS h1 (by decide) (c_stashN l D cI cZ cJ vf di t0 st0 ct0 hd0 lv0 wd0 t1 st1 ct1 hd1 lv1 wd1 mp bk nm ln pt tk tr ml dl G ky S0 C0 O0 L0 W0 ky S1 C1 O1 L1 W1 MP NM TH SZ PT TK ML DL cn DE a1 hx0) (c_m_stashN l D cI cZ cJ mo se co ou le wo ma pl tl tm th na si pa ta thr G' ky DE cn got S0 C0 O0 L0 W0 S1 C1 O1 L1 W1 MP PL ML DL TH NM SZ PT TK a1 hx0) (fun u H locs ls hLS hS hl => ?_)
    refine kk cells slots _ _ fo H locs ls (by omega) (by omega) (ix ?_) hLS hS hl
    exact ⟨hG, hv0, hl0, hv1, hl1, hMP, hB, by omega⟩

set_option maxHeartbeats 1600000 in
theorem st_state {p : Program} {l : Launch} {e : Env} {s : State} {m : MethodId} {args : Array Value} {below : List Frame} {meth : Method} {c : Code} {H : Heap} {locs : List Loc} {cells slots : Nat} {Q : State → Prop} {A : Nat → Prop} {D : va_G} {cI cZ cJ : ClassId} {b L : Nat} {xs : Nat → Int32} {vf di t0 st0 ct0 hd0 lv0 wd0 t1 st1 ct1 hd1 lv1 wd1 mp bk nm ln pt tk tr ml dl mo se co ou le wo ma pl tl tm th na si pa ta oz i k : Nat} (hlS : l.stackTraces = false) (hC : lC3 p s m args c A D (kty cI cZ cJ) b L xs) (hi : i + 5 ≤ L) (hL2 : L ≤ 2560) (hk : k < 1000) (hrm : cells + 1 ≤ room_1.cells ∧ slots + 6 ≤ room_1.slots) {ls : Array Slot} (hl : lv_has ls 7 (lwL b vf mo oz i)) (hS : va_S A s.heap H locs) {wx wm : va_W} {fo : Nat → Int64} (hI : IX cI cZ cJ vf di t0 st0 ct0 hd0 lv0 wd0 t1 st1 ct1 hd1 lv1 wd1 mp bk nm ln pt tk tr ml dl mo se co ou le wo ma pl tl tm th na si pa ta k wx wm) (hLS : lS3 D A wx wm [(oz, .inl (cJ, 1, .inr (.inl fo)))] H) {a1 : Int32} (h1 : xs (i + 1) = a1)
    (kk : ∀ (cells' slots' : Nat) (wx wm : va_W) (fo : Nat → Int64) (H : Heap) (locs : List Loc) (ls : Array Slot), cells' ≤ cells + 1 → slots' ≤ slots + 6 → IX cI cZ cJ vf di t0 st0 ct0 hd0 lv0 wd0 t1 st1 ct1 hd1 lv1 wd1 mp bk nm ln pt tk tr ml dl mo se co ou le wo ma pl tl tm th na si pa ta (k + 1) wx wm → lS3 D A wx wm [(oz, .inl (cJ, 1, .inr (.inl fo)))] H → va_S A s.heap H locs → lv_has ls 7 (lwL b vf mo oz i) → W p l e room_1 s m args below meth c H locs cells' slots' Q (F0 m 724 ls [])) :
    W p l e room_1 s m args below meth c H locs cells slots Q (F0 m 699 ls []) := by
  obtain ⟨thr, G, G', ky, DE, cn, got, S0, C0, O0, L0, W0, S1, C1, O1, L1, W1, MP, PL, ML, DL, TH, NM, SZ, PT, TK, rfl, rfl, hG, hv0, hl0, hv1, hl1, hMP, hB, hcn⟩ := hI
  have hSZ := hB.1
  have hPT := hB.2.1
  rcases ix_state a1 with rfl | rfl | rfl | rfl | hx0
  · skip
    refine arm_state hC hi hL2 hrm hl hS wV_0 wM_0 hLS h1 (by decide) (c_state0 l D cI cZ cJ vf di t0 st0 ct0 hd0 lv0 wd0 t1 st1 ct1 hd1 lv1 wd1 mp bk nm ln pt tk tr ml dl G ky S0 C0 O0 L0 W0 ky S1 C1 O1 L1 W1 MP NM TH SZ PT TK ML DL cn DE) (c_m_state0 l D cI cZ cJ mo se co ou le wo ma pl tl tm th na si pa ta thr G' ky DE cn got S0 C0 O0 L0 W0 S1 C1 O1 L1 W1 MP PL ML DL TH NM SZ PT TK) (fun u H locs ls hLS hS hl => ?_)
    refine kk cells slots _ _ fo H locs ls (by omega) (by omega) (ix ?_) hLS hS hl
    exact ⟨hG, hv0, hl0, hv1, hl1, hMP, hB, by omega⟩
  · skip
    refine arm_state hC hi hL2 hrm hl hS wV_0 wM_0 hLS h1 (by decide) (c_state1 l D cI cZ cJ vf di t0 st0 ct0 hd0 lv0 wd0 t1 st1 ct1 hd1 lv1 wd1 mp bk nm ln pt tk tr ml dl G ky S0 C0 O0 L0 W0 ky S1 C1 O1 L1 W1 MP NM TH SZ PT TK ML DL cn DE hSZ) (c_m_state1 l D cI cZ cJ mo se co ou le wo ma pl tl tm th na si pa ta thr G' ky DE cn got S0 C0 O0 L0 W0 S1 C1 O1 L1 W1 MP PL ML DL TH NM SZ PT TK) (fun u H locs ls hLS hS hl => ?_)
    refine kk cells slots _ _ fo H locs ls (by omega) (by omega) (ix ?_) hLS hS hl
    exact ⟨hG, hv0, hl0, hv1, hl1, hMP, hB, by omega⟩
  · skip
    refine arm_state hC hi hL2 hrm hl hS wV_0 wM_0 hLS h1 (by decide) (c_state2 l D cI cZ cJ vf di t0 st0 ct0 hd0 lv0 wd0 t1 st1 ct1 hd1 lv1 wd1 mp bk nm ln pt tk tr ml dl G ky S0 C0 O0 L0 W0 ky S1 C1 O1 L1 W1 MP NM TH SZ PT TK ML DL cn DE) (c_m_state2 l D cI cZ cJ mo se co ou le wo ma pl tl tm th na si pa ta thr G' ky DE cn got S0 C0 O0 L0 W0 S1 C1 O1 L1 W1 MP PL ML DL TH NM SZ PT TK) (fun u H locs ls hLS hS hl => ?_)
    refine kk cells slots _ _ fo H locs ls (by omega) (by omega) (ix ?_) hLS hS hl
    exact ⟨hG, hv0, hl0, hv1, hl1, hMP, hB, by omega⟩
  · skip
    refine arm_state hC hi hL2 hrm hl hS wV_0 wM_0 hLS h1 (by decide) (c_state3 l D cI cZ cJ vf di t0 st0 ct0 hd0 lv0 wd0 t1 st1 ct1 hd1 lv1 wd1 mp bk nm ln pt tk tr ml dl G ky S0 C0 O0 L0 W0 ky S1 C1 O1 L1 W1 MP NM TH SZ PT TK ML DL cn DE) (c_m_state3 l D cI cZ cJ mo se co ou le wo ma pl tl tm th na si pa ta thr G' ky DE cn got S0 C0 O0 L0 W0 S1 C1 O1 L1 W1 MP PL ML DL TH NM SZ PT TK) (fun u H locs ls hLS hS hl => ?_)
    refine kk cells slots _ _ fo H locs ls (by omega) (by omega) (ix ?_) hLS hS hl
    exact ⟨hG, hv0, hl0, hv1, hl1, hMP, hB, by omega⟩
  · skip
    refine arm_state hC hi hL2 hrm hl hS wV_0 wM_0 hLS h1 (by decide) (c_stateN l D cI cZ cJ vf di t0 st0 ct0 hd0 lv0 wd0 t1 st1 ct1 hd1 lv1 wd1 mp bk nm ln pt tk tr ml dl G ky S0 C0 O0 L0 W0 ky S1 C1 O1 L1 W1 MP NM TH SZ PT TK ML DL cn DE a1 hx0) (c_m_stateN l D cI cZ cJ mo se co ou le wo ma pl tl tm th na si pa ta thr G' ky DE cn got S0 C0 O0 L0 W0 S1 C1 O1 L1 W1 MP PL ML DL TH NM SZ PT TK a1 hx0) (fun u H locs ls hLS hS hl => ?_)
    refine kk cells slots _ _ fo H locs ls (by omega) (by omega) (ix ?_) hLS hS hl
    exact ⟨hG, hv0, hl0, hv1, hl1, hMP, hB, by omega⟩

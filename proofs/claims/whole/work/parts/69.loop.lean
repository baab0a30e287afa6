/-! the law's loop, and its beginning -/
theorem lt_sub5 {L i : Nat} (hL : L ≤ 2560) (hi : i ≤ 2565) (h : L < i + 5) : nI L - nI 5 < nI i := by
  rcases Nat.lt_or_ge L 5 with q | q
  · have h0 : ∀ n, n < 5 → nI n - nI 5 < 0 := by decide
    have a := Int32.lt_iff_toInt_lt.mp (h0 L q)
    have b := Int32.le_iff_toInt_le.mp (nI_pos' (n := i) (by omega))
    exact Int32.lt_iff_toInt_lt.mpr (by omega)
  · have e : nI L - nI 5 = nI (L - 5) := by
      have e1 := nI_add (L - 5) 5
      rw [show L - 5 + 5 = L by omega] at e1
      rw [← e1, Int32.add_sub_cancel]
    rw [e]; exact nI_lt (by omega) (by omega)
theorem and15 (x : Int32) : ∃ t, t < 16 ∧ x &&& nI 15 = nI t := by
  refine ⟨x.toBitVec.toNat % 16, Nat.mod_lt _ (by decide), ?_⟩
  apply Int32.toBitVec_inj.mp
  apply BitVec.eq_of_toNat_eq
  rw [Int32.toBitVec_and, BitVec.toNat_and]
  show x.toBitVec.toNat &&& (2 ^ 4 - 1) = (BitVec.ofNat 32 (x.toBitVec.toNat % 16)).toNat
  rw [Nat.and_two_pow_sub_one_eq_mod, BitVec.toNat_ofNat]
  omega
set_option maxHeartbeats 1600000 in
theorem law_loop {p : Program} {l : Launch} {e : Env} {s : State} {m : MethodId} {args : Array Value} {below : List Frame} {meth : Method} {c : Code} {Q : State → Prop} {A : Nat → Prop} {D : va_G} {cI cZ cJ : ClassId} {b L : Nat} {xs : Nat → Int32} {vf di t0 st0 ct0 hd0 lv0 wd0 t1 st1 ct1 hd1 lv1 wd1 mp bk nm ln pt tk tr ml dl mo se co ou le wo ma pl tl tm th na si pa ta oz : Nat} (hlS : l.stackTraces = false) (hC : lC3 p s m args c A D (kty cI cZ cJ) b L xs) (hL2 : L ≤ 2560)
    (fin : ∀ (H : Heap) (locs : List Loc) (ls : Array Slot) (cells slots : Nat), cells ≤ 1000 → slots ≤ 20000 → va_S A s.heap H locs → W p l e room_1 s m args below meth c H locs cells slots Q (F0 m 730 ls [])) :
    ∀ (n i k cells slots : Nat) (wx wm : va_W) (fo : Nat → Int64) (H : Heap) (locs : List Loc) (ls : Array Slot), L ≤ i + 5 * n → i = 5 * k → k ≤ 513 → cells ≤ 100 + k → slots ≤ 6000 + 6 * k → IX cI cZ cJ vf di t0 st0 ct0 hd0 lv0 wd0 t1 st1 ct1 hd1 lv1 wd1 mp bk nm ln pt tk tr ml dl mo se co ou le wo ma pl tl tm th na si pa ta k wx wm → lS3 D A wx wm [(oz, .inl (cJ, 1, .inr (.inl fo)))] H → va_S A s.heap H locs → lv_has ls 7 (lwL b vf mo oz i) → W p l e room_1 s m args below meth c H locs cells slots Q (F0 m 23 ls []) := by
  intro n
  obtain ⟨⟨hx, hb, hml, hown, hts⟩, hA, hK, hCx, hX0, hbl, hbA⟩ := hC
  have hC : lC3 p s m args c A D (kty cI cZ cJ) b L xs := ⟨⟨hx, hb, hml, hown, hts⟩, hA, hK, hCx, hX0, hbl, hbA⟩
  induction n with
  | zero =>
    intro i k cells slots wx wm fo H locs ls hn hik hk hc hs hI hLS hS hl
    refine lv_iload hx hb dL_law_23 (lv_at hl 4 rfl) ?_
    refine lv_aload_n hx hb dL_law_25 rfl (lv_at hl 0 rfl) ?_
    refine va_slen hx hb hX0 hbl hbA hS dL_law_26 ?_
    refine lv_iconst (v := nI 5) hx hb dL_law_27 (by decide) ?_
    refine lv_isub hx hb dL_law_28 ?_
    refine lv_icmp_gt (tgt := 730) hx hb dL_law_29 (by decide) (fun _ => ?_) (fun c9 => ?_)
    · exact fin H locs ls cells slots (by omega) (by omega) hS
    · exact absurd (lt_sub5 hL2 (by omega) (by omega)) c9
  | succ n ih =>
    intro i k cells slots wx wm fo H locs ls hn hik hk hc hs hI hLS hS hl
    refine lv_iload hx hb dL_law_23 (lv_at hl 4 rfl) ?_
    refine lv_aload_n hx hb dL_law_25 rfl (lv_at hl 0 rfl) ?_
    refine va_slen hx hb hX0 hbl hbA hS dL_law_26 ?_
    refine lv_iconst (v := nI 5) hx hb dL_law_27 (by decide) ?_
    refine lv_isub hx hb dL_law_28 ?_
    refine lv_icmp_gt (tgt := 730) hx hb dL_law_29 (by decide) (fun _ => ?_) (fun c9 => ?_)
    · exact fin H locs ls cells slots (by omega) (by omega) hS
    · have hi : i + 5 ≤ L := by
        rcases Nat.lt_or_ge L (i + 5) with q | q
        · exact absurd (lt_sub5 hL2 (by omega) q) c9
        · exact q
      have hrm : cells + 1 ≤ room_1.cells ∧ slots + 6 ≤ room_1.slots := ⟨by show cells + 1 ≤ 601024; omega, by show slots + 6 ≤ 7293034; omega⟩
      have kk : ∀ (cells' slots' : Nat) (wx wm : va_W) (fo : Nat → Int64) (H : Heap) (locs : List Loc) (ls : Array Slot), cells' ≤ cells + 1 → slots' ≤ slots + 6 → IX cI cZ cJ vf di t0 st0 ct0 hd0 lv0 wd0 t1 st1 ct1 hd1 lv1 wd1 mp bk nm ln pt tk tr ml dl mo se co ou le wo ma pl tl tm th na si pa ta (k + 1) wx wm → lS3 D A wx wm [(oz, .inl (cJ, 1, .inr (.inl fo)))] H → va_S A s.heap H locs → lv_has ls 7 (lwL b vf mo oz i) → W p l e room_1 s m args below meth c H locs cells' slots' Q (F0 m 724 ls []) := fun cells' slots' wx wm fo H locs ls h1 h2 hI hLS hS hl => by
        refine lv_iinc (k := 4) (x := nI i) (v := nI (i + 5)) (lv' := [(4, .int (nI (i + 5))), (0, .ref b), (1, .ref vf), (2, .ref mo), (3, .ref oz)]) hx hb dL_law_724 hl rfl (by rw [show Int32.ofInt 5 = nI 5 by decide]; exact nI_add i 5) (by decide) rfl (fun ls hl => ?_)
        refine lv_goto (tgt := 23) hx hb dL_law_727 (by decide) ?_
        exact ih (i + 5) (k + 1) cells' slots' wx wm fo H locs ls (by omega) (by omega) (by omega) (by omega) (by omega) hI hLS hS (lv_sub hl [1, 2, 3, 4, 0] rfl)
      refine lv_aload_n hx hb dL_law_32 rfl (lv_at hl 0 rfl) ?_
      refine lv_iload hx hb dL_law_33 (lv_at hl 4 rfl) ?_
      refine k_sld hx hb hX0 hbl hbA hS (k := i) (v := xs i) (by omega) (by omega) rfl dL_law_35 ?_
      refine lv_bipush (v := nI 15) hx hb dL_law_36 (by decide) ?_
      refine lv_iand hx hb dL_law_38 ?_
      obtain ⟨t, ht, et⟩ := and15 (xs i)
      refine k_t1 et ?_
      have hcase : t = 0 ∨ t = 1 ∨ t = 2 ∨ t = 3 ∨ t = 4 ∨ t = 5 ∨ t = 6 ∨ t = 7 ∨ t = 8 ∨ t = 9 ∨ t = 10 ∨ t = 11 ∨ t = 12 ∨ t = 13 ∨ t = 14 ∨ t = 15 := by omega
      rcases hcase with rfl | rfl | rfl | rfl | rfl | rfl | rfl | rfl | rfl | rfl | rfl | rfl | rfl | rfl | rfl | rfl
      · refine lv_tableIn (off := 69) (tgt := 108) hx hb dL_law_39 (by decide) (by decide) (by decide) (by decide) ?_
        exact st_start hlS hC hi hL2 (by omega) hrm hl hS hI hLS rfl rfl kk
      · refine lv_tableIn (off := 104) (tgt := 143) hx hb dL_law_39 (by decide) (by decide) (by decide) (by decide) ?_
        exact st_create hlS hC hi hL2 (by omega) hrm hl hS hI hLS rfl rfl kk
      · refine lv_tableIn (off := 161) (tgt := 200) hx hb dL_law_39 (by decide) (by decide) (by decide) (by decide) ?_
        exact st_find hlS hC hi hL2 (by omega) hrm hl hS hI hLS rfl rfl kk
      · refine lv_tableIn (off := 218) (tgt := 257) hx hb dL_law_39 (by decide) (by decide) (by decide) (by decide) ?_
        exact st_remove hlS hC hi hL2 (by omega) hrm hl hS hI hLS rfl kk
      · refine lv_tableIn (off := 243) (tgt := 282) hx hb dL_law_39 (by decide) (by decide) (by decide) (by decide) ?_
        exact st_size hlS hC hi hL2 (by omega) hrm hl hS hI hLS rfl kk
      · refine lv_tableIn (off := 268) (tgt := 307) hx hb dL_law_39 (by decide) (by decide) (by decide) (by decide) ?_
        exact st_write hlS hC hi hL2 (by omega) hrm hl hS hI hLS rfl rfl rfl kk
      · refine lv_tableIn (off := 328) (tgt := 367) hx hb dL_law_39 (by decide) (by decide) (by decide) (by decide) ?_
        exact st_read hlS hC hi hL2 (by omega) hrm hl hS hI hLS rfl rfl kk
      · refine lv_tableIn (off := 396) (tgt := 435) hx hb dL_law_39 (by decide) (by decide) (by decide) (by decide) ?_
        exact st_idle hlS hC hi hL2 (by omega) hrm hl hS hI hLS  kk
      · refine lv_tableIn (off := 420) (tgt := 459) hx hb dL_law_39 (by decide) (by decide) (by decide) (by decide) ?_
        exact st_sealed hlS hC hi hL2 (by omega) hrm hl hS hI hLS rfl rfl rfl kk
      · refine lv_tableIn (off := 500) (tgt := 539) hx hb dL_law_39 (by decide) (by decide) (by decide) (by decide) ?_
        exact st_alter hlS hC hi hL2 (by omega) hrm hl hS hI hLS rfl rfl rfl rfl kk
      · refine lv_tableIn (off := 561) (tgt := 600) hx hb dL_law_39 (by decide) (by decide) (by decide) (by decide) ?_
        exact st_counter hlS hC hi hL2 (by omega) hrm hl hS hI hLS rfl rfl kk
      · refine lv_tableIn (off := 598) (tgt := 637) hx hb dL_law_39 (by decide) (by decide) (by decide) (by decide) ?_
        exact st_trace hlS hC hi hL2 (by omega) hrm hl hS hI hLS rfl rfl kk
      · refine lv_tableIn (off := 635) (tgt := 674) hx hb dL_law_39 (by decide) (by decide) (by decide) (by decide) ?_
        exact st_stash hlS hC hi hL2 (by omega) hrm hl hS hI hLS rfl kk
      · refine lv_tableIn (off := 660) (tgt := 699) hx hb dL_law_39 (by decide) (by decide) (by decide) (by decide) ?_
        exact st_state hlS hC hi hL2 (by omega) hrm hl hS hI hLS rfl kk
      · refine lv_tableOut (tgt := 724) hx hb dL_law_39 (by decide) (by decide) ?_
        obtain ⟨thr, G, G', ky, DE, cn, got, S0, C0, O0, L0, W0, S1, C1, O1, L1, W1, MP, PL, ML, DL, TH, NM, SZ, PT, TK, rfl, rfl, hG, hv0, hl0, hv1, hl1, hMP, hB, hcn⟩ := hI
        exact kk cells slots _ _ fo H locs ls (by omega) (by omega) (ix ⟨hG, hv0, hl0, hv1, hl1, hMP, hB, by omega⟩) hLS hS hl
      · refine lv_tableOut (tgt := 724) hx hb dL_law_39 (by decide) (by decide) ?_
        obtain ⟨thr, G, G', ky, DE, cn, got, S0, C0, O0, L0, W0, S1, C1, O1, L1, W1, MP, PL, ML, DL, TH, NM, SZ, PT, TK, rfl, rfl, hG, hv0, hl0, hv1, hl1, hMP, hB, hcn⟩ := hI
        exact kk cells slots _ _ fo H locs ls (by omega) (by omega) (ix ⟨hG, hv0, hl0, hv1, hl1, hMP, hB, by omega⟩) hLS hS hl

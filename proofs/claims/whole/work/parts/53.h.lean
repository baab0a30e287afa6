/-! the four helpers, each case -/
set_option maxHeartbeats 800000 in
theorem h_write_IO (l : Launch) (D : va_G) (cI cZ cJ : ClassId) {vf : Nat} {a b v : Int32} {fs : List Value} {fr lo : Nat} {wc wx : va_W} (he : wc[0]? = some (vf, .inr (4, fs))) (hfr : fr ≤ 6) (hlo : lo ≤ 119) (hM : KT l yX4_write wsX4_write ({ frames := fr, cells := 1, slots := 6, locals := lo }) D (kty cI cZ cJ) (.ref vf :: [.int a, .int b, .int v]) wc eIO wx) :
    KX l yL_write wsL_write ({ frames := 7, cells := 1, slots := 6, locals := 150 }) D (kty cI cZ cJ) [.ref vf, .int a, .int b, .int v] wc (fun r (_ : Unit) => r = 1) (fun _ : Unit => wx) 1 6 := by
  refine k_headX (cc := cL_write) (maxL := 5) (ret := some .int) (by decide) rfl (Nat.le_of_ble_eq_true rfl) ?_
  intro p e s m below meth c A ls args Q hx hb hr hml hts hown hlk hA hK hP hD hS hl htab hC hQ
  have hl : lv_has ls 5 [(0, .ref vf), (1, .int a), (2, .int b), (3, .int v)] := hl
  refine lv_aload_n hx hb dL_write_0 rfl (lv_at hl 0 rfl) ?_
  refine lv_iload_n hx hb dL_write_1 rfl (lv_at hl 1 rfl) ?_
  refine lv_iload_n hx hb dL_write_2 rfl (lv_at hl 2 rfl) ?_
  refine lv_iload_n hx hb dL_write_3 rfl (lv_at hl 3 rfl) ?_
  refine k_vtH (As := [.int a, .int b, .int v]) (rest := []) ⟨hx, hb, hml, hown, hts⟩ hM (cwV 3 hts gL_write_X4_write rfl rfl rfl (by decide +kernel) ⟨by show fr + 1 ≤ 7; omega, by show 8 + (6 + 11) + lo ≤ 150; omega⟩) hP hD hK hS hA hC (ci := 4) (q0 := 0) rfl rfl he rfl hl.1 rfl (Nat.le_of_ble_eq_true rfl) dL_write_4 ⟨Nat.le_of_ble_eq_true rfl, Nat.le_of_ble_eq_true rfl⟩ (fun ce q9 H1 locs1 b1 b3 hk1 hS1 hce hcv hcl => ?_)
  have hP := b1
  have hD := b3.weaken (fun _ q _ h => k_allF (D := D) hD hS hA q.1 h)
  refine kx_catch (own := RL) (name := eIO) (E := eIO) hown [] (⟨0, 7, 10, 13⟩ : ExceptionTableEntry) [(⟨0, 7, 14, 15⟩ : ExceptionTableEntry)] htab (fun z hz => nomatch hz) (by decide) (by decide) (hts (.classLink RL 13 eIO) (by decide +kernel)) (va_Nw.use rfl hC.2.2.1.1) hce hcv hcl ?_
  refine lv_astore (lv' := [(4, .ref q9), (0, .ref vf), (1, .int a), (2, .int b), (3, .int v)]) hx hb dL_write_10 hl (by decide) rfl (fun ls hl => ?_)
  refine lv_iconst (v := 1) hx hb dL_write_12 (by decide) ?_
  exact k_reti (u := ()) hx hb hr hK hS1 hlk dL_write_13 hP hD rfl hQ
set_option maxHeartbeats 800000 in
theorem h_write_IS (l : Launch) (D : va_G) (cI cZ cJ : ClassId) {vf : Nat} {a b v : Int32} {fs : List Value} {fr lo : Nat} {wc wx : va_W} (he : wc[0]? = some (vf, .inr (4, fs))) (hfr : fr ≤ 6) (hlo : lo ≤ 119) (hM : KT l yX4_write wsX4_write ({ frames := fr, cells := 1, slots := 6, locals := lo }) D (kty cI cZ cJ) (.ref vf :: [.int a, .int b, .int v]) wc eIS wx) :
    KX l yL_write wsL_write ({ frames := 7, cells := 1, slots := 6, locals := 150 }) D (kty cI cZ cJ) [.ref vf, .int a, .int b, .int v] wc (fun r (_ : Unit) => r = 2) (fun _ : Unit => wx) 1 6 := by
  refine k_headX (cc := cL_write) (maxL := 5) (ret := some .int) (by decide) rfl (Nat.le_of_ble_eq_true rfl) ?_
  intro p e s m below meth c A ls args Q hx hb hr hml hts hown hlk hA hK hP hD hS hl htab hC hQ
  have hl : lv_has ls 5 [(0, .ref vf), (1, .int a), (2, .int b), (3, .int v)] := hl
  refine lv_aload_n hx hb dL_write_0 rfl (lv_at hl 0 rfl) ?_
  refine lv_iload_n hx hb dL_write_1 rfl (lv_at hl 1 rfl) ?_
  refine lv_iload_n hx hb dL_write_2 rfl (lv_at hl 2 rfl) ?_
  refine lv_iload_n hx hb dL_write_3 rfl (lv_at hl 3 rfl) ?_
  refine k_vtH (As := [.int a, .int b, .int v]) (rest := []) ⟨hx, hb, hml, hown, hts⟩ hM (cwV 3 hts gL_write_X4_write rfl rfl rfl (by decide +kernel) ⟨by show fr + 1 ≤ 7; omega, by show 8 + (6 + 11) + lo ≤ 150; omega⟩) hP hD hK hS hA hC (ci := 4) (q0 := 0) rfl rfl he rfl hl.1 rfl (Nat.le_of_ble_eq_true rfl) dL_write_4 ⟨Nat.le_of_ble_eq_true rfl, Nat.le_of_ble_eq_true rfl⟩ (fun ce q9 H1 locs1 b1 b3 hk1 hS1 hce hcv hcl => ?_)
  have hP := b1
  have hD := b3.weaken (fun _ q _ h => k_allF (D := D) hD hS hA q.1 h)
  refine kx_catch (own := RL) (name := eIS) (E := eIS) hown [(⟨0, 7, 10, 13⟩ : ExceptionTableEntry)] (⟨0, 7, 14, 15⟩ : ExceptionTableEntry) [] htab (fun z hz => by rcases List.mem_singleton.mp hz with rfl; exact Or.inr ⟨by decide, eIO, hts (.classLink RL 13 eIO) (by decide +kernel), hC.2.2.1.2.2⟩) (by decide) (by decide) (hts (.classLink RL 15 eIS) (by decide +kernel)) (va_Nw.use rfl hC.2.2.1.2.1) hce hcv hcl ?_
  refine lv_astore (lv' := [(4, .ref q9), (0, .ref vf), (1, .int a), (2, .int b), (3, .int v)]) hx hb dL_write_14 hl (by decide) rfl (fun ls hl => ?_)
  refine lv_iconst (v := 2) hx hb dL_write_16 (by decide) ?_
  exact k_reti (u := ()) hx hb hr hK hS1 hlk dL_write_17 hP hD rfl hQ
set_option maxHeartbeats 800000 in
theorem h_write_ok (l : Launch) (D : va_G) (cI cZ cJ : ClassId) {vf : Nat} {a b v : Int32} {fs : List Value} {fr lo : Nat} {wc wx : va_W} (he : wc[0]? = some (vf, .inr (4, fs))) (hfr : fr ≤ 6) (hlo : lo ≤ 119) (hM : KV l yX4_write wsX4_write ({ frames := fr, cells := 0, slots := 0, locals := lo }) D (kty cI cZ cJ) (.ref vf :: [.int a, .int b, .int v]) wc (fun _ : Unit => True) (fun _ : Unit => wx) 0 0) :
    KX l yL_write wsL_write ({ frames := 7, cells := 0, slots := 0, locals := 150 }) D (kty cI cZ cJ) [.ref vf, .int a, .int b, .int v] wc (fun r (_ : Unit) => r = 0) (fun _ : Unit => wx) 0 0 := by
  refine k_headX (cc := cL_write) (maxL := 5) (ret := some .int) (by decide) rfl (Nat.le_of_ble_eq_true rfl) ?_
  intro p e s m below meth c A ls args Q hx hb hr hml hts hown hlk hA hK hP hD hS hl htab hC hQ
  have hl : lv_has ls 5 [(0, .ref vf), (1, .int a), (2, .int b), (3, .int v)] := hl
  refine lv_aload_n hx hb dL_write_0 rfl (lv_at hl 0 rfl) ?_
  refine lv_iload_n hx hb dL_write_1 rfl (lv_at hl 1 rfl) ?_
  refine lv_iload_n hx hb dL_write_2 rfl (lv_at hl 2 rfl) ?_
  refine lv_iload_n hx hb dL_write_3 rfl (lv_at hl 3 rfl) ?_
  refine k_vvH (As := [.int a, .int b, .int v]) (rest := []) ⟨hx, hb, hml, hown, hts⟩ hM (cwV 3 hts gL_write_X4_write rfl rfl rfl (by decide +kernel) ⟨by show fr + 1 ≤ 7; omega, by show 8 + (6 + 11) + lo ≤ 150; omega⟩) hP hD hK hS hA (ci := 4) (q0 := 0) rfl rfl he rfl hl.1 rfl (Nat.le_of_ble_eq_true rfl) dL_write_4 ⟨Nat.le_of_ble_eq_true rfl, Nat.le_of_ble_eq_true rfl⟩ (fun u H locs hu hP hD hS => ?_)
  refine lv_goto (tgt := 18) hx hb dL_write_7 (by decide) ?_
  refine lv_iconst (v := 0) hx hb dL_write_18 (by decide) ?_
  exact k_reti (u := ()) hx hb hr hK hS hlk dL_write_19 hP hD rfl hQ
set_option maxHeartbeats 800000 in
theorem h_read_IO (l : Launch) (D : va_G) (cI cZ cJ : ClassId) {vf : Nat} {a b : Int32} {ou : Nat} {fo : Nat → Int64} {fs : List Value} {fr lo : Nat} {wc wx : va_W} (he : wc[0]? = some (vf, .inr (4, fs))) (hfr : fr ≤ 6) (hlo : lo ≤ 119) (hM : KT l yX4_read wsX4_read ({ frames := fr, cells := 1, slots := 6, locals := lo }) D (kty cI cZ cJ) (.ref vf :: [.int a, .int b]) wc eIO wx) :
    KX l yL_read wsL_read ({ frames := 7, cells := 1, slots := 6, locals := 150 }) D (kty cI cZ cJ) [.ref vf, .int a, .int b, .ref ou] ((ou, .inl (cJ, 1, .inr (.inl fo))) :: wc) (fun r (_ : Unit) => r = 1) (fun _ : Unit => ((ou, .inl (cJ, 1, .inr (.inl fo))) :: wx)) 1 6 := by
  refine k_headX (cc := cL_read) (maxL := 5) (ret := some .int) (by decide) rfl (Nat.le_of_ble_eq_true rfl) ?_
  intro p e s m below meth c A ls args Q hx hb hr hml hts hown hlk hA hK hP hD hS hl htab hC hQ
  have hl : lv_has ls 5 [(0, .ref vf), (1, .int a), (2, .int b), (3, .ref ou)] := hl
  refine lv_aload_n hx hb dL_read_0 rfl (lv_at hl 3 rfl) ?_
  refine lv_iconst (v := nI 0) hx hb dL_read_1 (by decide) ?_
  refine lv_aload_n hx hb dL_read_2 rfl (lv_at hl 0 rfl) ?_
  refine lv_iload_n hx hb dL_read_3 rfl (lv_at hl 1 rfl) ?_
  refine lv_iload_n hx hb dL_read_4 rfl (lv_at hl 2 rfl) ?_
  refine k_vtH (As := [.int a, .int b]) (rest := [.int (nI 0), .ref ou]) ⟨hx, hb, hml, hown, hts⟩ hM (cwV 2 hts gL_read_X4_read rfl rfl rfl (by decide +kernel) ⟨by show fr + 1 ≤ 7; omega, by show 8 + (6 + 11) + lo ≤ 150; omega⟩) (k_tlP hP) (k_tlD hD) hK hS hA hC (ci := 4) (q0 := 0) rfl rfl he rfl hl.1 rfl (Nat.le_of_ble_eq_true rfl) dL_read_5 ⟨Nat.le_of_ble_eq_true rfl, Nat.le_of_ble_eq_true rfl⟩ (fun ce q9 H1 locs1 b1 b3 hk1 hS1 hce hcv hcl => ?_)
  obtain ⟨hP, hD⟩ := k_pre hP hD (k_allF (D := D) (k_tlD hD) hS hA) hk1 b1 b3
  refine kx_catch (own := RL) (name := eIO) (E := eIO) hown [] (⟨0, 10, 13, 13⟩ : ExceptionTableEntry) [(⟨0, 10, 17, 15⟩ : ExceptionTableEntry)] htab (fun z hz => nomatch hz) (by decide) (by decide) (hts (.classLink RL 13 eIO) (by decide +kernel)) (va_Nw.use rfl hC.2.2.1.1) hce hcv hcl ?_
  refine lv_astore (lv' := [(4, .ref q9), (0, .ref vf), (1, .int a), (2, .int b), (3, .ref ou)]) hx hb dL_read_13 hl (by decide) rfl (fun ls hl => ?_)
  refine lv_iconst (v := 1) hx hb dL_read_15 (by decide) ?_
  exact k_reti (u := ()) hx hb hr hK hS1 hlk dL_read_16 hP hD rfl hQ
set_option maxHeartbeats 800000 in
theorem h_read_IS (l : Launch) (D : va_G) (cI cZ cJ : ClassId) {vf : Nat} {a b : Int32} {ou : Nat} {fo : Nat → Int64} {fs : List Value} {fr lo : Nat} {wc wx : va_W} (he : wc[0]? = some (vf, .inr (4, fs))) (hfr : fr ≤ 6) (hlo : lo ≤ 119) (hM : KT l yX4_read wsX4_read ({ frames := fr, cells := 1, slots := 6, locals := lo }) D (kty cI cZ cJ) (.ref vf :: [.int a, .int b]) wc eIS wx) :
    KX l yL_read wsL_read ({ frames := 7, cells := 1, slots := 6, locals := 150 }) D (kty cI cZ cJ) [.ref vf, .int a, .int b, .ref ou] ((ou, .inl (cJ, 1, .inr (.inl fo))) :: wc) (fun r (_ : Unit) => r = 2) (fun _ : Unit => ((ou, .inl (cJ, 1, .inr (.inl fo))) :: wx)) 1 6 := by
  refine k_headX (cc := cL_read) (maxL := 5) (ret := some .int) (by decide) rfl (Nat.le_of_ble_eq_true rfl) ?_
  intro p e s m below meth c A ls args Q hx hb hr hml hts hown hlk hA hK hP hD hS hl htab hC hQ
  have hl : lv_has ls 5 [(0, .ref vf), (1, .int a), (2, .int b), (3, .ref ou)] := hl
  refine lv_aload_n hx hb dL_read_0 rfl (lv_at hl 3 rfl) ?_
  refine lv_iconst (v := nI 0) hx hb dL_read_1 (by decide) ?_
  refine lv_aload_n hx hb dL_read_2 rfl (lv_at hl 0 rfl) ?_
  refine lv_iload_n hx hb dL_read_3 rfl (lv_at hl 1 rfl) ?_
  refine lv_iload_n hx hb dL_read_4 rfl (lv_at hl 2 rfl) ?_
  refine k_vtH (As := [.int a, .int b]) (rest := [.int (nI 0), .ref ou]) ⟨hx, hb, hml, hown, hts⟩ hM (cwV 2 hts gL_read_X4_read rfl rfl rfl (by decide +kernel) ⟨by show fr + 1 ≤ 7; omega, by show 8 + (6 + 11) + lo ≤ 150; omega⟩) (k_tlP hP) (k_tlD hD) hK hS hA hC (ci := 4) (q0 := 0) rfl rfl he rfl hl.1 rfl (Nat.le_of_ble_eq_true rfl) dL_read_5 ⟨Nat.le_of_ble_eq_true rfl, Nat.le_of_ble_eq_true rfl⟩ (fun ce q9 H1 locs1 b1 b3 hk1 hS1 hce hcv hcl => ?_)
  obtain ⟨hP, hD⟩ := k_pre hP hD (k_allF (D := D) (k_tlD hD) hS hA) hk1 b1 b3
  refine kx_catch (own := RL) (name := eIS) (E := eIS) hown [(⟨0, 10, 13, 13⟩ : ExceptionTableEntry)] (⟨0, 10, 17, 15⟩ : ExceptionTableEntry) [] htab (fun z hz => by rcases List.mem_singleton.mp hz with rfl; exact Or.inr ⟨by decide, eIO, hts (.classLink RL 13 eIO) (by decide +kernel), hC.2.2.1.2.2⟩) (by decide) (by decide) (hts (.classLink RL 15 eIS) (by decide +kernel)) (va_Nw.use rfl hC.2.2.1.2.1) hce hcv hcl ?_
  refine lv_astore (lv' := [(4, .ref q9), (0, .ref vf), (1, .int a), (2, .int b), (3, .ref ou)]) hx hb dL_read_17 hl (by decide) rfl (fun ls hl => ?_)
  refine lv_iconst (v := 2) hx hb dL_read_19 (by decide) ?_
  exact k_reti (u := ()) hx hb hr hK hS1 hlk dL_read_20 hP hD rfl hQ
set_option maxHeartbeats 800000 in
theorem h_read_ok (l : Launch) (D : va_G) (cI cZ cJ : ClassId) {vf : Nat} {a b : Int32} {ou : Nat} {fo : Nat → Int64} {fs : List Value} {fr lo : Nat} {wc wx : va_W} {x0 : Int32} (he : wc[0]? = some (vf, .inr (4, fs))) (hfr : fr ≤ 6) (hlo : lo ≤ 119) (hM : KI l yX4_read wsX4_read ({ frames := fr, cells := 0, slots := 0, locals := lo }) D (kty cI cZ cJ) (.ref vf :: [.int a, .int b]) wc (fun r (_ : Unit) => r = x0) (fun _ : Unit => wx) 0 0) :
    KX l yL_read wsL_read ({ frames := 7, cells := 0, slots := 0, locals := 150 }) D (kty cI cZ cJ) [.ref vf, .int a, .int b, .ref ou] ((ou, .inl (cJ, 1, .inr (.inl fo))) :: wc) (fun r (_ : Unit) => r = 0) (fun _ : Unit => ((ou, .inl (cJ, 1, .inr (.inl (vp_updL fo 0 x0.toInt64)))) :: wx)) 0 0 := by
  refine k_headX (cc := cL_read) (maxL := 5) (ret := some .int) (by decide) rfl (Nat.le_of_ble_eq_true rfl) ?_
  intro p e s m below meth c A ls args Q hx hb hr hml hts hown hlk hA hK hP hD hS hl htab hC hQ
  have hl : lv_has ls 5 [(0, .ref vf), (1, .int a), (2, .int b), (3, .ref ou)] := hl
  refine lv_aload_n hx hb dL_read_0 rfl (lv_at hl 3 rfl) ?_
  refine lv_iconst (v := nI 0) hx hb dL_read_1 (by decide) ?_
  refine lv_aload_n hx hb dL_read_2 rfl (lv_at hl 0 rfl) ?_
  refine lv_iload_n hx hb dL_read_3 rfl (lv_at hl 1 rfl) ?_
  refine lv_iload_n hx hb dL_read_4 rfl (lv_at hl 2 rfl) ?_
  refine k_viH (As := [.int a, .int b]) (rest := [.int (nI 0), .ref ou]) ⟨hx, hb, hml, hown, hts⟩ hM (cwV 2 hts gL_read_X4_read rfl rfl rfl (by decide +kernel) ⟨by show fr + 1 ≤ 7; omega, by show 8 + (6 + 11) + lo ≤ 150; omega⟩) hP hD hK hS hA (ci := 4) (q0 := 0) rfl rfl he rfl hl.1 rfl (Nat.le_of_ble_eq_true rfl) dL_read_5 ⟨Nat.le_of_ble_eq_true rfl, Nat.le_of_ble_eq_true rfl⟩ (fun r u H locs hu hP hD hS => ?_)
  refine k_t1 (show r = x0 from hu) ?_
  refine lv_i2l (v := x0.toInt64) hx hb dL_read_8 rfl ?_
  refine k_last hx hb hK hP hD hS 0 2 rfl rfl 0 (by decide) (by decide) (g := vp_updL fo 0 x0.toInt64) rfl dL_read_9 (fun H locs hP hD hS => ?_)
  have hP : va_P D vwCl ((ou, .inl (cJ, 1, .inr (.inl (vp_updL fo 0 x0.toInt64)))) :: wx) _ := hP
  have hD : va_D A ((ou, .inl (cJ, 1, .inr (.inl (vp_updL fo 0 x0.toInt64)))) :: wx) := hD
  refine lv_goto (tgt := 21) hx hb dL_read_10 (by decide) ?_
  refine lv_iconst (v := 0) hx hb dL_read_21 (by decide) ?_
  exact k_reti (u := ()) hx hb hr hK hS hlk dL_read_22 hP hD rfl hQ
set_option maxHeartbeats 800000 in
theorem h_idle_IS (l : Launch) (D : va_G) (cI cZ cJ : ClassId) {vf : Nat} {fs : List Value} {fr lo : Nat} {wc wx : va_W} (he : wc[0]? = some (vf, .inr (4, fs))) (hfr : fr ≤ 6) (hlo : lo ≤ 119) (hM : KT l yX4_idle wsX4_idle ({ frames := fr, cells := 1, slots := 6, locals := lo }) D (kty cI cZ cJ) (.ref vf :: []) wc eIS wx) :
    KX l yL_idle wsL_idle ({ frames := 7, cells := 1, slots := 6, locals := 150 }) D (kty cI cZ cJ) [.ref vf] wc (fun r (_ : Unit) => r = 1) (fun _ : Unit => wx) 1 6 := by
  refine k_headX (cc := cL_idle) (maxL := 2) (ret := some .int) (by decide) rfl (Nat.le_of_ble_eq_true rfl) ?_
  intro p e s m below meth c A ls args Q hx hb hr hml hts hown hlk hA hK hP hD hS hl htab hC hQ
  have hl : lv_has ls 2 [(0, .ref vf)] := hl
  refine lv_aload_n hx hb dL_idle_0 rfl (lv_at hl 0 rfl) ?_
  refine k_vtH (As := []) (rest := []) ⟨hx, hb, hml, hown, hts⟩ hM (cwV 0 hts gL_idle_X4_idle rfl rfl rfl (by decide +kernel) ⟨by show fr + 1 ≤ 7; omega, by show 8 + (2 + 11) + lo ≤ 150; omega⟩) hP hD hK hS hA hC (ci := 4) (q0 := 0) rfl rfl he rfl hl.1 rfl (Nat.le_of_ble_eq_true rfl) dL_idle_1 ⟨Nat.le_of_ble_eq_true rfl, Nat.le_of_ble_eq_true rfl⟩ (fun ce q9 H1 locs1 b1 b3 hk1 hS1 hce hcv hcl => ?_)
  have hP := b1
  have hD := b3.weaken (fun _ q _ h => k_allF (D := D) hD hS hA q.1 h)
  refine kx_catch (own := RL) (name := eIS) (E := eIS) hown [] (⟨0, 4, 7, 15⟩ : ExceptionTableEntry) [] htab (fun z hz => nomatch hz) (by decide) (by decide) (hts (.classLink RL 15 eIS) (by decide +kernel)) (va_Nw.use rfl hC.2.2.1.2.1) hce hcv hcl ?_
  refine lv_astore_n (lv' := [(1, .ref q9), (0, .ref vf)]) hx hb dL_idle_7 rfl hl (by decide) rfl (fun ls hl => ?_)
  refine lv_iconst (v := 1) hx hb dL_idle_8 (by decide) ?_
  exact k_reti (u := ()) hx hb hr hK hS1 hlk dL_idle_9 hP hD rfl hQ
set_option maxHeartbeats 800000 in
theorem h_idle_ok (l : Launch) (D : va_G) (cI cZ cJ : ClassId) {vf : Nat} {fs : List Value} {fr lo : Nat} {wc wx : va_W} (he : wc[0]? = some (vf, .inr (4, fs))) (hfr : fr ≤ 6) (hlo : lo ≤ 119) (hM : KV l yX4_idle wsX4_idle ({ frames := fr, cells := 0, slots := 0, locals := lo }) D (kty cI cZ cJ) (.ref vf :: []) wc (fun _ : Unit => True) (fun _ : Unit => wx) 0 0) :
    KX l yL_idle wsL_idle ({ frames := 7, cells := 0, slots := 0, locals := 150 }) D (kty cI cZ cJ) [.ref vf] wc (fun r (_ : Unit) => r = 0) (fun _ : Unit => wx) 0 0 := by
  refine k_headX (cc := cL_idle) (maxL := 2) (ret := some .int) (by decide) rfl (Nat.le_of_ble_eq_true rfl) ?_
  intro p e s m below meth c A ls args Q hx hb hr hml hts hown hlk hA hK hP hD hS hl htab hC hQ
  have hl : lv_has ls 2 [(0, .ref vf)] := hl
  refine lv_aload_n hx hb dL_idle_0 rfl (lv_at hl 0 rfl) ?_
  refine k_vvH (As := []) (rest := []) ⟨hx, hb, hml, hown, hts⟩ hM (cwV 0 hts gL_idle_X4_idle rfl rfl rfl (by decide +kernel) ⟨by show fr + 1 ≤ 7; omega, by show 8 + (2 + 11) + lo ≤ 150; omega⟩) hP hD hK hS hA (ci := 4) (q0 := 0) rfl rfl he rfl hl.1 rfl (Nat.le_of_ble_eq_true rfl) dL_idle_1 ⟨Nat.le_of_ble_eq_true rfl, Nat.le_of_ble_eq_true rfl⟩ (fun u H locs hu hP hD hS => ?_)
  refine lv_goto (tgt := 10) hx hb dL_idle_4 (by decide) ?_
  refine lv_iconst (v := 0) hx hb dL_idle_10 (by decide) ?_
  exact k_reti (u := ()) hx hb hr hK hS hlk dL_idle_11 hP hD rfl hQ
set_option maxHeartbeats 800000 in
theorem h_sealed_IO (l : Launch) (D : va_G) (cI cZ cJ : ClassId) {vf : Nat} {a b v : Int32} {ou : Nat} {fo : Nat → Int64} {fs : List Value} {fr lo : Nat} {wc wx : va_W} (he : wc[0]? = some (vf, .inr (4, fs))) (hfr : fr ≤ 6) (hlo : lo ≤ 119) (hM : KT l yX4_sealed wsX4_sealed ({ frames := fr, cells := 1, slots := 6, locals := lo }) D (kty cI cZ cJ) (.ref vf :: [.int a, .int b, .int v]) wc eIO wx) :
    KX l yL_sealed wsL_sealed ({ frames := 7, cells := 1, slots := 6, locals := 150 }) D (kty cI cZ cJ) [.ref vf, .int a, .int b, .int v, .ref ou] ((ou, .inl (cJ, 1, .inr (.inl fo))) :: wc) (fun r (_ : Unit) => r = 1) (fun _ : Unit => ((ou, .inl (cJ, 1, .inr (.inl fo))) :: wx)) 1 6 := by
  refine k_headX (cc := cL_sealed) (maxL := 6) (ret := some .int) (by decide) rfl (Nat.le_of_ble_eq_true rfl) ?_
  intro p e s m below meth c A ls args Q hx hb hr hml hts hown hlk hA hK hP hD hS hl htab hC hQ
  have hl : lv_has ls 6 [(0, .ref vf), (1, .int a), (2, .int b), (3, .int v), (4, .ref ou)] := hl
  refine lv_aload hx hb dL_sealed_0 (lv_at hl 4 rfl) ?_
  refine lv_iconst (v := nI 0) hx hb dL_sealed_2 (by decide) ?_
  refine lv_aload_n hx hb dL_sealed_3 rfl (lv_at hl 0 rfl) ?_
  refine lv_iload_n hx hb dL_sealed_4 rfl (lv_at hl 1 rfl) ?_
  refine lv_iload_n hx hb dL_sealed_5 rfl (lv_at hl 2 rfl) ?_
  refine lv_iload_n hx hb dL_sealed_6 rfl (lv_at hl 3 rfl) ?_
  refine k_vtH (As := [.int a, .int b, .int v]) (rest := [.int (nI 0), .ref ou]) ⟨hx, hb, hml, hown, hts⟩ hM (cwV 3 hts gL_sealed_X4_sealed rfl rfl rfl (by decide +kernel) ⟨by show fr + 1 ≤ 7; omega, by show 8 + (5 + 11) + lo ≤ 150; omega⟩) (k_tlP hP) (k_tlD hD) hK hS hA hC (ci := 4) (q0 := 0) rfl rfl he rfl hl.1 rfl (Nat.le_of_ble_eq_true rfl) dL_sealed_7 ⟨Nat.le_of_ble_eq_true rfl, Nat.le_of_ble_eq_true rfl⟩ (fun ce q9 H1 locs1 b1 b3 hk1 hS1 hce hcv hcl => ?_)
  obtain ⟨hP, hD⟩ := k_pre hP hD (k_allF (D := D) (k_tlD hD) hS hA) hk1 b1 b3
  refine kx_catch (own := RL) (name := eIO) (E := eIO) hown [] (⟨0, 12, 15, 13⟩ : ExceptionTableEntry) [] htab (fun z hz => nomatch hz) (by decide) (by decide) (hts (.classLink RL 13 eIO) (by decide +kernel)) (va_Nw.use rfl hC.2.2.1.1) hce hcv hcl ?_
  refine lv_astore (lv' := [(5, .ref q9), (0, .ref vf), (1, .int a), (2, .int b), (3, .int v), (4, .ref ou)]) hx hb dL_sealed_15 hl (by decide) rfl (fun ls hl => ?_)
  refine lv_iconst (v := 1) hx hb dL_sealed_17 (by decide) ?_
  exact k_reti (u := ()) hx hb hr hK hS1 hlk dL_sealed_18 hP hD rfl hQ
set_option maxHeartbeats 800000 in
theorem h_sealed_ok (l : Launch) (D : va_G) (cI cZ cJ : ClassId) {vf : Nat} {a b v : Int32} {ou : Nat} {fo : Nat → Int64} {fs : List Value} {fr lo : Nat} {wc wx : va_W} {x0 : Int32} (he : wc[0]? = some (vf, .inr (4, fs))) (hfr : fr ≤ 6) (hlo : lo ≤ 119) (hM : KI l yX4_sealed wsX4_sealed ({ frames := fr, cells := 0, slots := 0, locals := lo }) D (kty cI cZ cJ) (.ref vf :: [.int a, .int b, .int v]) wc (fun r (_ : Unit) => r = x0) (fun _ : Unit => wx) 0 0) :
    KX l yL_sealed wsL_sealed ({ frames := 7, cells := 0, slots := 0, locals := 150 }) D (kty cI cZ cJ) [.ref vf, .int a, .int b, .int v, .ref ou] ((ou, .inl (cJ, 1, .inr (.inl fo))) :: wc) (fun r (_ : Unit) => r = 0) (fun _ : Unit => ((ou, .inl (cJ, 1, .inr (.inl (vp_updL fo 0 x0.toInt64)))) :: wx)) 0 0 := by
  refine k_headX (cc := cL_sealed) (maxL := 6) (ret := some .int) (by decide) rfl (Nat.le_of_ble_eq_true rfl) ?_
  intro p e s m below meth c A ls args Q hx hb hr hml hts hown hlk hA hK hP hD hS hl htab hC hQ
  have hl : lv_has ls 6 [(0, .ref vf), (1, .int a), (2, .int b), (3, .int v), (4, .ref ou)] := hl
  refine lv_aload hx hb dL_sealed_0 (lv_at hl 4 rfl) ?_
  refine lv_iconst (v := nI 0) hx hb dL_sealed_2 (by decide) ?_
  refine lv_aload_n hx hb dL_sealed_3 rfl (lv_at hl 0 rfl) ?_
  refine lv_iload_n hx hb dL_sealed_4 rfl (lv_at hl 1 rfl) ?_
  refine lv_iload_n hx hb dL_sealed_5 rfl (lv_at hl 2 rfl) ?_
  refine lv_iload_n hx hb dL_sealed_6 rfl (lv_at hl 3 rfl) ?_
  refine k_viH (As := [.int a, .int b, .int v]) (rest := [.int (nI 0), .ref ou]) ⟨hx, hb, hml, hown, hts⟩ hM (cwV 3 hts gL_sealed_X4_sealed rfl rfl rfl (by decide +kernel) ⟨by show fr + 1 ≤ 7; omega, by show 8 + (5 + 11) + lo ≤ 150; omega⟩) hP hD hK hS hA (ci := 4) (q0 := 0) rfl rfl he rfl hl.1 rfl (Nat.le_of_ble_eq_true rfl) dL_sealed_7 ⟨Nat.le_of_ble_eq_true rfl, Nat.le_of_ble_eq_true rfl⟩ (fun r u H locs hu hP hD hS => ?_)
  refine k_t1 (show r = x0 from hu) ?_
  refine lv_i2l (v := x0.toInt64) hx hb dL_sealed_10 rfl ?_
  refine k_last hx hb hK hP hD hS 0 2 rfl rfl 0 (by decide) (by decide) (g := vp_updL fo 0 x0.toInt64) rfl dL_sealed_11 (fun H locs hP hD hS => ?_)
  have hP : va_P D vwCl ((ou, .inl (cJ, 1, .inr (.inl (vp_updL fo 0 x0.toInt64)))) :: wx) _ := hP
  have hD : va_D A ((ou, .inl (cJ, 1, .inr (.inl (vp_updL fo 0 x0.toInt64)))) :: wx) := hD
  refine lv_goto (tgt := 19) hx hb dL_sealed_12 (by decide) ?_
  refine lv_iconst (v := 0) hx hb dL_sealed_19 (by decide) ?_
  exact k_reti (u := ()) hx hb hr hK hS hlk dL_sealed_20 hP hD rfl hQ

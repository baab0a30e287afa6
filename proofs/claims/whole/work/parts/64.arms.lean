/-! the law's arms: one walk each, over any two contracts that agree -/
def lnm (a b : Int32) : Int64 := (a.toInt64 <<< ((nI 32).toInt64 &&& 63)) ||| (b.toInt64 &&& 4294967295)
theorem k_sld {p : Program} {l : Launch} {e : Env} {R : Room} {s : State} {m : MethodId} {args : Array Value} {below : List Frame} {meth : Method} {c : Code} {H : Heap} {locs : List Loc} {cells slots : Nat} {Q : State → Prop} {A : Nat → Prop} {pc : Nat} {ls : Array Slot} {rest : List Value} {cc : ByteArray} {b L : Nat} {xs : Nat → Int32}
    (hexec : p.tables.exec = Jvm.exec) (hb : c.code = cc) (hX : va_X b L xs s s.heap) (hbl : b < s.heap.size) (hbA : ¬ A b) (hS : va_S A s.heap H locs) {k : Nat} (hk : k < L) (hn : L < 2147483648) {v : Int32} (hv : xs k = v) (hdg : decode cc pc = .ok (.iaload, 1))
    (kk : W p l e R s m args below meth c H locs cells slots Q (F0 m (pc + 1) ls (.int v :: rest))) : W p l e R s m args below meth c H locs cells slots Q (F0 m pc ls (.int (nI k) :: .ref b :: rest)) := by
  refine va_sld hexec hb hX hbl hbA hS (vp_in_nI hk hn) hdg ?_
  rw [nI_clamp (by omega), hv]; exact kk

set_option maxHeartbeats 800000 in
theorem arm_create {p : Program} {l : Launch} {e : Env} {s : State} {m : MethodId} {args : Array Value} {below : List Frame} {meth : Method} {c : Code} {H : Heap} {locs : List Loc} {cells slots : Nat} {Q : State → Prop} {A : Nat → Prop} {D : va_G} {cI cZ cJ : ClassId} {b L : Nat} {xs : Nat → Int32} {vf mo ou i : Nat} (hC : lC3 p s m args c A D (kty cI cZ cJ) b L xs) (hi : i + 5 ≤ L) (hL2 : L ≤ 2560) (hrm : cells + 1 ≤ room_1.cells ∧ slots + 6 ≤ room_1.slots) {ls : Array Slot} (hl : lv_has ls 7 (lwL b vf mo ou i)) (hS : va_S A s.heap H locs)
    {wx wm wo wx' : va_W} {SM : Type} {wm' : SM → va_W} {fs fm : List Value} (hex : wx[0]? = some (vf, .inr (4, fs))) (hem : wm[0]? = some (mo, .inr (5, fm))) (hLS : lS3 D A wx wm wo H) {a1 : Int32} (ha1 : xs (i + 1) = a1) {a2 : Int32} (ha2 : xs (i + 2) = a2) {f1 l1 f2 l2 : Nat} (hf : f1 ≤ 9 ∧ l1 ≤ 300 ∧ f2 ≤ 9 ∧ l2 ≤ 300) {R0 : Int32}
    (hX : KI l yX4_create wsX4_create ({ frames := f1, cells := 0, slots := 0, locals := l1 }) D (kty cI cZ cJ) [.ref vf, .long (lnm a1 a2)] wx (fun r (_ : Unit) => r = R0) (fun _ : Unit => wx') 0 0)
    (hMo : KI l yX5_create wsX5_create ({ frames := f2, cells := 0, slots := 0, locals := l2 }) D (kty cI cZ cJ) [.ref mo, .long (lnm a1 a2)] wm (fun r (_ : SM) => r = R0) wm' 0 0)
    (kk : ∀ (u : SM) (H : Heap) (locs : List Loc) (ls : Array Slot), lS3 D A wx' (wm' u) wo H → va_S A s.heap H locs → lv_has ls 7 (lwL b vf mo ou i) → W p l e room_1 s m args below meth c H locs cells slots Q (F0 m 724 ls [])) :
    W p l e room_1 s m args below meth c H locs cells slots Q (F0 m 143 ls []) := by
  obtain ⟨⟨hx, hb, hml, hown, hts⟩, hA, hK, hCx, hX0, hbl, hbA⟩ := hC
  obtain ⟨hrm1, hrm2⟩ := hrm
  refine lv_aload_n hx hb dL_law_143 rfl (lv_at hl 1 rfl) ?_
  refine lv_aload_n hx hb dL_law_144 rfl (lv_at hl 0 rfl) ?_
  refine lv_iload hx hb dL_law_145 (lv_at hl 4 rfl) ?_
  refine lv_iconst (v := nI 1) hx hb dL_law_147 (by decide) ?_
  refine lv_iadd hx hb dL_law_148 ?_
  refine k_t1 (show nI i + nI 1 = nI (i + 1) from nI_add _ _) ?_
  refine k_sld hx hb hX0 hbl hbA hS (k := i + 1) (by omega) (by omega) ha1 dL_law_149 ?_
  refine lv_i2l (v := (a1).toInt64) hx hb dL_law_150 rfl ?_
  refine lv_bipush (v := nI 32) hx hb dL_law_151 (by decide) ?_
  refine lv_lshl (v := (a1.toInt64 <<< ((nI 32).toInt64 &&& 63))) hx hb dL_law_153 rfl ?_
  refine lv_aload_n hx hb dL_law_154 rfl (lv_at hl 0 rfl) ?_
  refine lv_iload hx hb dL_law_155 (lv_at hl 4 rfl) ?_
  refine lv_iconst (v := nI 2) hx hb dL_law_157 (by decide) ?_
  refine lv_iadd hx hb dL_law_158 ?_
  refine k_t1 (show nI i + nI 2 = nI (i + 2) from nI_add _ _) ?_
  refine k_sld hx hb hX0 hbl hbA hS (k := i + 2) (by omega) (by omega) ha2 dL_law_159 ?_
  refine lv_i2l (v := (a2).toInt64) hx hb dL_law_160 rfl ?_
  refine lv_ldc2 (own := RL) hx hb hown (hts (.constantLong RL 37 (4294967295)) (List.mem_of_getElem? (i := 7) rfl)) dL_law_161 ?_
  refine lv_land hx hb dL_law_164 ?_
  refine lv_lor hx hb dL_law_165 ?_
  refine kl_xi (As := [.long (lnm a1 a2)]) (rest := []) ⟨hx, hb, hml, hown, hts⟩ hX (cwV 1 hts gL_law_X4_create rfl rfl rfl (by decide +kernel) ⟨by show f1 + 1 ≤ 10; omega, by show 8 + (3 + 11) + l1 ≤ 358; omega⟩) hLS hK hS hA (ci := 4) (q0 := 0) rfl rfl hex rfl hl.1 rfl (Nat.le_of_ble_eq_true rfl) dL_law_166 ⟨by omega, by omega⟩ (fun r u H locs hu hLS hS => ?_)
  refine k_t1 (show r = R0 from hu) ?_
  refine lv_aload_n hx hb dL_law_169 rfl (lv_at hl 2 rfl) ?_
  refine lv_aload_n hx hb dL_law_170 rfl (lv_at hl 0 rfl) ?_
  refine lv_iload hx hb dL_law_171 (lv_at hl 4 rfl) ?_
  refine lv_iconst (v := nI 1) hx hb dL_law_173 (by decide) ?_
  refine lv_iadd hx hb dL_law_174 ?_
  refine k_t1 (show nI i + nI 1 = nI (i + 1) from nI_add _ _) ?_
  refine k_sld hx hb hX0 hbl hbA hS (k := i + 1) (by omega) (by omega) ha1 dL_law_175 ?_
  refine lv_i2l (v := (a1).toInt64) hx hb dL_law_176 rfl ?_
  refine lv_bipush (v := nI 32) hx hb dL_law_177 (by decide) ?_
  refine lv_lshl (v := (a1.toInt64 <<< ((nI 32).toInt64 &&& 63))) hx hb dL_law_179 rfl ?_
  refine lv_aload_n hx hb dL_law_180 rfl (lv_at hl 0 rfl) ?_
  refine lv_iload hx hb dL_law_181 (lv_at hl 4 rfl) ?_
  refine lv_iconst (v := nI 2) hx hb dL_law_183 (by decide) ?_
  refine lv_iadd hx hb dL_law_184 ?_
  refine k_t1 (show nI i + nI 2 = nI (i + 2) from nI_add _ _) ?_
  refine k_sld hx hb hX0 hbl hbA hS (k := i + 2) (by omega) (by omega) ha2 dL_law_185 ?_
  refine lv_i2l (v := (a2).toInt64) hx hb dL_law_186 rfl ?_
  refine lv_ldc2 (own := RL) hx hb hown (hts (.constantLong RL 37 (4294967295)) (List.mem_of_getElem? (i := 7) rfl)) dL_law_187 ?_
  refine lv_land hx hb dL_law_190 ?_
  refine lv_lor hx hb dL_law_191 ?_
  refine kl_mi (As := [.long (lnm a1 a2)]) (rest := [.int R0]) ⟨hx, hb, hml, hown, hts⟩ hMo (cwV 1 hts gL_law_X5_create rfl rfl rfl (by decide +kernel) ⟨by show f2 + 1 ≤ 10; omega, by show 8 + (4 + 11) + l2 ≤ 358; omega⟩) hLS hK hS hA (ci := 5) (q0 := 0) rfl rfl hem rfl hl.1 rfl (Nat.le_of_ble_eq_true rfl) dL_law_192 ⟨by omega, by omega⟩ (fun r u H locs hu hLS hS => ?_)
  refine k_t1 (show r = R0 from hu) ?_
  refine lv_icmp_eq (tgt := 724) hx hb dL_law_195 (by decide) (fun _ => ?_) (fun c9 => absurd rfl c9)
  exact kk u H locs _ hLS hS hl

set_option maxHeartbeats 800000 in
theorem arm_find {p : Program} {l : Launch} {e : Env} {s : State} {m : MethodId} {args : Array Value} {below : List Frame} {meth : Method} {c : Code} {H : Heap} {locs : List Loc} {cells slots : Nat} {Q : State → Prop} {A : Nat → Prop} {D : va_G} {cI cZ cJ : ClassId} {b L : Nat} {xs : Nat → Int32} {vf mo ou i : Nat} (hC : lC3 p s m args c A D (kty cI cZ cJ) b L xs) (hi : i + 5 ≤ L) (hL2 : L ≤ 2560) (hrm : cells + 1 ≤ room_1.cells ∧ slots + 6 ≤ room_1.slots) {ls : Array Slot} (hl : lv_has ls 7 (lwL b vf mo ou i)) (hS : va_S A s.heap H locs)
    {wx wm wo wx' : va_W} {SM : Type} {wm' : SM → va_W} {fs fm : List Value} (hex : wx[0]? = some (vf, .inr (4, fs))) (hem : wm[0]? = some (mo, .inr (5, fm))) (hLS : lS3 D A wx wm wo H) {a1 : Int32} (ha1 : xs (i + 1) = a1) {a2 : Int32} (ha2 : xs (i + 2) = a2) {f1 l1 f2 l2 : Nat} (hf : f1 ≤ 9 ∧ l1 ≤ 300 ∧ f2 ≤ 9 ∧ l2 ≤ 300) {R0 : Int32}
    (hX : KI l yX4_find wsX4_find ({ frames := f1, cells := 0, slots := 0, locals := l1 }) D (kty cI cZ cJ) [.ref vf, .long (lnm a1 a2)] wx (fun r (_ : Unit) => r = R0) (fun _ : Unit => wx') 0 0)
    (hMo : KI l yX5_find wsX5_find ({ frames := f2, cells := 0, slots := 0, locals := l2 }) D (kty cI cZ cJ) [.ref mo, .long (lnm a1 a2)] wm (fun r (_ : SM) => r = R0) wm' 0 0)
    (kk : ∀ (u : SM) (H : Heap) (locs : List Loc) (ls : Array Slot), lS3 D A wx' (wm' u) wo H → va_S A s.heap H locs → lv_has ls 7 (lwL b vf mo ou i) → W p l e room_1 s m args below meth c H locs cells slots Q (F0 m 724 ls [])) :
    W p l e room_1 s m args below meth c H locs cells slots Q (F0 m 200 ls []) := by
  obtain ⟨⟨hx, hb, hml, hown, hts⟩, hA, hK, hCx, hX0, hbl, hbA⟩ := hC
  obtain ⟨hrm1, hrm2⟩ := hrm
  refine lv_aload_n hx hb dL_law_200 rfl (lv_at hl 1 rfl) ?_
  refine lv_aload_n hx hb dL_law_201 rfl (lv_at hl 0 rfl) ?_
  refine lv_iload hx hb dL_law_202 (lv_at hl 4 rfl) ?_
  refine lv_iconst (v := nI 1) hx hb dL_law_204 (by decide) ?_
  refine lv_iadd hx hb dL_law_205 ?_
  refine k_t1 (show nI i + nI 1 = nI (i + 1) from nI_add _ _) ?_
  refine k_sld hx hb hX0 hbl hbA hS (k := i + 1) (by omega) (by omega) ha1 dL_law_206 ?_
  refine lv_i2l (v := (a1).toInt64) hx hb dL_law_207 rfl ?_
  refine lv_bipush (v := nI 32) hx hb dL_law_208 (by decide) ?_
  refine lv_lshl (v := (a1.toInt64 <<< ((nI 32).toInt64 &&& 63))) hx hb dL_law_210 rfl ?_
  refine lv_aload_n hx hb dL_law_211 rfl (lv_at hl 0 rfl) ?_
  refine lv_iload hx hb dL_law_212 (lv_at hl 4 rfl) ?_
  refine lv_iconst (v := nI 2) hx hb dL_law_214 (by decide) ?_
  refine lv_iadd hx hb dL_law_215 ?_
  refine k_t1 (show nI i + nI 2 = nI (i + 2) from nI_add _ _) ?_
  refine k_sld hx hb hX0 hbl hbA hS (k := i + 2) (by omega) (by omega) ha2 dL_law_216 ?_
  refine lv_i2l (v := (a2).toInt64) hx hb dL_law_217 rfl ?_
  refine lv_ldc2 (own := RL) hx hb hown (hts (.constantLong RL 37 (4294967295)) (List.mem_of_getElem? (i := 7) rfl)) dL_law_218 ?_
  refine lv_land hx hb dL_law_221 ?_
  refine lv_lor hx hb dL_law_222 ?_
  refine kl_xi (As := [.long (lnm a1 a2)]) (rest := []) ⟨hx, hb, hml, hown, hts⟩ hX (cwV 1 hts gL_law_X4_find rfl rfl rfl (by decide +kernel) ⟨by show f1 + 1 ≤ 10; omega, by show 8 + (3 + 11) + l1 ≤ 358; omega⟩) hLS hK hS hA (ci := 4) (q0 := 0) rfl rfl hex rfl hl.1 rfl (Nat.le_of_ble_eq_true rfl) dL_law_223 ⟨by omega, by omega⟩ (fun r u H locs hu hLS hS => ?_)
  refine k_t1 (show r = R0 from hu) ?_
  refine lv_aload_n hx hb dL_law_226 rfl (lv_at hl 2 rfl) ?_
  refine lv_aload_n hx hb dL_law_227 rfl (lv_at hl 0 rfl) ?_
  refine lv_iload hx hb dL_law_228 (lv_at hl 4 rfl) ?_
  refine lv_iconst (v := nI 1) hx hb dL_law_230 (by decide) ?_
  refine lv_iadd hx hb dL_law_231 ?_
  refine k_t1 (show nI i + nI 1 = nI (i + 1) from nI_add _ _) ?_
  refine k_sld hx hb hX0 hbl hbA hS (k := i + 1) (by omega) (by omega) ha1 dL_law_232 ?_
  refine lv_i2l (v := (a1).toInt64) hx hb dL_law_233 rfl ?_
  refine lv_bipush (v := nI 32) hx hb dL_law_234 (by decide) ?_
  refine lv_lshl (v := (a1.toInt64 <<< ((nI 32).toInt64 &&& 63))) hx hb dL_law_236 rfl ?_
  refine lv_aload_n hx hb dL_law_237 rfl (lv_at hl 0 rfl) ?_
  refine lv_iload hx hb dL_law_238 (lv_at hl 4 rfl) ?_
  refine lv_iconst (v := nI 2) hx hb dL_law_240 (by decide) ?_
  refine lv_iadd hx hb dL_law_241 ?_
  refine k_t1 (show nI i + nI 2 = nI (i + 2) from nI_add _ _) ?_
  refine k_sld hx hb hX0 hbl hbA hS (k := i + 2) (by omega) (by omega) ha2 dL_law_242 ?_
  refine lv_i2l (v := (a2).toInt64) hx hb dL_law_243 rfl ?_
  refine lv_ldc2 (own := RL) hx hb hown (hts (.constantLong RL 37 (4294967295)) (List.mem_of_getElem? (i := 7) rfl)) dL_law_244 ?_
  refine lv_land hx hb dL_law_247 ?_
  refine lv_lor hx hb dL_law_248 ?_
  refine kl_mi (As := [.long (lnm a1 a2)]) (rest := [.int R0]) ⟨hx, hb, hml, hown, hts⟩ hMo (cwV 1 hts gL_law_X5_find rfl rfl rfl (by decide +kernel) ⟨by show f2 + 1 ≤ 10; omega, by show 8 + (3 + 11) + l2 ≤ 358; omega⟩) hLS hK hS hA (ci := 5) (q0 := 0) rfl rfl hem rfl hl.1 rfl (Nat.le_of_ble_eq_true rfl) dL_law_249 ⟨by omega, by omega⟩ (fun r u H locs hu hLS hS => ?_)
  refine k_t1 (show r = R0 from hu) ?_
  refine lv_icmp_eq (tgt := 724) hx hb dL_law_252 (by decide) (fun _ => ?_) (fun c9 => absurd rfl c9)
  exact kk u H locs _ hLS hS hl

set_option maxHeartbeats 800000 in
theorem arm_remove {p : Program} {l : Launch} {e : Env} {s : State} {m : MethodId} {args : Array Value} {below : List Frame} {meth : Method} {c : Code} {H : Heap} {locs : List Loc} {cells slots : Nat} {Q : State → Prop} {A : Nat → Prop} {D : va_G} {cI cZ cJ : ClassId} {b L : Nat} {xs : Nat → Int32} {vf mo ou i : Nat} (hC : lC3 p s m args c A D (kty cI cZ cJ) b L xs) (hi : i + 5 ≤ L) (hL2 : L ≤ 2560) (hrm : cells + 1 ≤ room_1.cells ∧ slots + 6 ≤ room_1.slots) {ls : Array Slot} (hl : lv_has ls 7 (lwL b vf mo ou i)) (hS : va_S A s.heap H locs)
    {wx wm wo wx' : va_W} {SM : Type} {wm' : SM → va_W} {fs fm : List Value} (hex : wx[0]? = some (vf, .inr (4, fs))) (hem : wm[0]? = some (mo, .inr (5, fm))) (hLS : lS3 D A wx wm wo H) {a1 : Int32} (ha1 : xs (i + 1) = a1) {f1 l1 f2 l2 : Nat} (hf : f1 ≤ 9 ∧ l1 ≤ 300 ∧ f2 ≤ 9 ∧ l2 ≤ 300) {R0 : Int32}
    (hX : KI l yX4_remove wsX4_remove ({ frames := f1, cells := 0, slots := 0, locals := l1 }) D (kty cI cZ cJ) [.ref vf, .int a1] wx (fun r (_ : Unit) => r = R0) (fun _ : Unit => wx') 0 0)
    (hMo : KI l yX5_remove wsX5_remove ({ frames := f2, cells := 0, slots := 0, locals := l2 }) D (kty cI cZ cJ) [.ref mo, .int a1] wm (fun r (_ : SM) => r = R0) wm' 0 0)
    (kk : ∀ (u : SM) (H : Heap) (locs : List Loc) (ls : Array Slot), lS3 D A wx' (wm' u) wo H → va_S A s.heap H locs → lv_has ls 7 (lwL b vf mo ou i) → W p l e room_1 s m args below meth c H locs cells slots Q (F0 m 724 ls [])) :
    W p l e room_1 s m args below meth c H locs cells slots Q (F0 m 257 ls []) := by
  obtain ⟨⟨hx, hb, hml, hown, hts⟩, hA, hK, hCx, hX0, hbl, hbA⟩ := hC
  obtain ⟨hrm1, hrm2⟩ := hrm
  refine lv_aload_n hx hb dL_law_257 rfl (lv_at hl 1 rfl) ?_
  refine lv_aload_n hx hb dL_law_258 rfl (lv_at hl 0 rfl) ?_
  refine lv_iload hx hb dL_law_259 (lv_at hl 4 rfl) ?_
  refine lv_iconst (v := nI 1) hx hb dL_law_261 (by decide) ?_
  refine lv_iadd hx hb dL_law_262 ?_
  refine k_t1 (show nI i + nI 1 = nI (i + 1) from nI_add _ _) ?_
  refine k_sld hx hb hX0 hbl hbA hS (k := i + 1) (by omega) (by omega) ha1 dL_law_263 ?_
  refine kl_xi (As := [.int a1]) (rest := []) ⟨hx, hb, hml, hown, hts⟩ hX (cwV 1 hts gL_law_X4_remove rfl rfl rfl (by decide +kernel) ⟨by show f1 + 1 ≤ 10; omega, by show 8 + (2 + 11) + l1 ≤ 358; omega⟩) hLS hK hS hA (ci := 4) (q0 := 0) rfl rfl hex rfl hl.1 rfl (Nat.le_of_ble_eq_true rfl) dL_law_264 ⟨by omega, by omega⟩ (fun r u H locs hu hLS hS => ?_)
  refine k_t1 (show r = R0 from hu) ?_
  refine lv_aload_n hx hb dL_law_267 rfl (lv_at hl 2 rfl) ?_
  refine lv_aload_n hx hb dL_law_268 rfl (lv_at hl 0 rfl) ?_
  refine lv_iload hx hb dL_law_269 (lv_at hl 4 rfl) ?_
  refine lv_iconst (v := nI 1) hx hb dL_law_271 (by decide) ?_
  refine lv_iadd hx hb dL_law_272 ?_
  refine k_t1 (show nI i + nI 1 = nI (i + 1) from nI_add _ _) ?_
  refine k_sld hx hb hX0 hbl hbA hS (k := i + 1) (by omega) (by omega) ha1 dL_law_273 ?_
  refine kl_mi (As := [.int a1]) (rest := [.int R0]) ⟨hx, hb, hml, hown, hts⟩ hMo (cwV 1 hts gL_law_X5_remove rfl rfl rfl (by decide +kernel) ⟨by show f2 + 1 ≤ 10; omega, by show 8 + (3 + 11) + l2 ≤ 358; omega⟩) hLS hK hS hA (ci := 5) (q0 := 0) rfl rfl hem rfl hl.1 rfl (Nat.le_of_ble_eq_true rfl) dL_law_274 ⟨by omega, by omega⟩ (fun r u H locs hu hLS hS => ?_)
  refine k_t1 (show r = R0 from hu) ?_
  refine lv_icmp_eq (tgt := 724) hx hb dL_law_277 (by decide) (fun _ => ?_) (fun c9 => absurd rfl c9)
  exact kk u H locs _ hLS hS hl

set_option maxHeartbeats 800000 in
theorem arm_size {p : Program} {l : Launch} {e : Env} {s : State} {m : MethodId} {args : Array Value} {below : List Frame} {meth : Method} {c : Code} {H : Heap} {locs : List Loc} {cells slots : Nat} {Q : State → Prop} {A : Nat → Prop} {D : va_G} {cI cZ cJ : ClassId} {b L : Nat} {xs : Nat → Int32} {vf mo ou i : Nat} (hC : lC3 p s m args c A D (kty cI cZ cJ) b L xs) (hi : i + 5 ≤ L) (hL2 : L ≤ 2560) (hrm : cells + 1 ≤ room_1.cells ∧ slots + 6 ≤ room_1.slots) {ls : Array Slot} (hl : lv_has ls 7 (lwL b vf mo ou i)) (hS : va_S A s.heap H locs)
    {wx wm wo wx' : va_W} {SM : Type} {wm' : SM → va_W} {fs fm : List Value} (hex : wx[0]? = some (vf, .inr (4, fs))) (hem : wm[0]? = some (mo, .inr (5, fm))) (hLS : lS3 D A wx wm wo H) {a1 : Int32} (ha1 : xs (i + 1) = a1) {f1 l1 f2 l2 : Nat} (hf : f1 ≤ 9 ∧ l1 ≤ 300 ∧ f2 ≤ 9 ∧ l2 ≤ 300) {R0 : Int32}
    (hX : KI l yX4_size wsX4_size ({ frames := f1, cells := 0, slots := 0, locals := l1 }) D (kty cI cZ cJ) [.ref vf, .int a1] wx (fun r (_ : Unit) => r = R0) (fun _ : Unit => wx') 0 0)
    (hMo : KI l yX5_size wsX5_size ({ frames := f2, cells := 0, slots := 0, locals := l2 }) D (kty cI cZ cJ) [.ref mo, .int a1] wm (fun r (_ : SM) => r = R0) wm' 0 0)
    (kk : ∀ (u : SM) (H : Heap) (locs : List Loc) (ls : Array Slot), lS3 D A wx' (wm' u) wo H → va_S A s.heap H locs → lv_has ls 7 (lwL b vf mo ou i) → W p l e room_1 s m args below meth c H locs cells slots Q (F0 m 724 ls [])) :
    W p l e room_1 s m args below meth c H locs cells slots Q (F0 m 282 ls []) := by
  obtain ⟨⟨hx, hb, hml, hown, hts⟩, hA, hK, hCx, hX0, hbl, hbA⟩ := hC
  obtain ⟨hrm1, hrm2⟩ := hrm
  refine lv_aload_n hx hb dL_law_282 rfl (lv_at hl 1 rfl) ?_
  refine lv_aload_n hx hb dL_law_283 rfl (lv_at hl 0 rfl) ?_
  refine lv_iload hx hb dL_law_284 (lv_at hl 4 rfl) ?_
  refine lv_iconst (v := nI 1) hx hb dL_law_286 (by decide) ?_
  refine lv_iadd hx hb dL_law_287 ?_
  refine k_t1 (show nI i + nI 1 = nI (i + 1) from nI_add _ _) ?_
  refine k_sld hx hb hX0 hbl hbA hS (k := i + 1) (by omega) (by omega) ha1 dL_law_288 ?_
  refine kl_xi (As := [.int a1]) (rest := []) ⟨hx, hb, hml, hown, hts⟩ hX (cwV 1 hts gL_law_X4_size rfl rfl rfl (by decide +kernel) ⟨by show f1 + 1 ≤ 10; omega, by show 8 + (2 + 11) + l1 ≤ 358; omega⟩) hLS hK hS hA (ci := 4) (q0 := 0) rfl rfl hex rfl hl.1 rfl (Nat.le_of_ble_eq_true rfl) dL_law_289 ⟨by omega, by omega⟩ (fun r u H locs hu hLS hS => ?_)
  refine k_t1 (show r = R0 from hu) ?_
  refine lv_aload_n hx hb dL_law_292 rfl (lv_at hl 2 rfl) ?_
  refine lv_aload_n hx hb dL_law_293 rfl (lv_at hl 0 rfl) ?_
  refine lv_iload hx hb dL_law_294 (lv_at hl 4 rfl) ?_
  refine lv_iconst (v := nI 1) hx hb dL_law_296 (by decide) ?_
  refine lv_iadd hx hb dL_law_297 ?_
  refine k_t1 (show nI i + nI 1 = nI (i + 1) from nI_add _ _) ?_
  refine k_sld hx hb hX0 hbl hbA hS (k := i + 1) (by omega) (by omega) ha1 dL_law_298 ?_
  refine kl_mi (As := [.int a1]) (rest := [.int R0]) ⟨hx, hb, hml, hown, hts⟩ hMo (cwV 1 hts gL_law_X5_size rfl rfl rfl (by decide +kernel) ⟨by show f2 + 1 ≤ 10; omega, by show 8 + (2 + 11) + l2 ≤ 358; omega⟩) hLS hK hS hA (ci := 5) (q0 := 0) rfl rfl hem rfl hl.1 rfl (Nat.le_of_ble_eq_true rfl) dL_law_299 ⟨by omega, by omega⟩ (fun r u H locs hu hLS hS => ?_)
  refine k_t1 (show r = R0 from hu) ?_
  refine lv_icmp_eq (tgt := 724) hx hb dL_law_302 (by decide) (fun _ => ?_) (fun c9 => absurd rfl c9)
  exact kk u H locs _ hLS hS hl

set_option maxHeartbeats 800000 in
theorem arm_alter {p : Program} {l : Launch} {e : Env} {s : State} {m : MethodId} {args : Array Value} {below : List Frame} {meth : Method} {c : Code} {H : Heap} {locs : List Loc} {cells slots : Nat} {Q : State → Prop} {A : Nat → Prop} {D : va_G} {cI cZ cJ : ClassId} {b L : Nat} {xs : Nat → Int32} {vf mo ou i : Nat} (hC : lC3 p s m args c A D (kty cI cZ cJ) b L xs) (hi : i + 5 ≤ L) (hL2 : L ≤ 2560) (hrm : cells + 1 ≤ room_1.cells ∧ slots + 6 ≤ room_1.slots) {ls : Array Slot} (hl : lv_has ls 7 (lwL b vf mo ou i)) (hS : va_S A s.heap H locs)
    {wx wm wo wx' : va_W} {SM : Type} {wm' : SM → va_W} {fs fm : List Value} (hex : wx[0]? = some (vf, .inr (4, fs))) (hem : wm[0]? = some (mo, .inr (5, fm))) (hLS : lS3 D A wx wm wo H) {a1 : Int32} (ha1 : xs (i + 1) = a1) {a2 : Int32} (ha2 : xs (i + 2) = a2) {a3 : Int32} (ha3 : xs (i + 3) = a3) {a4 : Int32} (ha4 : xs (i + 4) = a4) {f1 l1 f2 l2 : Nat} (hf : f1 ≤ 9 ∧ l1 ≤ 300 ∧ f2 ≤ 9 ∧ l2 ≤ 300) {R0 : Int32}
    (hX : KI l yX4_alter wsX4_alter ({ frames := f1, cells := 0, slots := 0, locals := l1 }) D (kty cI cZ cJ) [.ref vf, .int a1, .int a2, .int a3, .int a4] wx (fun r (_ : Unit) => r = R0) (fun _ : Unit => wx') 0 0)
    (hMo : KI l yX5_alter wsX5_alter ({ frames := f2, cells := 0, slots := 0, locals := l2 }) D (kty cI cZ cJ) [.ref mo, .int a1, .int a2, .int a3, .int a4] wm (fun r (_ : SM) => r = R0) wm' 0 0)
    (kk : ∀ (u : SM) (H : Heap) (locs : List Loc) (ls : Array Slot), lS3 D A wx' (wm' u) wo H → va_S A s.heap H locs → lv_has ls 7 (lwL b vf mo ou i) → W p l e room_1 s m args below meth c H locs cells slots Q (F0 m 724 ls [])) :
    W p l e room_1 s m args below meth c H locs cells slots Q (F0 m 539 ls []) := by
  obtain ⟨⟨hx, hb, hml, hown, hts⟩, hA, hK, hCx, hX0, hbl, hbA⟩ := hC
  obtain ⟨hrm1, hrm2⟩ := hrm
  refine lv_aload_n hx hb dL_law_539 rfl (lv_at hl 1 rfl) ?_
  refine lv_aload_n hx hb dL_law_540 rfl (lv_at hl 0 rfl) ?_
  refine lv_iload hx hb dL_law_541 (lv_at hl 4 rfl) ?_
  refine lv_iconst (v := nI 1) hx hb dL_law_543 (by decide) ?_
  refine lv_iadd hx hb dL_law_544 ?_
  refine k_t1 (show nI i + nI 1 = nI (i + 1) from nI_add _ _) ?_
  refine k_sld hx hb hX0 hbl hbA hS (k := i + 1) (by omega) (by omega) ha1 dL_law_545 ?_
  refine lv_aload_n hx hb dL_law_546 rfl (lv_at hl 0 rfl) ?_
  refine lv_iload hx hb dL_law_547 (lv_at hl 4 rfl) ?_
  refine lv_iconst (v := nI 2) hx hb dL_law_549 (by decide) ?_
  refine lv_iadd hx hb dL_law_550 ?_
  refine k_t1 (show nI i + nI 2 = nI (i + 2) from nI_add _ _) ?_
  refine k_sld hx hb hX0 hbl hbA hS (k := i + 2) (by omega) (by omega) ha2 dL_law_551 ?_
  refine lv_aload_n hx hb dL_law_552 rfl (lv_at hl 0 rfl) ?_
  refine lv_iload hx hb dL_law_553 (lv_at hl 4 rfl) ?_
  refine lv_iconst (v := nI 3) hx hb dL_law_555 (by decide) ?_
  refine lv_iadd hx hb dL_law_556 ?_
  refine k_t1 (show nI i + nI 3 = nI (i + 3) from nI_add _ _) ?_
  refine k_sld hx hb hX0 hbl hbA hS (k := i + 3) (by omega) (by omega) ha3 dL_law_557 ?_
  refine lv_aload_n hx hb dL_law_558 rfl (lv_at hl 0 rfl) ?_
  refine lv_iload hx hb dL_law_559 (lv_at hl 4 rfl) ?_
  refine lv_iconst (v := nI 4) hx hb dL_law_561 (by decide) ?_
  refine lv_iadd hx hb dL_law_562 ?_
  refine k_t1 (show nI i + nI 4 = nI (i + 4) from nI_add _ _) ?_
  refine k_sld hx hb hX0 hbl hbA hS (k := i + 4) (by omega) (by omega) ha4 dL_law_563 ?_
  refine kl_xi (As := [.int a1, .int a2, .int a3, .int a4]) (rest := []) ⟨hx, hb, hml, hown, hts⟩ hX (cwV 4 hts gL_law_X4_alter rfl rfl rfl (by decide +kernel) ⟨by show f1 + 1 ≤ 10; omega, by show 8 + (6 + 11) + l1 ≤ 358; omega⟩) hLS hK hS hA (ci := 4) (q0 := 0) rfl rfl hex rfl hl.1 rfl (Nat.le_of_ble_eq_true rfl) dL_law_564 ⟨by omega, by omega⟩ (fun r u H locs hu hLS hS => ?_)
  refine k_t1 (show r = R0 from hu) ?_
  refine lv_aload_n hx hb dL_law_567 rfl (lv_at hl 2 rfl) ?_
  refine lv_aload_n hx hb dL_law_568 rfl (lv_at hl 0 rfl) ?_
  refine lv_iload hx hb dL_law_569 (lv_at hl 4 rfl) ?_
  refine lv_iconst (v := nI 1) hx hb dL_law_571 (by decide) ?_
  refine lv_iadd hx hb dL_law_572 ?_
  refine k_t1 (show nI i + nI 1 = nI (i + 1) from nI_add _ _) ?_
  refine k_sld hx hb hX0 hbl hbA hS (k := i + 1) (by omega) (by omega) ha1 dL_law_573 ?_
  refine lv_aload_n hx hb dL_law_574 rfl (lv_at hl 0 rfl) ?_
  refine lv_iload hx hb dL_law_575 (lv_at hl 4 rfl) ?_
  refine lv_iconst (v := nI 2) hx hb dL_law_577 (by decide) ?_
  refine lv_iadd hx hb dL_law_578 ?_
  refine k_t1 (show nI i + nI 2 = nI (i + 2) from nI_add _ _) ?_
  refine k_sld hx hb hX0 hbl hbA hS (k := i + 2) (by omega) (by omega) ha2 dL_law_579 ?_
  refine lv_aload_n hx hb dL_law_580 rfl (lv_at hl 0 rfl) ?_
  refine lv_iload hx hb dL_law_581 (lv_at hl 4 rfl) ?_
  refine lv_iconst (v := nI 3) hx hb dL_law_583 (by decide) ?_
  refine lv_iadd hx hb dL_law_584 ?_
  refine k_t1 (show nI i + nI 3 = nI (i + 3) from nI_add _ _) ?_
  refine k_sld hx hb hX0 hbl hbA hS (k := i + 3) (by omega) (by omega) ha3 dL_law_585 ?_
  refine lv_aload_n hx hb dL_law_586 rfl (lv_at hl 0 rfl) ?_
  refine lv_iload hx hb dL_law_587 (lv_at hl 4 rfl) ?_
  refine lv_iconst (v := nI 4) hx hb dL_law_589 (by decide) ?_
  refine lv_iadd hx hb dL_law_590 ?_
  refine k_t1 (show nI i + nI 4 = nI (i + 4) from nI_add _ _) ?_
  refine k_sld hx hb hX0 hbl hbA hS (k := i + 4) (by omega) (by omega) ha4 dL_law_591 ?_
  refine kl_mi (As := [.int a1, .int a2, .int a3, .int a4]) (rest := [.int R0]) ⟨hx, hb, hml, hown, hts⟩ hMo (cwV 4 hts gL_law_X5_alter rfl rfl rfl (by decide +kernel) ⟨by show f2 + 1 ≤ 10; omega, by show 8 + (8 + 11) + l2 ≤ 358; omega⟩) hLS hK hS hA (ci := 5) (q0 := 0) rfl rfl hem rfl hl.1 rfl (Nat.le_of_ble_eq_true rfl) dL_law_592 ⟨by omega, by omega⟩ (fun r u H locs hu hLS hS => ?_)
  refine k_t1 (show r = R0 from hu) ?_
  refine lv_icmp_eq (tgt := 724) hx hb dL_law_595 (by decide) (fun _ => ?_) (fun c9 => absurd rfl c9)
  exact kk u H locs _ hLS hS hl

set_option maxHeartbeats 800000 in
theorem arm_counter {p : Program} {l : Launch} {e : Env} {s : State} {m : MethodId} {args : Array Value} {below : List Frame} {meth : Method} {c : Code} {H : Heap} {locs : List Loc} {cells slots : Nat} {Q : State → Prop} {A : Nat → Prop} {D : va_G} {cI cZ cJ : ClassId} {b L : Nat} {xs : Nat → Int32} {vf mo ou i : Nat} (hC : lC3 p s m args c A D (kty cI cZ cJ) b L xs) (hi : i + 5 ≤ L) (hL2 : L ≤ 2560) (hrm : cells + 1 ≤ room_1.cells ∧ slots + 6 ≤ room_1.slots) {ls : Array Slot} (hl : lv_has ls 7 (lwL b vf mo ou i)) (hS : va_S A s.heap H locs)
    {wx wm wo wx' : va_W} {SM : Type} {wm' : SM → va_W} {fs fm : List Value} (hex : wx[0]? = some (vf, .inr (4, fs))) (hem : wm[0]? = some (mo, .inr (5, fm))) (hLS : lS3 D A wx wm wo H) {a1 : Int32} (ha1 : xs (i + 1) = a1) {a2 : Int32} (ha2 : xs (i + 2) = a2) {f1 l1 f2 l2 : Nat} (hf : f1 ≤ 9 ∧ l1 ≤ 300 ∧ f2 ≤ 9 ∧ l2 ≤ 300) {R0 : Int32}
    (hX : KI l yX4_counter wsX4_counter ({ frames := f1, cells := 0, slots := 0, locals := l1 }) D (kty cI cZ cJ) [.ref vf, .int a1, .int a2] wx (fun r (_ : Unit) => r = R0) (fun _ : Unit => wx') 0 0)
    (hMo : KI l yX5_counter wsX5_counter ({ frames := f2, cells := 0, slots := 0, locals := l2 }) D (kty cI cZ cJ) [.ref mo, .int a1, .int a2] wm (fun r (_ : SM) => r = R0) wm' 0 0)
    (kk : ∀ (u : SM) (H : Heap) (locs : List Loc) (ls : Array Slot), lS3 D A wx' (wm' u) wo H → va_S A s.heap H locs → lv_has ls 7 (lwL b vf mo ou i) → W p l e room_1 s m args below meth c H locs cells slots Q (F0 m 724 ls [])) :
    W p l e room_1 s m args below meth c H locs cells slots Q (F0 m 600 ls []) := by
  obtain ⟨⟨hx, hb, hml, hown, hts⟩, hA, hK, hCx, hX0, hbl, hbA⟩ := hC
  obtain ⟨hrm1, hrm2⟩ := hrm
  refine lv_aload_n hx hb dL_law_600 rfl (lv_at hl 1 rfl) ?_
  refine lv_aload_n hx hb dL_law_601 rfl (lv_at hl 0 rfl) ?_
  refine lv_iload hx hb dL_law_602 (lv_at hl 4 rfl) ?_
  refine lv_iconst (v := nI 1) hx hb dL_law_604 (by decide) ?_
  refine lv_iadd hx hb dL_law_605 ?_
  refine k_t1 (show nI i + nI 1 = nI (i + 1) from nI_add _ _) ?_
  refine k_sld hx hb hX0 hbl hbA hS (k := i + 1) (by omega) (by omega) ha1 dL_law_606 ?_
  refine lv_aload_n hx hb dL_law_607 rfl (lv_at hl 0 rfl) ?_
  refine lv_iload hx hb dL_law_608 (lv_at hl 4 rfl) ?_
  refine lv_iconst (v := nI 2) hx hb dL_law_610 (by decide) ?_
  refine lv_iadd hx hb dL_law_611 ?_
  refine k_t1 (show nI i + nI 2 = nI (i + 2) from nI_add _ _) ?_
  refine k_sld hx hb hX0 hbl hbA hS (k := i + 2) (by omega) (by omega) ha2 dL_law_612 ?_
  refine kl_xi (As := [.int a1, .int a2]) (rest := []) ⟨hx, hb, hml, hown, hts⟩ hX (cwV 2 hts gL_law_X4_counter rfl rfl rfl (by decide +kernel) ⟨by show f1 + 1 ≤ 10; omega, by show 8 + (4 + 11) + l1 ≤ 358; omega⟩) hLS hK hS hA (ci := 4) (q0 := 0) rfl rfl hex rfl hl.1 rfl (Nat.le_of_ble_eq_true rfl) dL_law_613 ⟨by omega, by omega⟩ (fun r u H locs hu hLS hS => ?_)
  refine k_t1 (show r = R0 from hu) ?_
  refine lv_aload_n hx hb dL_law_616 rfl (lv_at hl 2 rfl) ?_
  refine lv_aload_n hx hb dL_law_617 rfl (lv_at hl 0 rfl) ?_
  refine lv_iload hx hb dL_law_618 (lv_at hl 4 rfl) ?_
  refine lv_iconst (v := nI 1) hx hb dL_law_620 (by decide) ?_
  refine lv_iadd hx hb dL_law_621 ?_
  refine k_t1 (show nI i + nI 1 = nI (i + 1) from nI_add _ _) ?_
  refine k_sld hx hb hX0 hbl hbA hS (k := i + 1) (by omega) (by omega) ha1 dL_law_622 ?_
  refine lv_aload_n hx hb dL_law_623 rfl (lv_at hl 0 rfl) ?_
  refine lv_iload hx hb dL_law_624 (lv_at hl 4 rfl) ?_
  refine lv_iconst (v := nI 2) hx hb dL_law_626 (by decide) ?_
  refine lv_iadd hx hb dL_law_627 ?_
  refine k_t1 (show nI i + nI 2 = nI (i + 2) from nI_add _ _) ?_
  refine k_sld hx hb hX0 hbl hbA hS (k := i + 2) (by omega) (by omega) ha2 dL_law_628 ?_
  refine kl_mi (As := [.int a1, .int a2]) (rest := [.int R0]) ⟨hx, hb, hml, hown, hts⟩ hMo (cwV 2 hts gL_law_X5_counter rfl rfl rfl (by decide +kernel) ⟨by show f2 + 1 ≤ 10; omega, by show 8 + (3 + 11) + l2 ≤ 358; omega⟩) hLS hK hS hA (ci := 5) (q0 := 0) rfl rfl hem rfl hl.1 rfl (Nat.le_of_ble_eq_true rfl) dL_law_629 ⟨by omega, by omega⟩ (fun r u H locs hu hLS hS => ?_)
  refine k_t1 (show r = R0 from hu) ?_
  refine lv_icmp_eq (tgt := 724) hx hb dL_law_632 (by decide) (fun _ => ?_) (fun c9 => absurd rfl c9)
  exact kk u H locs _ hLS hS hl

set_option maxHeartbeats 800000 in
theorem arm_trace {p : Program} {l : Launch} {e : Env} {s : State} {m : MethodId} {args : Array Value} {below : List Frame} {meth : Method} {c : Code} {H : Heap} {locs : List Loc} {cells slots : Nat} {Q : State → Prop} {A : Nat → Prop} {D : va_G} {cI cZ cJ : ClassId} {b L : Nat} {xs : Nat → Int32} {vf mo ou i : Nat} (hC : lC3 p s m args c A D (kty cI cZ cJ) b L xs) (hi : i + 5 ≤ L) (hL2 : L ≤ 2560) (hrm : cells + 1 ≤ room_1.cells ∧ slots + 6 ≤ room_1.slots) {ls : Array Slot} (hl : lv_has ls 7 (lwL b vf mo ou i)) (hS : va_S A s.heap H locs)
    {wx wm wo wx' : va_W} {SM : Type} {wm' : SM → va_W} {fs fm : List Value} (hex : wx[0]? = some (vf, .inr (4, fs))) (hem : wm[0]? = some (mo, .inr (5, fm))) (hLS : lS3 D A wx wm wo H) {a1 : Int32} (ha1 : xs (i + 1) = a1) {a2 : Int32} (ha2 : xs (i + 2) = a2) {f1 l1 f2 l2 : Nat} (hf : f1 ≤ 9 ∧ l1 ≤ 300 ∧ f2 ≤ 9 ∧ l2 ≤ 300) {R0 : Int32}
    (hX : KI l yX4_trace wsX4_trace ({ frames := f1, cells := 0, slots := 0, locals := l1 }) D (kty cI cZ cJ) [.ref vf, .int a1, .int a2] wx (fun r (_ : Unit) => r = R0) (fun _ : Unit => wx') 0 0)
    (hMo : KI l yX5_trace wsX5_trace ({ frames := f2, cells := 0, slots := 0, locals := l2 }) D (kty cI cZ cJ) [.ref mo, .int a1, .int a2] wm (fun r (_ : SM) => r = R0) wm' 0 0)
    (kk : ∀ (u : SM) (H : Heap) (locs : List Loc) (ls : Array Slot), lS3 D A wx' (wm' u) wo H → va_S A s.heap H locs → lv_has ls 7 (lwL b vf mo ou i) → W p l e room_1 s m args below meth c H locs cells slots Q (F0 m 724 ls [])) :
    W p l e room_1 s m args below meth c H locs cells slots Q (F0 m 637 ls []) := by
  obtain ⟨⟨hx, hb, hml, hown, hts⟩, hA, hK, hCx, hX0, hbl, hbA⟩ := hC
  obtain ⟨hrm1, hrm2⟩ := hrm
  refine lv_aload_n hx hb dL_law_637 rfl (lv_at hl 1 rfl) ?_
  refine lv_aload_n hx hb dL_law_638 rfl (lv_at hl 0 rfl) ?_
  refine lv_iload hx hb dL_law_639 (lv_at hl 4 rfl) ?_
  refine lv_iconst (v := nI 1) hx hb dL_law_641 (by decide) ?_
  refine lv_iadd hx hb dL_law_642 ?_
  refine k_t1 (show nI i + nI 1 = nI (i + 1) from nI_add _ _) ?_
  refine k_sld hx hb hX0 hbl hbA hS (k := i + 1) (by omega) (by omega) ha1 dL_law_643 ?_
  refine lv_aload_n hx hb dL_law_644 rfl (lv_at hl 0 rfl) ?_
  refine lv_iload hx hb dL_law_645 (lv_at hl 4 rfl) ?_
  refine lv_iconst (v := nI 2) hx hb dL_law_647 (by decide) ?_
  refine lv_iadd hx hb dL_law_648 ?_
  refine k_t1 (show nI i + nI 2 = nI (i + 2) from nI_add _ _) ?_
  refine k_sld hx hb hX0 hbl hbA hS (k := i + 2) (by omega) (by omega) ha2 dL_law_649 ?_
  refine kl_xi (As := [.int a1, .int a2]) (rest := []) ⟨hx, hb, hml, hown, hts⟩ hX (cwV 2 hts gL_law_X4_trace rfl rfl rfl (by decide +kernel) ⟨by show f1 + 1 ≤ 10; omega, by show 8 + (3 + 11) + l1 ≤ 358; omega⟩) hLS hK hS hA (ci := 4) (q0 := 0) rfl rfl hex rfl hl.1 rfl (Nat.le_of_ble_eq_true rfl) dL_law_650 ⟨by omega, by omega⟩ (fun r u H locs hu hLS hS => ?_)
  refine k_t1 (show r = R0 from hu) ?_
  refine lv_aload_n hx hb dL_law_653 rfl (lv_at hl 2 rfl) ?_
  refine lv_aload_n hx hb dL_law_654 rfl (lv_at hl 0 rfl) ?_
  refine lv_iload hx hb dL_law_655 (lv_at hl 4 rfl) ?_
  refine lv_iconst (v := nI 1) hx hb dL_law_657 (by decide) ?_
  refine lv_iadd hx hb dL_law_658 ?_
  refine k_t1 (show nI i + nI 1 = nI (i + 1) from nI_add _ _) ?_
  refine k_sld hx hb hX0 hbl hbA hS (k := i + 1) (by omega) (by omega) ha1 dL_law_659 ?_
  refine lv_aload_n hx hb dL_law_660 rfl (lv_at hl 0 rfl) ?_
  refine lv_iload hx hb dL_law_661 (lv_at hl 4 rfl) ?_
  refine lv_iconst (v := nI 2) hx hb dL_law_663 (by decide) ?_
  refine lv_iadd hx hb dL_law_664 ?_
  refine k_t1 (show nI i + nI 2 = nI (i + 2) from nI_add _ _) ?_
  refine k_sld hx hb hX0 hbl hbA hS (k := i + 2) (by omega) (by omega) ha2 dL_law_665 ?_
  refine kl_mi (As := [.int a1, .int a2]) (rest := [.int R0]) ⟨hx, hb, hml, hown, hts⟩ hMo (cwV 2 hts gL_law_X5_trace rfl rfl rfl (by decide +kernel) ⟨by show f2 + 1 ≤ 10; omega, by show 8 + (4 + 11) + l2 ≤ 358; omega⟩) hLS hK hS hA (ci := 5) (q0 := 0) rfl rfl hem rfl hl.1 rfl (Nat.le_of_ble_eq_true rfl) dL_law_666 ⟨by omega, by omega⟩ (fun r u H locs hu hLS hS => ?_)
  refine k_t1 (show r = R0 from hu) ?_
  refine lv_icmp_eq (tgt := 724) hx hb dL_law_669 (by decide) (fun _ => ?_) (fun c9 => absurd rfl c9)
  exact kk u H locs _ hLS hS hl

set_option maxHeartbeats 800000 in
theorem arm_stash {p : Program} {l : Launch} {e : Env} {s : State} {m : MethodId} {args : Array Value} {below : List Frame} {meth : Method} {c : Code} {H : Heap} {locs : List Loc} {cells slots : Nat} {Q : State → Prop} {A : Nat → Prop} {D : va_G} {cI cZ cJ : ClassId} {b L : Nat} {xs : Nat → Int32} {vf mo ou i : Nat} (hC : lC3 p s m args c A D (kty cI cZ cJ) b L xs) (hi : i + 5 ≤ L) (hL2 : L ≤ 2560) (hrm : cells + 1 ≤ room_1.cells ∧ slots + 6 ≤ room_1.slots) {ls : Array Slot} (hl : lv_has ls 7 (lwL b vf mo ou i)) (hS : va_S A s.heap H locs)
    {wx wm wo wx' : va_W} {SM : Type} {wm' : SM → va_W} {fs fm : List Value} (hex : wx[0]? = some (vf, .inr (4, fs))) (hem : wm[0]? = some (mo, .inr (5, fm))) (hLS : lS3 D A wx wm wo H) {a1 : Int32} (ha1 : xs (i + 1) = a1) {f1 l1 f2 l2 : Nat} (hf : f1 ≤ 9 ∧ l1 ≤ 300 ∧ f2 ≤ 9 ∧ l2 ≤ 300) {R0 : Int32}
    (hX : KI l yX4_stash wsX4_stash ({ frames := f1, cells := 0, slots := 0, locals := l1 }) D (kty cI cZ cJ) [.ref vf, .int a1] wx (fun r (_ : Unit) => r = R0) (fun _ : Unit => wx') 0 0)
    (hMo : KI l yX5_stash wsX5_stash ({ frames := f2, cells := 0, slots := 0, locals := l2 }) D (kty cI cZ cJ) [.ref mo, .int a1] wm (fun r (_ : SM) => r = R0) wm' 0 0)
    (kk : ∀ (u : SM) (H : Heap) (locs : List Loc) (ls : Array Slot), lS3 D A wx' (wm' u) wo H → va_S A s.heap H locs → lv_has ls 7 (lwL b vf mo ou i) → W p l e room_1 s m args below meth c H locs cells slots Q (F0 m 724 ls [])) :
    W p l e room_1 s m args below meth c H locs cells slots Q (F0 m 674 ls []) := by
  obtain ⟨⟨hx, hb, hml, hown, hts⟩, hA, hK, hCx, hX0, hbl, hbA⟩ := hC
  obtain ⟨hrm1, hrm2⟩ := hrm
  refine lv_aload_n hx hb dL_law_674 rfl (lv_at hl 1 rfl) ?_
  refine lv_aload_n hx hb dL_law_675 rfl (lv_at hl 0 rfl) ?_
  refine lv_iload hx hb dL_law_676 (lv_at hl 4 rfl) ?_
  refine lv_iconst (v := nI 1) hx hb dL_law_678 (by decide) ?_
  refine lv_iadd hx hb dL_law_679 ?_
  refine k_t1 (show nI i + nI 1 = nI (i + 1) from nI_add _ _) ?_
  refine k_sld hx hb hX0 hbl hbA hS (k := i + 1) (by omega) (by omega) ha1 dL_law_680 ?_
  refine kl_xi (As := [.int a1]) (rest := []) ⟨hx, hb, hml, hown, hts⟩ hX (cwV 1 hts gL_law_X4_stash rfl rfl rfl (by decide +kernel) ⟨by show f1 + 1 ≤ 10; omega, by show 8 + (3 + 11) + l1 ≤ 358; omega⟩) hLS hK hS hA (ci := 4) (q0 := 0) rfl rfl hex rfl hl.1 rfl (Nat.le_of_ble_eq_true rfl) dL_law_681 ⟨by omega, by omega⟩ (fun r u H locs hu hLS hS => ?_)
  refine k_t1 (show r = R0 from hu) ?_
  refine lv_aload_n hx hb dL_law_684 rfl (lv_at hl 2 rfl) ?_
  refine lv_aload_n hx hb dL_law_685 rfl (lv_at hl 0 rfl) ?_
  refine lv_iload hx hb dL_law_686 (lv_at hl 4 rfl) ?_
  refine lv_iconst (v := nI 1) hx hb dL_law_688 (by decide) ?_
  refine lv_iadd hx hb dL_law_689 ?_
  refine k_t1 (show nI i + nI 1 = nI (i + 1) from nI_add _ _) ?_
  refine k_sld hx hb hX0 hbl hbA hS (k := i + 1) (by omega) (by omega) ha1 dL_law_690 ?_
  refine kl_mi (As := [.int a1]) (rest := [.int R0]) ⟨hx, hb, hml, hown, hts⟩ hMo (cwV 1 hts gL_law_X5_stash rfl rfl rfl (by decide +kernel) ⟨by show f2 + 1 ≤ 10; omega, by show 8 + (4 + 11) + l2 ≤ 358; omega⟩) hLS hK hS hA (ci := 5) (q0 := 0) rfl rfl hem rfl hl.1 rfl (Nat.le_of_ble_eq_true rfl) dL_law_691 ⟨by omega, by omega⟩ (fun r u H locs hu hLS hS => ?_)
  refine k_t1 (show r = R0 from hu) ?_
  refine lv_icmp_eq (tgt := 724) hx hb dL_law_694 (by decide) (fun _ => ?_) (fun c9 => absurd rfl c9)
  exact kk u H locs _ hLS hS hl

set_option maxHeartbeats 800000 in
theorem arm_state {p : Program} {l : Launch} {e : Env} {s : State} {m : MethodId} {args : Array Value} {below : List Frame} {meth : Method} {c : Code} {H : Heap} {locs : List Loc} {cells slots : Nat} {Q : State → Prop} {A : Nat → Prop} {D : va_G} {cI cZ cJ : ClassId} {b L : Nat} {xs : Nat → Int32} {vf mo ou i : Nat} (hC : lC3 p s m args c A D (kty cI cZ cJ) b L xs) (hi : i + 5 ≤ L) (hL2 : L ≤ 2560) (hrm : cells + 1 ≤ room_1.cells ∧ slots + 6 ≤ room_1.slots) {ls : Array Slot} (hl : lv_has ls 7 (lwL b vf mo ou i)) (hS : va_S A s.heap H locs)
    {wx wm wo wx' : va_W} {SM : Type} {wm' : SM → va_W} {fs fm : List Value} (hex : wx[0]? = some (vf, .inr (4, fs))) (hem : wm[0]? = some (mo, .inr (5, fm))) (hLS : lS3 D A wx wm wo H) {a1 : Int32} (ha1 : xs (i + 1) = a1) {f1 l1 f2 l2 : Nat} (hf : f1 ≤ 9 ∧ l1 ≤ 300 ∧ f2 ≤ 9 ∧ l2 ≤ 300) {R0 : Int32}
    (hX : KI l yX4_state wsX4_state ({ frames := f1, cells := 0, slots := 0, locals := l1 }) D (kty cI cZ cJ) [.ref vf, .int a1] wx (fun r (_ : Unit) => r = R0) (fun _ : Unit => wx') 0 0)
    (hMo : KI l yX5_state wsX5_state ({ frames := f2, cells := 0, slots := 0, locals := l2 }) D (kty cI cZ cJ) [.ref mo, .int a1] wm (fun r (_ : SM) => r = R0) wm' 0 0)
    (kk : ∀ (u : SM) (H : Heap) (locs : List Loc) (ls : Array Slot), lS3 D A wx' (wm' u) wo H → va_S A s.heap H locs → lv_has ls 7 (lwL b vf mo ou i) → W p l e room_1 s m args below meth c H locs cells slots Q (F0 m 724 ls [])) :
    W p l e room_1 s m args below meth c H locs cells slots Q (F0 m 699 ls []) := by
  obtain ⟨⟨hx, hb, hml, hown, hts⟩, hA, hK, hCx, hX0, hbl, hbA⟩ := hC
  obtain ⟨hrm1, hrm2⟩ := hrm
  refine lv_aload_n hx hb dL_law_699 rfl (lv_at hl 1 rfl) ?_
  refine lv_aload_n hx hb dL_law_700 rfl (lv_at hl 0 rfl) ?_
  refine lv_iload hx hb dL_law_701 (lv_at hl 4 rfl) ?_
  refine lv_iconst (v := nI 1) hx hb dL_law_703 (by decide) ?_
  refine lv_iadd hx hb dL_law_704 ?_
  refine k_t1 (show nI i + nI 1 = nI (i + 1) from nI_add _ _) ?_
  refine k_sld hx hb hX0 hbl hbA hS (k := i + 1) (by omega) (by omega) ha1 dL_law_705 ?_
  refine kl_xi (As := [.int a1]) (rest := []) ⟨hx, hb, hml, hown, hts⟩ hX (cwV 1 hts gL_law_X4_state rfl rfl rfl (by decide +kernel) ⟨by show f1 + 1 ≤ 10; omega, by show 8 + (2 + 11) + l1 ≤ 358; omega⟩) hLS hK hS hA (ci := 4) (q0 := 0) rfl rfl hex rfl hl.1 rfl (Nat.le_of_ble_eq_true rfl) dL_law_706 ⟨by omega, by omega⟩ (fun r u H locs hu hLS hS => ?_)
  refine k_t1 (show r = R0 from hu) ?_
  refine lv_aload_n hx hb dL_law_709 rfl (lv_at hl 2 rfl) ?_
  refine lv_aload_n hx hb dL_law_710 rfl (lv_at hl 0 rfl) ?_
  refine lv_iload hx hb dL_law_711 (lv_at hl 4 rfl) ?_
  refine lv_iconst (v := nI 1) hx hb dL_law_713 (by decide) ?_
  refine lv_iadd hx hb dL_law_714 ?_
  refine k_t1 (show nI i + nI 1 = nI (i + 1) from nI_add _ _) ?_
  refine k_sld hx hb hX0 hbl hbA hS (k := i + 1) (by omega) (by omega) ha1 dL_law_715 ?_
  refine kl_mi (As := [.int a1]) (rest := [.int R0]) ⟨hx, hb, hml, hown, hts⟩ hMo (cwV 1 hts gL_law_X5_state rfl rfl rfl (by decide +kernel) ⟨by show f2 + 1 ≤ 10; omega, by show 8 + (5 + 11) + l2 ≤ 358; omega⟩) hLS hK hS hA (ci := 5) (q0 := 0) rfl rfl hem rfl hl.1 rfl (Nat.le_of_ble_eq_true rfl) dL_law_716 ⟨by omega, by omega⟩ (fun r u H locs hu hLS hS => ?_)
  refine k_t1 (show r = R0 from hu) ?_
  refine lv_icmp_eq (tgt := 724) hx hb dL_law_719 (by decide) (fun _ => ?_) (fun c9 => absurd rfl c9)
  exact kk u H locs _ hLS hS hl

set_option maxHeartbeats 800000 in
theorem arm_start {p : Program} {l : Launch} {e : Env} {s : State} {m : MethodId} {args : Array Value} {below : List Frame} {meth : Method} {c : Code} {H : Heap} {locs : List Loc} {cells slots : Nat} {Q : State → Prop} {A : Nat → Prop} {D : va_G} {cI cZ cJ : ClassId} {b L : Nat} {xs : Nat → Int32} {vf mo ou i : Nat} (hC : lC3 p s m args c A D (kty cI cZ cJ) b L xs) (hi : i + 5 ≤ L) (hL2 : L ≤ 2560) (hrm : cells + 1 ≤ room_1.cells ∧ slots + 6 ≤ room_1.slots) {ls : Array Slot} (hl : lv_has ls 7 (lwL b vf mo ou i)) (hS : va_S A s.heap H locs)
    {wx wm wo wx' : va_W} {SM : Type} {wm' : SM → va_W} {fs fm : List Value} (hex : wx[0]? = some (vf, .inr (4, fs))) (hem : wm[0]? = some (mo, .inr (5, fm))) (hLS : lS3 D A wx wm wo H) {a1 : Int32} (ha1 : xs (i + 1) = a1) {a2 : Int32} (ha2 : xs (i + 2) = a2) {f1 l1 f2 l2 : Nat} (hf : f1 ≤ 9 ∧ l1 ≤ 300 ∧ f2 ≤ 9 ∧ l2 ≤ 300)
    (hX : KV l yX4_start wsX4_start ({ frames := f1, cells := 0, slots := 0, locals := l1 }) D (kty cI cZ cJ) [.ref vf, .int a1, .int a2] wx (fun (_ : Unit) => True) (fun _ : Unit => wx') 0 0)
    (hMo : KV l yX5_start wsX5_start ({ frames := f2, cells := 0, slots := 0, locals := l2 }) D (kty cI cZ cJ) [.ref mo, .int a1, .int a2] wm (fun (_ : SM) => True) wm' 0 0)
    (kk : ∀ (u : SM) (H : Heap) (locs : List Loc) (ls : Array Slot), lS3 D A wx' (wm' u) wo H → va_S A s.heap H locs → lv_has ls 7 (lwL b vf mo ou i) → W p l e room_1 s m args below meth c H locs cells slots Q (F0 m 724 ls [])) :
    W p l e room_1 s m args below meth c H locs cells slots Q (F0 m 108 ls []) := by
  obtain ⟨⟨hx, hb, hml, hown, hts⟩, hA, hK, hCx, hX0, hbl, hbA⟩ := hC
  obtain ⟨hrm1, hrm2⟩ := hrm
  refine lv_aload_n hx hb dL_law_108 rfl (lv_at hl 1 rfl) ?_
  refine lv_aload_n hx hb dL_law_109 rfl (lv_at hl 0 rfl) ?_
  refine lv_iload hx hb dL_law_110 (lv_at hl 4 rfl) ?_
  refine lv_iconst (v := nI 1) hx hb dL_law_112 (by decide) ?_
  refine lv_iadd hx hb dL_law_113 ?_
  refine k_t1 (show nI i + nI 1 = nI (i + 1) from nI_add _ _) ?_
  refine k_sld hx hb hX0 hbl hbA hS (k := i + 1) (by omega) (by omega) ha1 dL_law_114 ?_
  refine lv_aload_n hx hb dL_law_115 rfl (lv_at hl 0 rfl) ?_
  refine lv_iload hx hb dL_law_116 (lv_at hl 4 rfl) ?_
  refine lv_iconst (v := nI 2) hx hb dL_law_118 (by decide) ?_
  refine lv_iadd hx hb dL_law_119 ?_
  refine k_t1 (show nI i + nI 2 = nI (i + 2) from nI_add _ _) ?_
  refine k_sld hx hb hX0 hbl hbA hS (k := i + 2) (by omega) (by omega) ha2 dL_law_120 ?_
  refine kl_xv (As := [.int a1, .int a2]) (rest := []) ⟨hx, hb, hml, hown, hts⟩ hX (cwV 2 hts gL_law_X4_start rfl rfl rfl (by decide +kernel) ⟨by show f1 + 1 ≤ 10; omega, by show 8 + (3 + 11) + l1 ≤ 358; omega⟩) hLS hK hS hA (ci := 4) (q0 := 0) rfl rfl hex rfl hl.1 rfl (Nat.le_of_ble_eq_true rfl) dL_law_121 ⟨by omega, by omega⟩ (fun u H locs hu hLS hS => ?_)
  refine lv_aload_n hx hb dL_law_124 rfl (lv_at hl 2 rfl) ?_
  refine lv_aload_n hx hb dL_law_125 rfl (lv_at hl 0 rfl) ?_
  refine lv_iload hx hb dL_law_126 (lv_at hl 4 rfl) ?_
  refine lv_iconst (v := nI 1) hx hb dL_law_128 (by decide) ?_
  refine lv_iadd hx hb dL_law_129 ?_
  refine k_t1 (show nI i + nI 1 = nI (i + 1) from nI_add _ _) ?_
  refine k_sld hx hb hX0 hbl hbA hS (k := i + 1) (by omega) (by omega) ha1 dL_law_130 ?_
  refine lv_aload_n hx hb dL_law_131 rfl (lv_at hl 0 rfl) ?_
  refine lv_iload hx hb dL_law_132 (lv_at hl 4 rfl) ?_
  refine lv_iconst (v := nI 2) hx hb dL_law_134 (by decide) ?_
  refine lv_iadd hx hb dL_law_135 ?_
  refine k_t1 (show nI i + nI 2 = nI (i + 2) from nI_add _ _) ?_
  refine k_sld hx hb hX0 hbl hbA hS (k := i + 2) (by omega) (by omega) ha2 dL_law_136 ?_
  refine kl_mv (As := [.int a1, .int a2]) (rest := []) ⟨hx, hb, hml, hown, hts⟩ hMo (cwV 2 hts gL_law_X5_start rfl rfl rfl (by decide +kernel) ⟨by show f2 + 1 ≤ 10; omega, by show 8 + (3 + 11) + l2 ≤ 358; omega⟩) hLS hK hS hA (ci := 5) (q0 := 0) rfl rfl hem rfl hl.1 rfl (Nat.le_of_ble_eq_true rfl) dL_law_137 ⟨by omega, by omega⟩ (fun u H locs hu hLS hS => ?_)
  refine lv_goto (tgt := 724) hx hb dL_law_140 (by decide) ?_
  exact kk u H locs _ hLS hS hl

set_option maxHeartbeats 800000 in
theorem arm_write {p : Program} {l : Launch} {e : Env} {s : State} {m : MethodId} {args : Array Value} {below : List Frame} {meth : Method} {c : Code} {H : Heap} {locs : List Loc} {cells slots : Nat} {Q : State → Prop} {A : Nat → Prop} {D : va_G} {cI cZ cJ : ClassId} {b L : Nat} {xs : Nat → Int32} {vf mo ou i : Nat} (hC : lC3 p s m args c A D (kty cI cZ cJ) b L xs) (hi : i + 5 ≤ L) (hL2 : L ≤ 2560) (hrm : cells + 1 ≤ room_1.cells ∧ slots + 6 ≤ room_1.slots) {ls : Array Slot} (hl : lv_has ls 7 (lwL b vf mo ou i)) (hS : va_S A s.heap H locs)
    {wx wm wo wx' : va_W} {SM : Type} {wm' : SM → va_W} {fs fm : List Value} (hex : wx[0]? = some (vf, .inr (4, fs))) (hem : wm[0]? = some (mo, .inr (5, fm))) (hLS : lS3 D A wx wm wo H) {a1 : Int32} (ha1 : xs (i + 1) = a1) {a2 : Int32} (ha2 : xs (i + 2) = a2) {a3 : Int32} (ha3 : xs (i + 3) = a3) {f2 l2 : Nat} (hf : f2 ≤ 9 ∧ l2 ≤ 300) {mc ms : Nat} (hmc : mc ≤ 1 ∧ ms ≤ 6) {R0 : Int32}
    (hX : KX l yL_write wsL_write ({ frames := 7, cells := mc, slots := ms, locals := 150 }) D (kty cI cZ cJ) [.ref vf, .int a1, .int a2, .int a3] wx (fun r (_ : Unit) => r = R0) (fun _ : Unit => wx') mc ms)
    (hMo : KV l yX5_write wsX5_write ({ frames := f2, cells := 0, slots := 0, locals := l2 }) D (kty cI cZ cJ) [.ref mo, .int a1, .int a2, .int a3] wm (fun (_ : SM) => True) wm' 0 0)
    (hem2 : ∀ u, ∃ fm, (wm' u)[0]? = some (mo, .inr (5, fm))) (hT : ∀ u : SM, KI l yX5_thrown wsX5_thrown ({ frames := 0, cells := 0, slots := 0, locals := 0 }) D (kty cI cZ cJ) [.ref mo] (wm' u) (fun r (_ : Unit) => r = R0) (fun _ : Unit => wm' u) 0 0)
    (kk : ∀ (u : SM) (H : Heap) (locs : List Loc) (ls : Array Slot), lS3 D A wx' (wm' u) wo H → va_S A s.heap H locs → lv_has ls 7 (lwL b vf mo ou i) → W p l e room_1 s m args below meth c H locs (cells + 1) (slots + 6) Q (F0 m 724 ls [])) :
    W p l e room_1 s m args below meth c H locs cells slots Q (F0 m 307 ls []) := by
  obtain ⟨⟨hx, hb, hml, hown, hts⟩, hA, hK, hCx, hX0, hbl, hbA⟩ := hC
  obtain ⟨hrm1, hrm2⟩ := hrm
  refine lv_aload_n hx hb dL_law_307 rfl (lv_at hl 1 rfl) ?_
  refine lv_aload_n hx hb dL_law_308 rfl (lv_at hl 0 rfl) ?_
  refine lv_iload hx hb dL_law_309 (lv_at hl 4 rfl) ?_
  refine lv_iconst (v := nI 1) hx hb dL_law_311 (by decide) ?_
  refine lv_iadd hx hb dL_law_312 ?_
  refine k_t1 (show nI i + nI 1 = nI (i + 1) from nI_add _ _) ?_
  refine k_sld hx hb hX0 hbl hbA hS (k := i + 1) (by omega) (by omega) ha1 dL_law_313 ?_
  refine lv_aload_n hx hb dL_law_314 rfl (lv_at hl 0 rfl) ?_
  refine lv_iload hx hb dL_law_315 (lv_at hl 4 rfl) ?_
  refine lv_iconst (v := nI 2) hx hb dL_law_317 (by decide) ?_
  refine lv_iadd hx hb dL_law_318 ?_
  refine k_t1 (show nI i + nI 2 = nI (i + 2) from nI_add _ _) ?_
  refine k_sld hx hb hX0 hbl hbA hS (k := i + 2) (by omega) (by omega) ha2 dL_law_319 ?_
  refine lv_aload_n hx hb dL_law_320 rfl (lv_at hl 0 rfl) ?_
  refine lv_iload hx hb dL_law_321 (lv_at hl 4 rfl) ?_
  refine lv_iconst (v := nI 3) hx hb dL_law_323 (by decide) ?_
  refine lv_iadd hx hb dL_law_324 ?_
  refine k_t1 (show nI i + nI 3 = nI (i + 3) from nI_add _ _) ?_
  refine k_sld hx hb hX0 hbl hbA hS (k := i + 3) (by omega) (by omega) ha3 dL_law_325 ?_
  refine kl_hx (As := [.ref vf, .int a1, .int a2, .int a3]) (rest := []) ⟨hx, hb, hml, hown, hts⟩ hX (vx_cwSW 4 hts gL_law_L_write rfl rfl rfl (by decide +kernel) ⟨Nat.le_of_ble_eq_true rfl, Nat.le_of_ble_eq_true rfl⟩) hLS hK hS hA hCx rfl hl.1 rfl (Nat.le_of_ble_eq_true rfl) dL_law_326 ⟨by omega, by omega⟩ (fun r u H locs hu hLS hS => ?_)
  refine k_t1 (show r = R0 from hu) ?_
  refine lv_istore (lv' := [(5, .int R0), (0, .ref b), (1, .ref vf), (2, .ref mo), (3, .ref ou), (4, .int (nI i))]) hx hb dL_law_329 hl (by decide) rfl (fun ls hl => ?_)
  refine lv_aload_n hx hb dL_law_331 rfl (lv_at hl 3 rfl) ?_
  refine lv_aload_n hx hb dL_law_332 rfl (lv_at hl 1 rfl) ?_
  refine lv_iload hx hb dL_law_333 (lv_at hl 5 rfl) ?_
  refine lv_iconst (v := nI 1) hx hb dL_law_335 (by decide) ?_
  refine lv_iadd hx hb dL_law_336 ?_
  refine k_t1 (show nI i + nI 1 = nI (i + 1) from nI_add _ _) ?_
  refine k_sld hx hb hX0 hbl hbA hS (k := i + 1) (by omega) (by omega) ha1 dL_law_337 ?_
  refine lv_aload_n hx hb dL_law_338 rfl (lv_at hl 1 rfl) ?_
  refine lv_iload hx hb dL_law_339 (lv_at hl 5 rfl) ?_
  refine lv_iconst (v := nI 2) hx hb dL_law_341 (by decide) ?_
  refine lv_iadd hx hb dL_law_342 ?_
  refine k_t1 (show nI i + nI 2 = nI (i + 2) from nI_add _ _) ?_
  refine k_sld hx hb hX0 hbl hbA hS (k := i + 2) (by omega) (by omega) ha2 dL_law_343 ?_
  refine lv_aload_n hx hb dL_law_344 rfl (lv_at hl 1 rfl) ?_
  refine lv_iload hx hb dL_law_345 (lv_at hl 5 rfl) ?_
  refine lv_iconst (v := nI 3) hx hb dL_law_347 (by decide) ?_
  refine lv_iadd hx hb dL_law_348 ?_
  refine k_t1 (show nI i + nI 3 = nI (i + 3) from nI_add _ _) ?_
  refine k_sld hx hb hX0 hbl hbA hS (k := i + 3) (by omega) (by omega) ha3 dL_law_349 ?_
  refine kl_mv (As := [.int a1, .int a2, .int a3]) (rest := []) ⟨hx, hb, hml, hown, hts⟩ hMo (cwV 3 hts gL_law_X5_write rfl rfl rfl (by decide +kernel) ⟨by show f2 + 1 ≤ 10; omega, by show 8 + (7 + 11) + l2 ≤ 358; omega⟩) hLS hK hS hA (ci := 5) (q0 := 0) rfl rfl hem rfl hl.1 rfl (Nat.le_of_ble_eq_true rfl) dL_law_350 ⟨by omega, by omega⟩ (fun u H locs hu hLS hS => ?_)
  obtain ⟨fm2, hem3⟩ := hem2 u
  refine lv_aload_n hx hb dL_law_353 rfl (lv_at hl 3 rfl) ?_
  refine kl_mi (As := []) (rest := []) ⟨hx, hb, hml, hown, hts⟩ (hT u) (cwV 0 hts gL_law_X5_thrown rfl rfl rfl (by decide +kernel) ⟨by show 0 + 1 ≤ 10; omega, by show 8 + (1 + 11) + 0 ≤ 358; omega⟩) hLS hK hS hA (ci := 5) (q0 := 0) rfl rfl hem3 rfl hl.1 rfl (Nat.le_of_ble_eq_true rfl) dL_law_354 ⟨by omega, by omega⟩ (fun r u9 H locs hu hLS hS => ?_)
  refine k_t1 (show r = R0 from hu) ?_
  refine lv_iload hx hb dL_law_357 (lv_at hl 0 rfl) ?_
  refine lv_icmp_eq (tgt := 364) hx hb dL_law_359 (by decide) (fun _ => ?_) (fun c9 => absurd rfl c9)
  refine lv_goto (tgt := 724) hx hb dL_law_364 (by decide) ?_
  exact W.widen (by omega) (by omega) (kk u H locs _ hLS hS (lv_sub hl [1, 2, 3, 4, 5] rfl))

set_option maxHeartbeats 800000 in
theorem arm_idle {p : Program} {l : Launch} {e : Env} {s : State} {m : MethodId} {args : Array Value} {below : List Frame} {meth : Method} {c : Code} {H : Heap} {locs : List Loc} {cells slots : Nat} {Q : State → Prop} {A : Nat → Prop} {D : va_G} {cI cZ cJ : ClassId} {b L : Nat} {xs : Nat → Int32} {vf mo ou i : Nat} (hC : lC3 p s m args c A D (kty cI cZ cJ) b L xs) (hi : i + 5 ≤ L) (hL2 : L ≤ 2560) (hrm : cells + 1 ≤ room_1.cells ∧ slots + 6 ≤ room_1.slots) {ls : Array Slot} (hl : lv_has ls 7 (lwL b vf mo ou i)) (hS : va_S A s.heap H locs)
    {wx wm wo wx' : va_W} {SM : Type} {wm' : SM → va_W} {fs fm : List Value} (hex : wx[0]? = some (vf, .inr (4, fs))) (hem : wm[0]? = some (mo, .inr (5, fm))) (hLS : lS3 D A wx wm wo H) {f2 l2 : Nat} (hf : f2 ≤ 9 ∧ l2 ≤ 300) {mc ms : Nat} (hmc : mc ≤ 1 ∧ ms ≤ 6) {R0 : Int32}
    (hX : KX l yL_idle wsL_idle ({ frames := 7, cells := mc, slots := ms, locals := 150 }) D (kty cI cZ cJ) [.ref vf] wx (fun r (_ : Unit) => r = R0) (fun _ : Unit => wx') mc ms)
    (hMo : KV l yX5_idle wsX5_idle ({ frames := f2, cells := 0, slots := 0, locals := l2 }) D (kty cI cZ cJ) [.ref mo] wm (fun (_ : SM) => True) wm' 0 0)
    (hem2 : ∀ u, ∃ fm, (wm' u)[0]? = some (mo, .inr (5, fm))) (hT : ∀ u : SM, KI l yX5_thrown wsX5_thrown ({ frames := 0, cells := 0, slots := 0, locals := 0 }) D (kty cI cZ cJ) [.ref mo] (wm' u) (fun r (_ : Unit) => r = R0) (fun _ : Unit => wm' u) 0 0)
    (kk : ∀ (u : SM) (H : Heap) (locs : List Loc) (ls : Array Slot), lS3 D A wx' (wm' u) wo H → va_S A s.heap H locs → lv_has ls 7 (lwL b vf mo ou i) → W p l e room_1 s m args below meth c H locs (cells + 1) (slots + 6) Q (F0 m 724 ls [])) :
    W p l e room_1 s m args below meth c H locs cells slots Q (F0 m 435 ls []) := by
  obtain ⟨⟨hx, hb, hml, hown, hts⟩, hA, hK, hCx, hX0, hbl, hbA⟩ := hC
  obtain ⟨hrm1, hrm2⟩ := hrm
  refine lv_aload_n hx hb dL_law_435 rfl (lv_at hl 1 rfl) ?_
  refine kl_hx (As := [.ref vf]) (rest := []) ⟨hx, hb, hml, hown, hts⟩ hX (vx_cwSW 1 hts gL_law_L_idle rfl rfl rfl (by decide +kernel) ⟨Nat.le_of_ble_eq_true rfl, Nat.le_of_ble_eq_true rfl⟩) hLS hK hS hA hCx rfl hl.1 rfl (Nat.le_of_ble_eq_true rfl) dL_law_436 ⟨by omega, by omega⟩ (fun r u H locs hu hLS hS => ?_)
  refine k_t1 (show r = R0 from hu) ?_
  refine lv_istore (lv' := [(5, .int R0), (0, .ref b), (1, .ref vf), (2, .ref mo), (3, .ref ou), (4, .int (nI i))]) hx hb dL_law_439 hl (by decide) rfl (fun ls hl => ?_)
  refine lv_aload_n hx hb dL_law_441 rfl (lv_at hl 3 rfl) ?_
  refine kl_mv (As := []) (rest := []) ⟨hx, hb, hml, hown, hts⟩ hMo (cwV 0 hts gL_law_X5_idle rfl rfl rfl (by decide +kernel) ⟨by show f2 + 1 ≤ 10; omega, by show 8 + (2 + 11) + l2 ≤ 358; omega⟩) hLS hK hS hA (ci := 5) (q0 := 0) rfl rfl hem rfl hl.1 rfl (Nat.le_of_ble_eq_true rfl) dL_law_442 ⟨by omega, by omega⟩ (fun u H locs hu hLS hS => ?_)
  obtain ⟨fm2, hem3⟩ := hem2 u
  refine lv_aload_n hx hb dL_law_445 rfl (lv_at hl 3 rfl) ?_
  refine kl_mi (As := []) (rest := []) ⟨hx, hb, hml, hown, hts⟩ (hT u) (cwV 0 hts gL_law_X5_thrown rfl rfl rfl (by decide +kernel) ⟨by show 0 + 1 ≤ 10; omega, by show 8 + (1 + 11) + 0 ≤ 358; omega⟩) hLS hK hS hA (ci := 5) (q0 := 0) rfl rfl hem3 rfl hl.1 rfl (Nat.le_of_ble_eq_true rfl) dL_law_446 ⟨by omega, by omega⟩ (fun r u9 H locs hu hLS hS => ?_)
  refine k_t1 (show r = R0 from hu) ?_
  refine lv_iload hx hb dL_law_449 (lv_at hl 0 rfl) ?_
  refine lv_icmp_eq (tgt := 456) hx hb dL_law_451 (by decide) (fun _ => ?_) (fun c9 => absurd rfl c9)
  refine lv_goto (tgt := 724) hx hb dL_law_456 (by decide) ?_
  exact W.widen (by omega) (by omega) (kk u H locs _ hLS hS (lv_sub hl [1, 2, 3, 4, 5] rfl))

set_option maxHeartbeats 800000 in
theorem arm_read_t {p : Program} {l : Launch} {e : Env} {s : State} {m : MethodId} {args : Array Value} {below : List Frame} {meth : Method} {c : Code} {H : Heap} {locs : List Loc} {cells slots : Nat} {Q : State → Prop} {A : Nat → Prop} {D : va_G} {cI cZ cJ : ClassId} {b L : Nat} {xs : Nat → Int32} {vf mo ou i : Nat} (hC : lC3 p s m args c A D (kty cI cZ cJ) b L xs) (hi : i + 5 ≤ L) (hL2 : L ≤ 2560) (hrm : cells + 1 ≤ room_1.cells ∧ slots + 6 ≤ room_1.slots) {ls : Array Slot} (hl : lv_has ls 7 (lwL b vf mo ou i)) (hS : va_S A s.heap H locs)
    {wx wm wx' : va_W} {fo : Nat → Int64} {SM : Type} {wm' : SM → va_W} {fs fm : List Value} (hex : wx[0]? = some (vf, .inr (4, fs))) (hem : wm[0]? = some (mo, .inr (5, fm))) (hLS : lS3 D A wx wm [(ou, .inl (cJ, 1, .inr (.inl fo)))] H) {a1 : Int32} (ha1 : xs (i + 1) = a1) {a2 : Int32} (ha2 : xs (i + 2) = a2) {f2 l2 : Nat} (hf : f2 ≤ 9 ∧ l2 ≤ 300) {mc ms : Nat} (hmc : mc ≤ 1 ∧ ms ≤ 6) {V0 R0 : Int32} (hR0 : ¬ R0 = 0)
    (hX : KX l yL_read wsL_read ({ frames := 7, cells := mc, slots := ms, locals := 150 }) D (kty cI cZ cJ) [.ref vf, .int a1, .int a2, .ref ou] ([(ou, .inl (cJ, 1, .inr (.inl fo)))] ++ wx) (fun r (_ : Unit) => r = R0) (fun _ : Unit => [(ou, .inl (cJ, 1, .inr (.inl fo)))] ++ wx') mc ms)
    (hMo : KI l yX5_read wsX5_read ({ frames := f2, cells := 0, slots := 0, locals := l2 }) D (kty cI cZ cJ) [.ref mo, .int a1, .int a2] wm (fun r (_ : SM) => r = V0) wm' 0 0)
    (hem2 : ∀ u, ∃ fm, (wm' u)[0]? = some (mo, .inr (5, fm))) (hT : ∀ u : SM, KI l yX5_thrown wsX5_thrown ({ frames := 0, cells := 0, slots := 0, locals := 0 }) D (kty cI cZ cJ) [.ref mo] (wm' u) (fun r (_ : Unit) => r = R0) (fun _ : Unit => wm' u) 0 0)
    (kk : ∀ (u : SM) (H : Heap) (locs : List Loc) (ls : Array Slot), lS3 D A wx' (wm' u) [(ou, .inl (cJ, 1, .inr (.inl fo)))] H → va_S A s.heap H locs → lv_has ls 7 (lwL b vf mo ou i) → W p l e room_1 s m args below meth c H locs (cells + 1) (slots + 6) Q (F0 m 724 ls [])) :
    W p l e room_1 s m args below meth c H locs cells slots Q (F0 m 367 ls []) := by
  obtain ⟨⟨hx, hb, hml, hown, hts⟩, hA, hK, hCx, hX0, hbl, hbA⟩ := hC
  obtain ⟨hrm1, hrm2⟩ := hrm
  refine lv_aload_n hx hb dL_law_367 rfl (lv_at hl 1 rfl) ?_
  refine lv_aload_n hx hb dL_law_368 rfl (lv_at hl 0 rfl) ?_
  refine lv_iload hx hb dL_law_369 (lv_at hl 4 rfl) ?_
  refine lv_iconst (v := nI 1) hx hb dL_law_371 (by decide) ?_
  refine lv_iadd hx hb dL_law_372 ?_
  refine k_t1 (show nI i + nI 1 = nI (i + 1) from nI_add _ _) ?_
  refine k_sld hx hb hX0 hbl hbA hS (k := i + 1) (by omega) (by omega) ha1 dL_law_373 ?_
  refine lv_aload_n hx hb dL_law_374 rfl (lv_at hl 0 rfl) ?_
  refine lv_iload hx hb dL_law_375 (lv_at hl 4 rfl) ?_
  refine lv_iconst (v := nI 2) hx hb dL_law_377 (by decide) ?_
  refine lv_iadd hx hb dL_law_378 ?_
  refine k_t1 (show nI i + nI 2 = nI (i + 2) from nI_add _ _) ?_
  refine k_sld hx hb hX0 hbl hbA hS (k := i + 2) (by omega) (by omega) ha2 dL_law_379 ?_
  refine lv_aload_n hx hb dL_law_380 rfl (lv_at hl 3 rfl) ?_
  refine kl_ho (wf1 := fun _ : Unit => [(ou, .inl (cJ, 1, .inr (.inl fo)))]) (wf2 := fun _ : Unit => wx') (As := [.ref vf, .int a1, .int a2, .ref ou]) (rest := []) ⟨hx, hb, hml, hown, hts⟩ hX (vx_cwSW 4 hts gL_law_L_read rfl rfl rfl (by decide +kernel) ⟨Nat.le_of_ble_eq_true rfl, Nat.le_of_ble_eq_true rfl⟩) hLS hK hS hA hCx rfl hl.1 rfl (Nat.le_of_ble_eq_true rfl) dL_law_381 ⟨by omega, by omega⟩ (fun r u H locs hu hLS hS => ?_)
  refine k_t1 (show r = R0 from hu) ?_
  refine lv_istore (lv' := [(5, .int R0), (0, .ref b), (1, .ref vf), (2, .ref mo), (3, .ref ou), (4, .int (nI i))]) hx hb dL_law_384 hl (by decide) rfl (fun ls hl => ?_)
  refine lv_aload_n hx hb dL_law_386 rfl (lv_at hl 3 rfl) ?_
  refine lv_aload_n hx hb dL_law_387 rfl (lv_at hl 1 rfl) ?_
  refine lv_iload hx hb dL_law_388 (lv_at hl 5 rfl) ?_
  refine lv_iconst (v := nI 1) hx hb dL_law_390 (by decide) ?_
  refine lv_iadd hx hb dL_law_391 ?_
  refine k_t1 (show nI i + nI 1 = nI (i + 1) from nI_add _ _) ?_
  refine k_sld hx hb hX0 hbl hbA hS (k := i + 1) (by omega) (by omega) ha1 dL_law_392 ?_
  refine lv_aload_n hx hb dL_law_393 rfl (lv_at hl 1 rfl) ?_
  refine lv_iload hx hb dL_law_394 (lv_at hl 5 rfl) ?_
  refine lv_iconst (v := nI 2) hx hb dL_law_396 (by decide) ?_
  refine lv_iadd hx hb dL_law_397 ?_
  refine k_t1 (show nI i + nI 2 = nI (i + 2) from nI_add _ _) ?_
  refine k_sld hx hb hX0 hbl hbA hS (k := i + 2) (by omega) (by omega) ha2 dL_law_398 ?_
  refine kl_mi (As := [.int a1, .int a2]) (rest := []) ⟨hx, hb, hml, hown, hts⟩ hMo (cwV 2 hts gL_law_X5_read rfl rfl rfl (by decide +kernel) ⟨by show f2 + 1 ≤ 10; omega, by show 8 + (4 + 11) + l2 ≤ 358; omega⟩) hLS hK hS hA (ci := 5) (q0 := 0) rfl rfl hem rfl hl.1 rfl (Nat.le_of_ble_eq_true rfl) dL_law_399 ⟨by omega, by omega⟩ (fun r u H locs hu hLS hS => ?_)
  refine k_t1 (show r = V0 from hu) ?_
  refine lv_istore (lv' := [(6, .int V0), (5, .int R0), (0, .ref b), (1, .ref vf), (2, .ref mo), (3, .ref ou), (4, .int (nI i))]) hx hb dL_law_402 hl (by decide) rfl (fun ls hl => ?_)
  refine lv_aload_n hx hb dL_law_404 rfl (lv_at hl 4 rfl) ?_
  obtain ⟨fm2, hem3⟩ := hem2 u
  refine kl_mi (As := []) (rest := []) ⟨hx, hb, hml, hown, hts⟩ (hT u) (cwV 0 hts gL_law_X5_thrown rfl rfl rfl (by decide +kernel) ⟨by show 0 + 1 ≤ 10; omega, by show 8 + (1 + 11) + 0 ≤ 358; omega⟩) hLS hK hS hA (ci := 5) (q0 := 0) rfl rfl hem3 rfl hl.1 rfl (Nat.le_of_ble_eq_true rfl) dL_law_405 ⟨by omega, by omega⟩ (fun r u9 H locs hu hLS hS => ?_)
  refine k_t1 (show r = R0 from hu) ?_
  refine lv_iload hx hb dL_law_408 (lv_at hl 1 rfl) ?_
  refine lv_icmp_eq (tgt := 415) hx hb dL_law_410 (by decide) (fun _ => ?_) (fun c9 => absurd rfl c9)
  refine lv_iload hx hb dL_law_415 (lv_at hl 1 rfl) ?_
  refine lv_if_ne (tgt := 432) hx hb dL_law_417 (by decide) (fun _ => ?_) (fun c9 => absurd c9 hR0)
  refine lv_goto (tgt := 724) hx hb dL_law_432 (by decide) ?_
  exact W.widen (by omega) (by omega) (kk u H locs _ hLS hS (lv_sub hl [2, 3, 4, 5, 6] rfl))

set_option maxHeartbeats 800000 in
theorem arm_read_ok {p : Program} {l : Launch} {e : Env} {s : State} {m : MethodId} {args : Array Value} {below : List Frame} {meth : Method} {c : Code} {H : Heap} {locs : List Loc} {cells slots : Nat} {Q : State → Prop} {A : Nat → Prop} {D : va_G} {cI cZ cJ : ClassId} {b L : Nat} {xs : Nat → Int32} {vf mo ou i : Nat} (hC : lC3 p s m args c A D (kty cI cZ cJ) b L xs) (hi : i + 5 ≤ L) (hL2 : L ≤ 2560) (hrm : cells + 1 ≤ room_1.cells ∧ slots + 6 ≤ room_1.slots) {ls : Array Slot} (hl : lv_has ls 7 (lwL b vf mo ou i)) (hS : va_S A s.heap H locs)
    {wx wm wx' : va_W} {fo : Nat → Int64} {SM : Type} {wm' : SM → va_W} {fs fm : List Value} (hex : wx[0]? = some (vf, .inr (4, fs))) (hem : wm[0]? = some (mo, .inr (5, fm))) (hLS : lS3 D A wx wm [(ou, .inl (cJ, 1, .inr (.inl fo)))] H) {a1 : Int32} (ha1 : xs (i + 1) = a1) {a2 : Int32} (ha2 : xs (i + 2) = a2) {f2 l2 : Nat} (hf : f2 ≤ 9 ∧ l2 ≤ 300) {mc ms : Nat} (hmc : mc ≤ 1 ∧ ms ≤ 6) {V0 : Int32}
    (hX : KX l yL_read wsL_read ({ frames := 7, cells := mc, slots := ms, locals := 150 }) D (kty cI cZ cJ) [.ref vf, .int a1, .int a2, .ref ou] ([(ou, .inl (cJ, 1, .inr (.inl fo)))] ++ wx) (fun r (_ : Unit) => r = 0) (fun _ : Unit => [(ou, .inl (cJ, 1, .inr (.inl (vp_updL fo 0 V0.toInt64))))] ++ wx') mc ms)
    (hMo : KI l yX5_read wsX5_read ({ frames := f2, cells := 0, slots := 0, locals := l2 }) D (kty cI cZ cJ) [.ref mo, .int a1, .int a2] wm (fun r (_ : SM) => r = V0) wm' 0 0)
    (hem2 : ∀ u, ∃ fm, (wm' u)[0]? = some (mo, .inr (5, fm))) (hT : ∀ u : SM, KI l yX5_thrown wsX5_thrown ({ frames := 0, cells := 0, slots := 0, locals := 0 }) D (kty cI cZ cJ) [.ref mo] (wm' u) (fun r (_ : Unit) => r = 0) (fun _ : Unit => wm' u) 0 0)
    (kk : ∀ (u : SM) (H : Heap) (locs : List Loc) (ls : Array Slot), lS3 D A wx' (wm' u) [(ou, .inl (cJ, 1, .inr (.inl (vp_updL fo 0 V0.toInt64))))] H → va_S A s.heap H locs → lv_has ls 7 (lwL b vf mo ou i) → W p l e room_1 s m args below meth c H locs (cells + 1) (slots + 6) Q (F0 m 724 ls [])) :
    W p l e room_1 s m args below meth c H locs cells slots Q (F0 m 367 ls []) := by
  obtain ⟨⟨hx, hb, hml, hown, hts⟩, hA, hK, hCx, hX0, hbl, hbA⟩ := hC
  obtain ⟨hrm1, hrm2⟩ := hrm
  refine lv_aload_n hx hb dL_law_367 rfl (lv_at hl 1 rfl) ?_
  refine lv_aload_n hx hb dL_law_368 rfl (lv_at hl 0 rfl) ?_
  refine lv_iload hx hb dL_law_369 (lv_at hl 4 rfl) ?_
  refine lv_iconst (v := nI 1) hx hb dL_law_371 (by decide) ?_
  refine lv_iadd hx hb dL_law_372 ?_
  refine k_t1 (show nI i + nI 1 = nI (i + 1) from nI_add _ _) ?_
  refine k_sld hx hb hX0 hbl hbA hS (k := i + 1) (by omega) (by omega) ha1 dL_law_373 ?_
  refine lv_aload_n hx hb dL_law_374 rfl (lv_at hl 0 rfl) ?_
  refine lv_iload hx hb dL_law_375 (lv_at hl 4 rfl) ?_
  refine lv_iconst (v := nI 2) hx hb dL_law_377 (by decide) ?_
  refine lv_iadd hx hb dL_law_378 ?_
  refine k_t1 (show nI i + nI 2 = nI (i + 2) from nI_add _ _) ?_
  refine k_sld hx hb hX0 hbl hbA hS (k := i + 2) (by omega) (by omega) ha2 dL_law_379 ?_
  refine lv_aload_n hx hb dL_law_380 rfl (lv_at hl 3 rfl) ?_
  refine kl_ho (wf1 := fun _ : Unit => [(ou, .inl (cJ, 1, .inr (.inl (vp_updL fo 0 V0.toInt64))))]) (wf2 := fun _ : Unit => wx') (As := [.ref vf, .int a1, .int a2, .ref ou]) (rest := []) ⟨hx, hb, hml, hown, hts⟩ hX (vx_cwSW 4 hts gL_law_L_read rfl rfl rfl (by decide +kernel) ⟨Nat.le_of_ble_eq_true rfl, Nat.le_of_ble_eq_true rfl⟩) hLS hK hS hA hCx rfl hl.1 rfl (Nat.le_of_ble_eq_true rfl) dL_law_381 ⟨by omega, by omega⟩ (fun r u H locs hu hLS hS => ?_)
  refine k_t1 (show r = 0 from hu) ?_
  refine lv_istore (lv' := [(5, .int 0), (0, .ref b), (1, .ref vf), (2, .ref mo), (3, .ref ou), (4, .int (nI i))]) hx hb dL_law_384 hl (by decide) rfl (fun ls hl => ?_)
  refine lv_aload_n hx hb dL_law_386 rfl (lv_at hl 3 rfl) ?_
  refine lv_aload_n hx hb dL_law_387 rfl (lv_at hl 1 rfl) ?_
  refine lv_iload hx hb dL_law_388 (lv_at hl 5 rfl) ?_
  refine lv_iconst (v := nI 1) hx hb dL_law_390 (by decide) ?_
  refine lv_iadd hx hb dL_law_391 ?_
  refine k_t1 (show nI i + nI 1 = nI (i + 1) from nI_add _ _) ?_
  refine k_sld hx hb hX0 hbl hbA hS (k := i + 1) (by omega) (by omega) ha1 dL_law_392 ?_
  refine lv_aload_n hx hb dL_law_393 rfl (lv_at hl 1 rfl) ?_
  refine lv_iload hx hb dL_law_394 (lv_at hl 5 rfl) ?_
  refine lv_iconst (v := nI 2) hx hb dL_law_396 (by decide) ?_
  refine lv_iadd hx hb dL_law_397 ?_
  refine k_t1 (show nI i + nI 2 = nI (i + 2) from nI_add _ _) ?_
  refine k_sld hx hb hX0 hbl hbA hS (k := i + 2) (by omega) (by omega) ha2 dL_law_398 ?_
  refine kl_mi (As := [.int a1, .int a2]) (rest := []) ⟨hx, hb, hml, hown, hts⟩ hMo (cwV 2 hts gL_law_X5_read rfl rfl rfl (by decide +kernel) ⟨by show f2 + 1 ≤ 10; omega, by show 8 + (4 + 11) + l2 ≤ 358; omega⟩) hLS hK hS hA (ci := 5) (q0 := 0) rfl rfl hem rfl hl.1 rfl (Nat.le_of_ble_eq_true rfl) dL_law_399 ⟨by omega, by omega⟩ (fun r u H locs hu hLS hS => ?_)
  refine k_t1 (show r = V0 from hu) ?_
  refine lv_istore (lv' := [(6, .int V0), (5, .int 0), (0, .ref b), (1, .ref vf), (2, .ref mo), (3, .ref ou), (4, .int (nI i))]) hx hb dL_law_402 hl (by decide) rfl (fun ls hl => ?_)
  refine lv_aload_n hx hb dL_law_404 rfl (lv_at hl 4 rfl) ?_
  obtain ⟨fm2, hem3⟩ := hem2 u
  refine kl_mi (As := []) (rest := []) ⟨hx, hb, hml, hown, hts⟩ (hT u) (cwV 0 hts gL_law_X5_thrown rfl rfl rfl (by decide +kernel) ⟨by show 0 + 1 ≤ 10; omega, by show 8 + (1 + 11) + 0 ≤ 358; omega⟩) hLS hK hS hA (ci := 5) (q0 := 0) rfl rfl hem3 rfl hl.1 rfl (Nat.le_of_ble_eq_true rfl) dL_law_405 ⟨by omega, by omega⟩ (fun r u9 H locs hu hLS hS => ?_)
  refine k_t1 (show r = 0 from hu) ?_
  refine lv_iload hx hb dL_law_408 (lv_at hl 1 rfl) ?_
  refine lv_icmp_eq (tgt := 415) hx hb dL_law_410 (by decide) (fun _ => ?_) (fun c9 => absurd rfl c9)
  refine lv_iload hx hb dL_law_415 (lv_at hl 1 rfl) ?_
  refine lv_if_ne (tgt := 432) hx hb dL_law_417 (by decide) (fun c9 => absurd rfl c9) (fun _ => ?_)
  refine lv_aload_n hx hb dL_law_420 rfl (lv_at hl 5 rfl) ?_
  refine lv_iconst (v := nI 0) hx hb dL_law_421 (by decide) ?_
  refine k_lald hx hb hK hLS.2.2.1.1 0 2 rfl rfl 0 (by decide) (by decide) (v := V0.toInt64) (by simp [vp_updL]) dL_law_422 ?_
  refine lv_iload hx hb dL_law_423 (lv_at hl 0 rfl) ?_
  refine lv_i2l (v := (V0).toInt64) hx hb dL_law_425 rfl ?_
  refine W.lcmp hx hb dL_law_426 ?_
  refine k_t1 (show lg_cmp V0.toInt64 V0.toInt64 = 0 from lg_cmp_0.mpr rfl) ?_
  refine lv_if_eq (tgt := 432) hx hb dL_law_427 (by decide) (fun _ => ?_) (fun c9 => absurd rfl c9)
  refine lv_goto (tgt := 724) hx hb dL_law_432 (by decide) ?_
  exact W.widen (by omega) (by omega) (kk u H locs _ hLS hS (lv_sub hl [2, 3, 4, 5, 6] rfl))

set_option maxHeartbeats 800000 in
theorem arm_sealed_t {p : Program} {l : Launch} {e : Env} {s : State} {m : MethodId} {args : Array Value} {below : List Frame} {meth : Method} {c : Code} {H : Heap} {locs : List Loc} {cells slots : Nat} {Q : State → Prop} {A : Nat → Prop} {D : va_G} {cI cZ cJ : ClassId} {b L : Nat} {xs : Nat → Int32} {vf mo ou i : Nat} (hC : lC3 p s m args c A D (kty cI cZ cJ) b L xs) (hi : i + 5 ≤ L) (hL2 : L ≤ 2560) (hrm : cells + 1 ≤ room_1.cells ∧ slots + 6 ≤ room_1.slots) {ls : Array Slot} (hl : lv_has ls 7 (lwL b vf mo ou i)) (hS : va_S A s.heap H locs)
    {wx wm wx' : va_W} {fo : Nat → Int64} {SM : Type} {wm' : SM → va_W} {fs fm : List Value} (hex : wx[0]? = some (vf, .inr (4, fs))) (hem : wm[0]? = some (mo, .inr (5, fm))) (hLS : lS3 D A wx wm [(ou, .inl (cJ, 1, .inr (.inl fo)))] H) {a1 : Int32} (ha1 : xs (i + 1) = a1) {a2 : Int32} (ha2 : xs (i + 2) = a2) {a3 : Int32} (ha3 : xs (i + 3) = a3) {f2 l2 : Nat} (hf : f2 ≤ 9 ∧ l2 ≤ 300) {mc ms : Nat} (hmc : mc ≤ 1 ∧ ms ≤ 6) {V0 R0 : Int32} (hR0 : ¬ R0 = 0)
    (hX : KX l yL_sealed wsL_sealed ({ frames := 7, cells := mc, slots := ms, locals := 150 }) D (kty cI cZ cJ) [.ref vf, .int a1, .int a2, .int a3, .ref ou] ([(ou, .inl (cJ, 1, .inr (.inl fo)))] ++ wx) (fun r (_ : Unit) => r = R0) (fun _ : Unit => [(ou, .inl (cJ, 1, .inr (.inl fo)))] ++ wx') mc ms)
    (hMo : KI l yX5_sealed wsX5_sealed ({ frames := f2, cells := 0, slots := 0, locals := l2 }) D (kty cI cZ cJ) [.ref mo, .int a1, .int a2, .int a3] wm (fun r (_ : SM) => r = V0) wm' 0 0)
    (hem2 : ∀ u, ∃ fm, (wm' u)[0]? = some (mo, .inr (5, fm))) (hT : ∀ u : SM, KI l yX5_thrown wsX5_thrown ({ frames := 0, cells := 0, slots := 0, locals := 0 }) D (kty cI cZ cJ) [.ref mo] (wm' u) (fun r (_ : Unit) => r = R0) (fun _ : Unit => wm' u) 0 0)
    (kk : ∀ (u : SM) (H : Heap) (locs : List Loc) (ls : Array Slot), lS3 D A wx' (wm' u) [(ou, .inl (cJ, 1, .inr (.inl fo)))] H → va_S A s.heap H locs → lv_has ls 7 (lwL b vf mo ou i) → W p l e room_1 s m args below meth c H locs (cells + 1) (slots + 6) Q (F0 m 724 ls [])) :
    W p l e room_1 s m args below meth c H locs cells slots Q (F0 m 459 ls []) := by
  obtain ⟨⟨hx, hb, hml, hown, hts⟩, hA, hK, hCx, hX0, hbl, hbA⟩ := hC
  obtain ⟨hrm1, hrm2⟩ := hrm
  refine lv_aload_n hx hb dL_law_459 rfl (lv_at hl 1 rfl) ?_
  refine lv_aload_n hx hb dL_law_460 rfl (lv_at hl 0 rfl) ?_
  refine lv_iload hx hb dL_law_461 (lv_at hl 4 rfl) ?_
  refine lv_iconst (v := nI 1) hx hb dL_law_463 (by decide) ?_
  refine lv_iadd hx hb dL_law_464 ?_
  refine k_t1 (show nI i + nI 1 = nI (i + 1) from nI_add _ _) ?_
  refine k_sld hx hb hX0 hbl hbA hS (k := i + 1) (by omega) (by omega) ha1 dL_law_465 ?_
  refine lv_aload_n hx hb dL_law_466 rfl (lv_at hl 0 rfl) ?_
  refine lv_iload hx hb dL_law_467 (lv_at hl 4 rfl) ?_
  refine lv_iconst (v := nI 2) hx hb dL_law_469 (by decide) ?_
  refine lv_iadd hx hb dL_law_470 ?_
  refine k_t1 (show nI i + nI 2 = nI (i + 2) from nI_add _ _) ?_
  refine k_sld hx hb hX0 hbl hbA hS (k := i + 2) (by omega) (by omega) ha2 dL_law_471 ?_
  refine lv_aload_n hx hb dL_law_472 rfl (lv_at hl 0 rfl) ?_
  refine lv_iload hx hb dL_law_473 (lv_at hl 4 rfl) ?_
  refine lv_iconst (v := nI 3) hx hb dL_law_475 (by decide) ?_
  refine lv_iadd hx hb dL_law_476 ?_
  refine k_t1 (show nI i + nI 3 = nI (i + 3) from nI_add _ _) ?_
  refine k_sld hx hb hX0 hbl hbA hS (k := i + 3) (by omega) (by omega) ha3 dL_law_477 ?_
  refine lv_aload_n hx hb dL_law_478 rfl (lv_at hl 3 rfl) ?_
  refine kl_ho (wf1 := fun _ : Unit => [(ou, .inl (cJ, 1, .inr (.inl fo)))]) (wf2 := fun _ : Unit => wx') (As := [.ref vf, .int a1, .int a2, .int a3, .ref ou]) (rest := []) ⟨hx, hb, hml, hown, hts⟩ hX (vx_cwSW 5 hts gL_law_L_sealed rfl rfl rfl (by decide +kernel) ⟨Nat.le_of_ble_eq_true rfl, Nat.le_of_ble_eq_true rfl⟩) hLS hK hS hA hCx rfl hl.1 rfl (Nat.le_of_ble_eq_true rfl) dL_law_479 ⟨by omega, by omega⟩ (fun r u H locs hu hLS hS => ?_)
  refine k_t1 (show r = R0 from hu) ?_
  refine lv_istore (lv' := [(5, .int R0), (0, .ref b), (1, .ref vf), (2, .ref mo), (3, .ref ou), (4, .int (nI i))]) hx hb dL_law_482 hl (by decide) rfl (fun ls hl => ?_)
  refine lv_aload_n hx hb dL_law_484 rfl (lv_at hl 3 rfl) ?_
  refine lv_aload_n hx hb dL_law_485 rfl (lv_at hl 1 rfl) ?_
  refine lv_iload hx hb dL_law_486 (lv_at hl 5 rfl) ?_
  refine lv_iconst (v := nI 1) hx hb dL_law_488 (by decide) ?_
  refine lv_iadd hx hb dL_law_489 ?_
  refine k_t1 (show nI i + nI 1 = nI (i + 1) from nI_add _ _) ?_
  refine k_sld hx hb hX0 hbl hbA hS (k := i + 1) (by omega) (by omega) ha1 dL_law_490 ?_
  refine lv_aload_n hx hb dL_law_491 rfl (lv_at hl 1 rfl) ?_
  refine lv_iload hx hb dL_law_492 (lv_at hl 5 rfl) ?_
  refine lv_iconst (v := nI 2) hx hb dL_law_494 (by decide) ?_
  refine lv_iadd hx hb dL_law_495 ?_
  refine k_t1 (show nI i + nI 2 = nI (i + 2) from nI_add _ _) ?_
  refine k_sld hx hb hX0 hbl hbA hS (k := i + 2) (by omega) (by omega) ha2 dL_law_496 ?_
  refine lv_aload_n hx hb dL_law_497 rfl (lv_at hl 1 rfl) ?_
  refine lv_iload hx hb dL_law_498 (lv_at hl 5 rfl) ?_
  refine lv_iconst (v := nI 3) hx hb dL_law_500 (by decide) ?_
  refine lv_iadd hx hb dL_law_501 ?_
  refine k_t1 (show nI i + nI 3 = nI (i + 3) from nI_add _ _) ?_
  refine k_sld hx hb hX0 hbl hbA hS (k := i + 3) (by omega) (by omega) ha3 dL_law_502 ?_
  refine kl_mi (As := [.int a1, .int a2, .int a3]) (rest := []) ⟨hx, hb, hml, hown, hts⟩ hMo (cwV 3 hts gL_law_X5_sealed rfl rfl rfl (by decide +kernel) ⟨by show f2 + 1 ≤ 10; omega, by show 8 + (4 + 11) + l2 ≤ 358; omega⟩) hLS hK hS hA (ci := 5) (q0 := 0) rfl rfl hem rfl hl.1 rfl (Nat.le_of_ble_eq_true rfl) dL_law_503 ⟨by omega, by omega⟩ (fun r u H locs hu hLS hS => ?_)
  refine k_t1 (show r = V0 from hu) ?_
  refine lv_istore (lv' := [(6, .int V0), (5, .int R0), (0, .ref b), (1, .ref vf), (2, .ref mo), (3, .ref ou), (4, .int (nI i))]) hx hb dL_law_506 hl (by decide) rfl (fun ls hl => ?_)
  refine lv_aload_n hx hb dL_law_508 rfl (lv_at hl 4 rfl) ?_
  obtain ⟨fm2, hem3⟩ := hem2 u
  refine kl_mi (As := []) (rest := []) ⟨hx, hb, hml, hown, hts⟩ (hT u) (cwV 0 hts gL_law_X5_thrown rfl rfl rfl (by decide +kernel) ⟨by show 0 + 1 ≤ 10; omega, by show 8 + (1 + 11) + 0 ≤ 358; omega⟩) hLS hK hS hA (ci := 5) (q0 := 0) rfl rfl hem3 rfl hl.1 rfl (Nat.le_of_ble_eq_true rfl) dL_law_509 ⟨by omega, by omega⟩ (fun r u9 H locs hu hLS hS => ?_)
  refine k_t1 (show r = R0 from hu) ?_
  refine lv_iload hx hb dL_law_512 (lv_at hl 1 rfl) ?_
  refine lv_icmp_eq (tgt := 519) hx hb dL_law_514 (by decide) (fun _ => ?_) (fun c9 => absurd rfl c9)
  refine lv_iload hx hb dL_law_519 (lv_at hl 1 rfl) ?_
  refine lv_if_ne (tgt := 536) hx hb dL_law_521 (by decide) (fun _ => ?_) (fun c9 => absurd c9 hR0)
  refine lv_goto (tgt := 724) hx hb dL_law_536 (by decide) ?_
  exact W.widen (by omega) (by omega) (kk u H locs _ hLS hS (lv_sub hl [2, 3, 4, 5, 6] rfl))

set_option maxHeartbeats 800000 in
theorem arm_sealed_ok {p : Program} {l : Launch} {e : Env} {s : State} {m : MethodId} {args : Array Value} {below : List Frame} {meth : Method} {c : Code} {H : Heap} {locs : List Loc} {cells slots : Nat} {Q : State → Prop} {A : Nat → Prop} {D : va_G} {cI cZ cJ : ClassId} {b L : Nat} {xs : Nat → Int32} {vf mo ou i : Nat} (hC : lC3 p s m args c A D (kty cI cZ cJ) b L xs) (hi : i + 5 ≤ L) (hL2 : L ≤ 2560) (hrm : cells + 1 ≤ room_1.cells ∧ slots + 6 ≤ room_1.slots) {ls : Array Slot} (hl : lv_has ls 7 (lwL b vf mo ou i)) (hS : va_S A s.heap H locs)
    {wx wm wx' : va_W} {fo : Nat → Int64} {SM : Type} {wm' : SM → va_W} {fs fm : List Value} (hex : wx[0]? = some (vf, .inr (4, fs))) (hem : wm[0]? = some (mo, .inr (5, fm))) (hLS : lS3 D A wx wm [(ou, .inl (cJ, 1, .inr (.inl fo)))] H) {a1 : Int32} (ha1 : xs (i + 1) = a1) {a2 : Int32} (ha2 : xs (i + 2) = a2) {a3 : Int32} (ha3 : xs (i + 3) = a3) {f2 l2 : Nat} (hf : f2 ≤ 9 ∧ l2 ≤ 300) {mc ms : Nat} (hmc : mc ≤ 1 ∧ ms ≤ 6) {V0 : Int32}
    (hX : KX l yL_sealed wsL_sealed ({ frames := 7, cells := mc, slots := ms, locals := 150 }) D (kty cI cZ cJ) [.ref vf, .int a1, .int a2, .int a3, .ref ou] ([(ou, .inl (cJ, 1, .inr (.inl fo)))] ++ wx) (fun r (_ : Unit) => r = 0) (fun _ : Unit => [(ou, .inl (cJ, 1, .inr (.inl (vp_updL fo 0 V0.toInt64))))] ++ wx') mc ms)
    (hMo : KI l yX5_sealed wsX5_sealed ({ frames := f2, cells := 0, slots := 0, locals := l2 }) D (kty cI cZ cJ) [.ref mo, .int a1, .int a2, .int a3] wm (fun r (_ : SM) => r = V0) wm' 0 0)
    (hem2 : ∀ u, ∃ fm, (wm' u)[0]? = some (mo, .inr (5, fm))) (hT : ∀ u : SM, KI l yX5_thrown wsX5_thrown ({ frames := 0, cells := 0, slots := 0, locals := 0 }) D (kty cI cZ cJ) [.ref mo] (wm' u) (fun r (_ : Unit) => r = 0) (fun _ : Unit => wm' u) 0 0)
    (kk : ∀ (u : SM) (H : Heap) (locs : List Loc) (ls : Array Slot), lS3 D A wx' (wm' u) [(ou, .inl (cJ, 1, .inr (.inl (vp_updL fo 0 V0.toInt64))))] H → va_S A s.heap H locs → lv_has ls 7 (lwL b vf mo ou i) → W p l e room_1 s m args below meth c H locs (cells + 1) (slots + 6) Q (F0 m 724 ls [])) :
    W p l e room_1 s m args below meth c H locs cells slots Q (F0 m 459 ls []) := by
  obtain ⟨⟨hx, hb, hml, hown, hts⟩, hA, hK, hCx, hX0, hbl, hbA⟩ := hC
  obtain ⟨hrm1, hrm2⟩ := hrm
  refine lv_aload_n hx hb dL_law_459 rfl (lv_at hl 1 rfl) ?_
  refine lv_aload_n hx hb dL_law_460 rfl (lv_at hl 0 rfl) ?_
  refine lv_iload hx hb dL_law_461 (lv_at hl 4 rfl) ?_
  refine lv_iconst (v := nI 1) hx hb dL_law_463 (by decide) ?_
  refine lv_iadd hx hb dL_law_464 ?_
  refine k_t1 (show nI i + nI 1 = nI (i + 1) from nI_add _ _) ?_
  refine k_sld hx hb hX0 hbl hbA hS (k := i + 1) (by omega) (by omega) ha1 dL_law_465 ?_
  refine lv_aload_n hx hb dL_law_466 rfl (lv_at hl 0 rfl) ?_
  refine lv_iload hx hb dL_law_467 (lv_at hl 4 rfl) ?_
  refine lv_iconst (v := nI 2) hx hb dL_law_469 (by decide) ?_
  refine lv_iadd hx hb dL_law_470 ?_
  refine k_t1 (show nI i + nI 2 = nI (i + 2) from nI_add _ _) ?_
  refine k_sld hx hb hX0 hbl hbA hS (k := i + 2) (by omega) (by omega) ha2 dL_law_471 ?_
  refine lv_aload_n hx hb dL_law_472 rfl (lv_at hl 0 rfl) ?_
  refine lv_iload hx hb dL_law_473 (lv_at hl 4 rfl) ?_
  refine lv_iconst (v := nI 3) hx hb dL_law_475 (by decide) ?_
  refine lv_iadd hx hb dL_law_476 ?_
  refine k_t1 (show nI i + nI 3 = nI (i + 3) from nI_add _ _) ?_
  refine k_sld hx hb hX0 hbl hbA hS (k := i + 3) (by omega) (by omega) ha3 dL_law_477 ?_
  refine lv_aload_n hx hb dL_law_478 rfl (lv_at hl 3 rfl) ?_
  refine kl_ho (wf1 := fun _ : Unit => [(ou, .inl (cJ, 1, .inr (.inl (vp_updL fo 0 V0.toInt64))))]) (wf2 := fun _ : Unit => wx') (As := [.ref vf, .int a1, .int a2, .int a3, .ref ou]) (rest := []) ⟨hx, hb, hml, hown, hts⟩ hX (vx_cwSW 5 hts gL_law_L_sealed rfl rfl rfl (by decide +kernel) ⟨Nat.le_of_ble_eq_true rfl, Nat.le_of_ble_eq_true rfl⟩) hLS hK hS hA hCx rfl hl.1 rfl (Nat.le_of_ble_eq_true rfl) dL_law_479 ⟨by omega, by omega⟩ (fun r u H locs hu hLS hS => ?_)
  refine k_t1 (show r = 0 from hu) ?_
  refine lv_istore (lv' := [(5, .int 0), (0, .ref b), (1, .ref vf), (2, .ref mo), (3, .ref ou), (4, .int (nI i))]) hx hb dL_law_482 hl (by decide) rfl (fun ls hl => ?_)
  refine lv_aload_n hx hb dL_law_484 rfl (lv_at hl 3 rfl) ?_
  refine lv_aload_n hx hb dL_law_485 rfl (lv_at hl 1 rfl) ?_
  refine lv_iload hx hb dL_law_486 (lv_at hl 5 rfl) ?_
  refine lv_iconst (v := nI 1) hx hb dL_law_488 (by decide) ?_
  refine lv_iadd hx hb dL_law_489 ?_
  refine k_t1 (show nI i + nI 1 = nI (i + 1) from nI_add _ _) ?_
  refine k_sld hx hb hX0 hbl hbA hS (k := i + 1) (by omega) (by omega) ha1 dL_law_490 ?_
  refine lv_aload_n hx hb dL_law_491 rfl (lv_at hl 1 rfl) ?_
  refine lv_iload hx hb dL_law_492 (lv_at hl 5 rfl) ?_
  refine lv_iconst (v := nI 2) hx hb dL_law_494 (by decide) ?_
  refine lv_iadd hx hb dL_law_495 ?_
  refine k_t1 (show nI i + nI 2 = nI (i + 2) from nI_add _ _) ?_
  refine k_sld hx hb hX0 hbl hbA hS (k := i + 2) (by omega) (by omega) ha2 dL_law_496 ?_
  refine lv_aload_n hx hb dL_law_497 rfl (lv_at hl 1 rfl) ?_
  refine lv_iload hx hb dL_law_498 (lv_at hl 5 rfl) ?_
  refine lv_iconst (v := nI 3) hx hb dL_law_500 (by decide) ?_
  refine lv_iadd hx hb dL_law_501 ?_
  refine k_t1 (show nI i + nI 3 = nI (i + 3) from nI_add _ _) ?_
  refine k_sld hx hb hX0 hbl hbA hS (k := i + 3) (by omega) (by omega) ha3 dL_law_502 ?_
  refine kl_mi (As := [.int a1, .int a2, .int a3]) (rest := []) ⟨hx, hb, hml, hown, hts⟩ hMo (cwV 3 hts gL_law_X5_sealed rfl rfl rfl (by decide +kernel) ⟨by show f2 + 1 ≤ 10; omega, by show 8 + (4 + 11) + l2 ≤ 358; omega⟩) hLS hK hS hA (ci := 5) (q0 := 0) rfl rfl hem rfl hl.1 rfl (Nat.le_of_ble_eq_true rfl) dL_law_503 ⟨by omega, by omega⟩ (fun r u H locs hu hLS hS => ?_)
  refine k_t1 (show r = V0 from hu) ?_
  refine lv_istore (lv' := [(6, .int V0), (5, .int 0), (0, .ref b), (1, .ref vf), (2, .ref mo), (3, .ref ou), (4, .int (nI i))]) hx hb dL_law_506 hl (by decide) rfl (fun ls hl => ?_)
  refine lv_aload_n hx hb dL_law_508 rfl (lv_at hl 4 rfl) ?_
  obtain ⟨fm2, hem3⟩ := hem2 u
  refine kl_mi (As := []) (rest := []) ⟨hx, hb, hml, hown, hts⟩ (hT u) (cwV 0 hts gL_law_X5_thrown rfl rfl rfl (by decide +kernel) ⟨by show 0 + 1 ≤ 10; omega, by show 8 + (1 + 11) + 0 ≤ 358; omega⟩) hLS hK hS hA (ci := 5) (q0 := 0) rfl rfl hem3 rfl hl.1 rfl (Nat.le_of_ble_eq_true rfl) dL_law_509 ⟨by omega, by omega⟩ (fun r u9 H locs hu hLS hS => ?_)
  refine k_t1 (show r = 0 from hu) ?_
  refine lv_iload hx hb dL_law_512 (lv_at hl 1 rfl) ?_
  refine lv_icmp_eq (tgt := 519) hx hb dL_law_514 (by decide) (fun _ => ?_) (fun c9 => absurd rfl c9)
  refine lv_iload hx hb dL_law_519 (lv_at hl 1 rfl) ?_
  refine lv_if_ne (tgt := 536) hx hb dL_law_521 (by decide) (fun c9 => absurd rfl c9) (fun _ => ?_)
  refine lv_aload_n hx hb dL_law_524 rfl (lv_at hl 5 rfl) ?_
  refine lv_iconst (v := nI 0) hx hb dL_law_525 (by decide) ?_
  refine k_lald hx hb hK hLS.2.2.1.1 0 2 rfl rfl 0 (by decide) (by decide) (v := V0.toInt64) (by simp [vp_updL]) dL_law_526 ?_
  refine lv_iload hx hb dL_law_527 (lv_at hl 0 rfl) ?_
  refine lv_i2l (v := (V0).toInt64) hx hb dL_law_529 rfl ?_
  refine W.lcmp hx hb dL_law_530 ?_
  refine k_t1 (show lg_cmp V0.toInt64 V0.toInt64 = 0 from lg_cmp_0.mpr rfl) ?_
  refine lv_if_eq (tgt := 536) hx hb dL_law_531 (by decide) (fun _ => ?_) (fun c9 => absurd rfl c9)
  refine lv_goto (tgt := 724) hx hb dL_law_536 (by decide) ?_
  exact W.widen (by omega) (by omega) (kk u H locs _ hLS hS (lv_sub hl [2, 3, 4, 5, 6] rfl))

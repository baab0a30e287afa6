/-! rows of my own: contracts over one world, calls by them, ends -/
/-- the array classes of every world: int, boolean, long -/
abbrev kty (cI cZ cJ : ClassId) : List (ClassId × FieldType) := [(cI, .int), (cZ, .boolean), (cJ, .long)]
def kp (D : va_G) (ty : List (ClassId × FieldType)) (As : List Value) (wc : va_W) (sz : Nat) : Array Value → State → Prop :=
  va_Pc As (fun U => U.heap.size = sz ∧ va_P D vwCl wc U.heap ∧ va_K D vwCl ty U ∧ va_D (fun _ => True) wc)
def kq (D : va_G) (ty : List (ClassId × FieldType)) (A : Nat → Prop) (w : va_W) (t : State) : Prop :=
  va_P D vwCl w t.heap ∧ va_K D vwCl ty t ∧ va_D A w
/-- a method that answers nothing -/
def KV (l : Launch) (y : MethodName) (ws : List Cond) (rm : Room) (D : va_G) (ty : List (ClassId × FieldType)) (As : List Value) (wc : va_W) {S : Type} (post : S → Prop) (wf : S → va_W) (mc ms : Nat) : Prop :=
  ∀ sz : Nat, Met l y ws rm (kp D ty As wc sz) (va_Qv post (fun u t => kq D ty (va_A wc sz) (wf u) t) (va_A wc sz)) mc ms (va_A wc sz)
/-- a method that answers an int (a boolean) -/
def KI (l : Launch) (y : MethodName) (ws : List Cond) (rm : Room) (D : va_G) (ty : List (ClassId × FieldType)) (As : List Value) (wc : va_W) {S : Type} (post : Int32 → S → Prop) (wf : S → va_W) (mc ms : Nat) : Prop :=
  ∀ sz : Nat, Met l y ws rm (kp D ty As wc sz) (va_Qi post (fun u t => kq D ty (va_A wc sz) (wf u) t) (va_A wc sz)) mc ms (va_A wc sz)
theorem kp_blind {D : va_G} {ty : List (ClassId × FieldType)} {As : List Value} {wc : va_W} {sz : Nat} : FrameBlind (kp D ty As wc sz) := fun a U g mk q => by
  obtain ⟨q0, q1, qP, qK, qD⟩ := q
  exact ⟨q0, q1, qP, va_K.moved (u := U) (U := U.calling g mk a) (Vm.Alike.refl U.vm) qK, qD⟩
section KA
variable {p : Program} {l : Launch} {e : Env} {R : Room} {s : State} {m : MethodId} {args : Array Value} {below : List Frame} {meth : Method} {c : Code} {H : Heap} {locs : List Loc} {cells slots : Nat} {Q : State → Prop}
variable {D : va_G} {ty : List (ClassId × FieldType)} {A : Nat → Prop} {pc : Nat} {ls : Array Slot} {rest st0 : List Value}
/-- an int on the stack by another name -/
theorem k_t1 {x y : Int32} (h : x = y) (k : W p l e R s m args below meth c H locs cells slots Q (F0 m pc ls (.int y :: rest))) : W p l e R s m args below meth c H locs cells slots Q (F0 m pc ls (.int x :: rest)) := by
  rw [h]; exact k
theorem k_t2 {x y : Int32} {v : Value} (h : x = y) (k : W p l e R s m args below meth c H locs cells slots Q (F0 m pc ls (v :: .int y :: rest))) : W p l e R s m args below meth c H locs cells slots Q (F0 m pc ls (v :: .int x :: rest)) := by
  rw [h]; exact k
theorem k_t3 {x y : Int32} {v w : Value} (h : x = y) (k : W p l e R s m args below meth c H locs cells slots Q (F0 m pc ls (v :: w :: .int y :: rest))) : W p l e R s m args below meth c H locs cells slots Q (F0 m pc ls (v :: w :: .int x :: rest)) := by
  rw [h]; exact k
theorem k_t4 {x y : Int32} {v w z : Value} (h : x = y) (k : W p l e R s m args below meth c H locs cells slots Q (F0 m pc ls (v :: w :: z :: .int y :: rest))) : W p l e R s m args below meth c H locs cells slots Q (F0 m pc ls (v :: w :: z :: .int x :: rest)) := by
  rw [h]; exact k
/-- what both calls need behind them -/
theorem k_back {ws0 wc wr w1 w2 : va_W} {H1 : Heap} (hP : va_P D vwCl ws0 H) (hD : va_D A ws0) (hS : va_S A s.heap H locs) (hA : ∀ q, s.heap.size ≤ q → A q) (isC isR : List Nat) (hC : isC.map (fun i => ws0[i]?) = wc.map some) (hR : isR.map (fun i => ws0[i]?) = wr.map some) (hnR : va_nd isR = true) (hdis : ∀ i ∈ isR, i ∉ isC)
    (pm : List Nat) (hpm : pm.map (fun i => (wr ++ w1)[i]?) = w2.map some) (hpn : va_nd pm = true) (hk : ∀ q : Nat, q < H.size → ¬ va_A wc H.size q → H1[q]? = H[q]?) (hP1 : va_P D vwCl w1 H1) (hD1 : va_D (va_A wc H.size) w1) : va_P D vwCl w2 H1 ∧ va_D A w2 := by
  obtain ⟨a1, a2⟩ := va_join hP hD isC isR hC hR hnR hdis hk (va_free hD hS hA isC hC) hP1 hD1
  refine ⟨fun k q hq => ?_, a2.sub pm hpn hpm⟩
  have h1 : (pm.map (fun i => (wr ++ w1)[i]?))[k]? = some (some q) := by rw [hpm, List.getElem?_map, hq]; rfl
  rw [List.getElem?_map] at h1
  cases hi : pm[k]? with
  | none => rw [hi] at h1; cases h1
  | some i => rw [hi] at h1; exact a1 i q (Option.some.inj h1)
theorem k_subP {ws0 wc : va_W} (hP : va_P D vwCl ws0 H) (isC : List Nat) (hC : isC.map (fun i => ws0[i]?) = wc.map some) : va_P D vwCl wc H := by
  intro k q hq
  have h1 : (isC.map (fun i => ws0[i]?))[k]? = some (some q) := by rw [hC, List.getElem?_map, hq]; rfl
  rw [List.getElem?_map] at h1
  cases hi : isC[k]? with
  | none => rw [hi] at h1; cases h1
  | some i => rw [hi] at h1; exact hP i q (Option.some.inj h1)
variable {Ts wsy : List Cond} {cc bytes : ByteArray} {nL maxL index n mc ms : Nat} {own C : String} {y : MethodName} {ret : Option FieldType} {rm : Room} {As : List Value} {b : Nat} {S : Type}
/-- invokevirtual, no answer -/
theorem k_vv {post : S → Prop} {wf w2 : S → va_W} {ws0 wc : va_W} (F : CallFix p m c cc nL s args Ts own) (hM : KV l y wsy rm D ty (.ref b :: As) wc post wf mc ms) (cw : CallW R s args own C index y bytes maxL ret wsy rm mc ms n)
    (hP : va_P D vwCl ws0 H) (hD : va_D A ws0) (hK : va_K D vwCl ty s) (hS : va_S A s.heap H locs) (hA : ∀ q, s.heap.size ≤ q → A q) (isC isR pm : List Nat) (hC : isC.map (fun i => ws0[i]?) = wc.map some) (hR : isR.map (fun i => ws0[i]?) = (isR.filterMap (fun i => ws0[i]?)).map some) (hnd : (va_nd isC && va_nd isR && va_nd pm && isR.all (fun i => decide (i ∉ isC))) = true)
    (hpm : ∀ u, pm.map (fun i => ((isR.filterMap (fun i => ws0[i]?)) ++ wf u)[i]?) = (w2 u).map some) {ci q0 : Nat} {fs : List Value} {vc : vw_C} (hc : vwCl[ci]? = some vc) (hvc : vc.1 = C) (he : wc[q0]? = some (b, .inr (ci, fs)))
    (hn : As.length = n) (hsz : ls.size = nL) (hst : st0 = As.reverse ++ .ref b :: rest) (hW : (rest.map fun v => v.category).sum ≤ 8) (hdg : decode cc pc = .ok (.invokevirtual index, 3)) (hf : cells + mc ≤ R.cells ∧ slots + ms ≤ R.slots)
    (kk : ∀ (u : S) (H : Heap) (locs : List Loc), post u → va_P D vwCl (w2 u) H → va_D A (w2 u) → va_S A s.heap H locs → W p l e R s m args below meth c H locs (cells + mc) (slots + ms) Q (F0 m (pc + 3) ls rest)) :
    W p l e R s m args below meth c H locs cells slots Q (F0 m pc ls st0) := by
  simp only [Bool.and_eq_true, List.all_eq_true, decide_eq_true_eq] at hnd
  obtain ⟨⟨⟨n1, n2⟩, n3⟩, n4⟩ := hnd
  subst hvc
  have hPc := k_subP hP isC hC
  have hDc := hD.sub isC n1 hC
  have hFc := va_free hD hS hA isC hC
  refine va_callv (va_runV (As := As) (rest := rest) F (hM H.size) cw ⟨kp_blind, va_recv hK hPc hc he, fun U hU hW => ⟨rfl, by rw [hU], by rw [hU]; exact hPc, va_K.moved hW.alike hK, hDc.weaken (fun _ _ _ _ => trivial)⟩⟩ rfl hn hsz hst (lv_room hW) hdg hf) hS (fun q _ h => hFc q h) hFc (fun u t H1 locs1 ht hvm hp hB hz1 hk1 hS1 => ?_)
  obtain ⟨b1, b2, b3⟩ := hB
  rw [ht] at b1
  obtain ⟨c1, c2⟩ := k_back hP hD hS hA isC isR hC hR n2 n4 pm (hpm u) n3 hk1 b1 b3
  exact kk u H1 locs1 hp c1 c2 hS1
/-- invokevirtual, an int -/
theorem k_vi {post : Int32 → S → Prop} {wf w2 : S → va_W} {ws0 wc : va_W} (F : CallFix p m c cc nL s args Ts own) (hM : KI l y wsy rm D ty (.ref b :: As) wc post wf mc ms) (cw : CallW R s args own C index y bytes maxL ret wsy rm mc ms n)
    (hP : va_P D vwCl ws0 H) (hD : va_D A ws0) (hK : va_K D vwCl ty s) (hS : va_S A s.heap H locs) (hA : ∀ q, s.heap.size ≤ q → A q) (isC isR pm : List Nat) (hC : isC.map (fun i => ws0[i]?) = wc.map some) (hR : isR.map (fun i => ws0[i]?) = (isR.filterMap (fun i => ws0[i]?)).map some) (hnd : (va_nd isC && va_nd isR && va_nd pm && isR.all (fun i => decide (i ∉ isC))) = true)
    (hpm : ∀ u, pm.map (fun i => ((isR.filterMap (fun i => ws0[i]?)) ++ wf u)[i]?) = (w2 u).map some) {ci q0 : Nat} {fs : List Value} {vc : vw_C} (hc : vwCl[ci]? = some vc) (hvc : vc.1 = C) (he : wc[q0]? = some (b, .inr (ci, fs)))
    (hn : As.length = n) (hsz : ls.size = nL) (hst : st0 = As.reverse ++ .ref b :: rest) (hW : (rest.map fun v => v.category).sum ≤ 8) (hdg : decode cc pc = .ok (.invokevirtual index, 3)) (hf : cells + mc ≤ R.cells ∧ slots + ms ≤ R.slots)
    (kk : ∀ (r : Int32) (u : S) (H : Heap) (locs : List Loc), post r u → va_P D vwCl (w2 u) H → va_D A (w2 u) → va_S A s.heap H locs → W p l e R s m args below meth c H locs (cells + mc) (slots + ms) Q (F0 m (pc + 3) ls (.int r :: rest))) :
    W p l e R s m args below meth c H locs cells slots Q (F0 m pc ls st0) := by
  simp only [Bool.and_eq_true, List.all_eq_true, decide_eq_true_eq] at hnd
  obtain ⟨⟨⟨n1, n2⟩, n3⟩, n4⟩ := hnd
  subst hvc
  have hPc := k_subP hP isC hC
  have hDc := hD.sub isC n1 hC
  have hFc := va_free hD hS hA isC hC
  refine va_calli (va_runV (As := As) (rest := rest) F (hM H.size) cw ⟨kp_blind, va_recv hK hPc hc he, fun U hU hW => ⟨rfl, by rw [hU], by rw [hU]; exact hPc, va_K.moved hW.alike hK, hDc.weaken (fun _ _ _ _ => trivial)⟩⟩ rfl hn hsz hst (lv_room hW) hdg hf) hS (fun q _ h => hFc q h) hFc (fun r u t H1 locs1 ht hvm hp hB hz1 hk1 hS1 => ?_)
  obtain ⟨b1, b2, b3⟩ := hB
  rw [ht] at b1
  obtain ⟨c1, c2⟩ := k_back hP hD hS hA isC isR hC hR n2 n4 pm (hpm u) n3 hk1 b1 b3
  exact kk r u H1 locs1 hp c1 c2 hS1
/-- invokestatic, no answer -/
theorem k_sv {post : S → Prop} {wf w2 : S → va_W} {ws0 wc : va_W} (F : CallFix p m c cc nL s args Ts own) (hM : KV l y wsy rm D ty As wc post wf mc ms) (cw : CallB R s args own index y bytes maxL ret wsy rm mc ms n ∧ (Cond.static y).before args s = true)
    (hP : va_P D vwCl ws0 H) (hD : va_D A ws0) (hK : va_K D vwCl ty s) (hS : va_S A s.heap H locs) (hA : ∀ q, s.heap.size ≤ q → A q) (isC isR pm : List Nat) (hC : isC.map (fun i => ws0[i]?) = wc.map some) (hR : isR.map (fun i => ws0[i]?) = (isR.filterMap (fun i => ws0[i]?)).map some) (hnd : (va_nd isC && va_nd isR && va_nd pm && isR.all (fun i => decide (i ∉ isC))) = true)
    (hpm : ∀ u, pm.map (fun i => ((isR.filterMap (fun i => ws0[i]?)) ++ wf u)[i]?) = (w2 u).map some)
    (hn : As.length = n) (hsz : ls.size = nL) (hst : st0 = As.reverse ++ rest) (hW : (rest.map fun v => v.category).sum ≤ 8) (hdg : decode cc pc = .ok (.invokestatic index, 3)) (hf : cells + mc ≤ R.cells ∧ slots + ms ≤ R.slots)
    (kk : ∀ (u : S) (H : Heap) (locs : List Loc), post u → va_P D vwCl (w2 u) H → va_D A (w2 u) → va_S A s.heap H locs → W p l e R s m args below meth c H locs (cells + mc) (slots + ms) Q (F0 m (pc + 3) ls rest)) :
    W p l e R s m args below meth c H locs cells slots Q (F0 m pc ls st0) := by
  simp only [Bool.and_eq_true, List.all_eq_true, decide_eq_true_eq] at hnd
  obtain ⟨⟨⟨n1, n2⟩, n3⟩, n4⟩ := hnd
  have hPc := k_subP hP isC hC
  have hDc := hD.sub isC n1 hC
  have hFc := va_free hD hS hA isC hC
  refine va_callv (va_runS (As := As) (rest := rest) F (hM H.size) cw ⟨kp_blind, fun U hU hW => ⟨rfl, by rw [hU], by rw [hU]; exact hPc, va_K.moved hW.alike hK, hDc.weaken (fun _ _ _ _ => trivial)⟩⟩ rfl hn hsz hst (lv_room hW) hdg hf) hS (fun q _ h => hFc q h) hFc (fun u t H1 locs1 ht hvm hp hB hz1 hk1 hS1 => ?_)
  obtain ⟨b1, b2, b3⟩ := hB
  rw [ht] at b1
  obtain ⟨c1, c2⟩ := k_back hP hD hS hA isC isR hC hR n2 n4 pm (hpm u) n3 hk1 b1 b3
  exact kk u H1 locs1 hp c1 c2 hS1
/-- invokestatic, an int -/
theorem k_si {post : Int32 → S → Prop} {wf w2 : S → va_W} {ws0 wc : va_W} (F : CallFix p m c cc nL s args Ts own) (hM : KI l y wsy rm D ty As wc post wf mc ms) (cw : CallB R s args own index y bytes maxL ret wsy rm mc ms n ∧ (Cond.static y).before args s = true)
    (hP : va_P D vwCl ws0 H) (hD : va_D A ws0) (hK : va_K D vwCl ty s) (hS : va_S A s.heap H locs) (hA : ∀ q, s.heap.size ≤ q → A q) (isC isR pm : List Nat) (hC : isC.map (fun i => ws0[i]?) = wc.map some) (hR : isR.map (fun i => ws0[i]?) = (isR.filterMap (fun i => ws0[i]?)).map some) (hnd : (va_nd isC && va_nd isR && va_nd pm && isR.all (fun i => decide (i ∉ isC))) = true)
    (hpm : ∀ u, pm.map (fun i => ((isR.filterMap (fun i => ws0[i]?)) ++ wf u)[i]?) = (w2 u).map some)
    (hn : As.length = n) (hsz : ls.size = nL) (hst : st0 = As.reverse ++ rest) (hW : (rest.map fun v => v.category).sum ≤ 8) (hdg : decode cc pc = .ok (.invokestatic index, 3)) (hf : cells + mc ≤ R.cells ∧ slots + ms ≤ R.slots)
    (kk : ∀ (r : Int32) (u : S) (H : Heap) (locs : List Loc), post r u → va_P D vwCl (w2 u) H → va_D A (w2 u) → va_S A s.heap H locs → W p l e R s m args below meth c H locs (cells + mc) (slots + ms) Q (F0 m (pc + 3) ls (.int r :: rest))) :
    W p l e R s m args below meth c H locs cells slots Q (F0 m pc ls st0) := by
  simp only [Bool.and_eq_true, List.all_eq_true, decide_eq_true_eq] at hnd
  obtain ⟨⟨⟨n1, n2⟩, n3⟩, n4⟩ := hnd
  have hPc := k_subP hP isC hC
  have hDc := hD.sub isC n1 hC
  have hFc := va_free hD hS hA isC hC
  refine va_calli (va_runS (As := As) (rest := rest) F (hM H.size) cw ⟨kp_blind, fun U hU hW => ⟨rfl, by rw [hU], by rw [hU]; exact hPc, va_K.moved hW.alike hK, hDc.weaken (fun _ _ _ _ => trivial)⟩⟩ rfl hn hsz hst (lv_room hW) hdg hf) hS (fun q _ h => hFc q h) hFc (fun r u t H1 locs1 ht hvm hp hB hz1 hk1 hS1 => ?_)
  obtain ⟨b1, b2, b3⟩ := hB
  rw [ht] at b1
  obtain ⟨c1, c2⟩ := k_back hP hD hS hA isC isR hC hR n2 n4 pm (hpm u) n3 hk1 b1 b3
  exact kk r u H1 locs1 hp c1 c2 hS1
/-- the end of a method without an answer -/
theorem k_retv {post : S → Prop} {wf : S → va_W} (u : S) (hx : p.tables.exec = Jvm.exec) (hb : c.code = cc) (hr : meth.sig.returnType = none) (hK : va_K D vwCl ty s) (hS : va_S A s.heap H locs) (hlk : meth.locks = false) (hdg : decode cc pc = .ok (.return_, 1))
    (hP : va_P D vwCl (wf u) H) (hD : va_D A (wf u)) (hp : post u) (hQ : Q = MQ below (va_Qv post (fun u t => kq D ty A (wf u) t) A) args s cells slots A) :
    W p l e R s m args below meth c H locs cells slots Q (F0 m pc ls []) := by
  subst hQ
  exact W.vret hx hb hr (fun t ht hW => ⟨⟨u, rfl, hp, by rw [ht]; exact hP, va_K.moved hW.alike hK, hD⟩, hS.F ht⟩) hS.2.2 hdg
/-- the end of a method with an int -/
theorem k_reti {post : Int32 → S → Prop} {wf : S → va_W} {v : Int32} (u : S) (hx : p.tables.exec = Jvm.exec) (hb : c.code = cc) (hr : meth.sig.returnType = some .int) (hK : va_K D vwCl ty s) (hS : va_S A s.heap H locs) (hlk : meth.locks = false) (hdg : decode cc pc = .ok (.ireturn, 1))
    (hP : va_P D vwCl (wf u) H) (hD : va_D A (wf u)) (hp : post v u) (hQ : Q = MQ below (va_Qi post (fun u t => kq D ty A (wf u) t) A) args s cells slots A) :
    W p l e R s m args below meth c H locs cells slots Q (F0 m pc ls [.int v]) := by
  subst hQ
  exact W.iret hx hb hr (fun t ht hW => ⟨⟨v, u, rfl, hp, by rw [ht]; exact hP, va_K.moved hW.alike hK, hD⟩, hS.F ht⟩) hS.2.2 hdg
/-- the end of a method with a boolean -/
theorem k_retz {post : Int32 → S → Prop} {wf : S → va_W} {v : Int32} (u : S) (hx : p.tables.exec = Jvm.exec) (hb : c.code = cc) (hr : meth.sig.returnType = some .boolean) (hK : va_K D vwCl ty s) (hS : va_S A s.heap H locs) (hlk : meth.locks = false) (hdg : decode cc pc = .ok (.ireturn, 1))
    (hv : v = 0 ∨ v = 1) (hP : va_P D vwCl (wf u) H) (hD : va_D A (wf u)) (hp : post v u) (hQ : Q = MQ below (va_Qi post (fun u t => kq D ty A (wf u) t) A) args s cells slots A) :
    W p l e R s m args below meth c H locs cells slots Q (F0 m pc ls [.int v]) := by
  subst hQ
  exact W.zret (ty := .boolean) hx hb hr (by rcases hv with rfl | rfl <;> rfl) (fun t ht hW => ⟨⟨v, u, rfl, hp, by rw [ht]; exact hP, va_K.moved hW.alike hK, hD⟩, hS.F ht⟩) hS.2.2 hdg
end KA
/-- the head of a method: no answer -/
theorem k_headV {l : Launch} {y : MethodName} {ws ws' : List Cond} {rm : Room} {D : va_G} {ty : List (ClassId × FieldType)} {As : List Value} {wc : va_W} {S : Type} {post : S → Prop} {wf : S → va_W} {mc ms : Nat} {cc : ByteArray} {maxL : Nat} {ret : Option FieldType}
    (hy : plainName y.cls = true) (hw : ws = Cond.code y cc maxL ret :: ws') (hnl : (lg_sl As).length ≤ maxL)
    (body : ∀ (p : Program) (e : Env) (s : State) (m : MethodId) (below : List Frame) (meth : Method) (c : Code) (A : Nat → Prop) (ls : Array Slot) (args : Array Value) (Q : State → Prop), p.tables.exec = Jvm.exec → c.code = cc → meth.sig.returnType = ret → c.maxLocals = maxL → (∀ w ∈ ws, w.before args s = true) → s.vm.findClass y.cls = some m.cls → meth.locks = false → meth.name = y.name →
      (∀ q, s.heap.size ≤ q → A q) → va_K D vwCl ty s → va_P D vwCl wc s.heap → va_D A wc → va_S A s.heap s.heap [] → lv_has ls maxL (lv_args 0 As) → Q = MQ below (va_Qv post (fun u t => kq D ty A (wf u) t) A) args s mc ms A →
      W p l e rm s m args below meth c s.heap [] 0 0 Q (F0 m 0 ls [])) : KV l y ws rm D ty As wc post wf mc ms := by
  intro sz
  refine Met.ofW (cc := cc) (maxL := maxL) (ret := ret) hy hw ?_
  intro p e s m args below meth c s₁ B hml hv
  obtain ⟨rfl, hsz, hP, hK, hD0⟩ := hv
  subst hsz
  have hl := lv_entry As (n := maxL) hnl
  rw [lg_entry_eq]
  exact body p e s m below meth c (va_A wc s.heap.size) _ _ _ B.exec B.bytes B.returns hml (atoms_spec (ws := ws) B.pre) (findClass_of_methodNamed B.named) B.notSynchronized (name_of_methodNamed B.named B.method).1 (fun q h => Or.inr h) hK hP (hD0.self (sz := s.heap.size)) va_S.rf hl rfl
/-- the head of a method: an int -/
theorem k_headI {l : Launch} {y : MethodName} {ws ws' : List Cond} {rm : Room} {D : va_G} {ty : List (ClassId × FieldType)} {As : List Value} {wc : va_W} {S : Type} {post : Int32 → S → Prop} {wf : S → va_W} {mc ms : Nat} {cc : ByteArray} {maxL : Nat} {ret : Option FieldType}
    (hy : plainName y.cls = true) (hw : ws = Cond.code y cc maxL ret :: ws') (hnl : (lg_sl As).length ≤ maxL)
    (body : ∀ (p : Program) (e : Env) (s : State) (m : MethodId) (below : List Frame) (meth : Method) (c : Code) (A : Nat → Prop) (ls : Array Slot) (args : Array Value) (Q : State → Prop), p.tables.exec = Jvm.exec → c.code = cc → meth.sig.returnType = ret → c.maxLocals = maxL → (∀ w ∈ ws, w.before args s = true) → s.vm.findClass y.cls = some m.cls → meth.locks = false → meth.name = y.name →
      (∀ q, s.heap.size ≤ q → A q) → va_K D vwCl ty s → va_P D vwCl wc s.heap → va_D A wc → va_S A s.heap s.heap [] → lv_has ls maxL (lv_args 0 As) → Q = MQ below (va_Qi post (fun u t => kq D ty A (wf u) t) A) args s mc ms A →
      W p l e rm s m args below meth c s.heap [] 0 0 Q (F0 m 0 ls [])) : KI l y ws rm D ty As wc post wf mc ms := by
  intro sz
  refine Met.ofW (cc := cc) (maxL := maxL) (ret := ret) hy hw ?_
  intro p e s m args below meth c s₁ B hml hv
  obtain ⟨rfl, hsz, hP, hK, hD0⟩ := hv
  subst hsz
  have hl := lv_entry As (n := maxL) hnl
  rw [lg_entry_eq]
  exact body p e s m below meth c (va_A wc s.heap.size) _ _ _ B.exec B.bytes B.returns hml (atoms_spec (ws := ws) B.pre) (findClass_of_methodNamed B.named) B.notSynchronized (name_of_methodNamed B.named B.method).1 (fun q h => Or.inr h) hK hP (hD0.self (sz := s.heap.size)) va_S.rf hl rfl
section KB
variable {p : Program} {l : Launch} {e : Env} {R : Room} {s : State} {m : MethodId} {args : Array Value} {below : List Frame} {meth : Method} {c : Code} {H H0 : Heap} {locs : List Loc} {cells slots : Nat} {Q : State → Prop} {cc : ByteArray}
variable {D : va_G} {ty : List (ClassId × FieldType)} {A : Nat → Prop} {pc : Nat} {ls : Array Slot} {rest : List Value} {ws : va_W} {cl : List vw_C} {a : Nat}
theorem k_iald (hexec : p.tables.exec = Jvm.exec) (hb : c.code = cc) (hK : va_K D cl ty s) (hP : va_P D cl ws H) (q0 t0 : Nat) {cA : ClassId} {n : Nat} {f : Nat → Int32} (ha : ws[q0]? = some (a, .inl (cA, n, .inl f))) (ht : ty[t0]? = some (cA, .int)) (k : Nat) (hk : k < n) (hn : n < 2147483648) {v : Int32} (hv : f k = v) (hdg : decode cc pc = .ok (.iaload, 1))
    (kk : W p l e R s m args below meth c H locs cells slots Q (F0 m (pc + 1) ls (.int v :: rest))) : W p l e R s m args below meth c H locs cells slots Q (F0 m pc ls (.int (nI k) :: .ref a :: rest)) := by
  refine va_iald hexec hb hK hP q0 t0 ha ht (vp_in_nI hk hn) hdg ?_
  rw [nI_clamp (by omega), hv]; exact kk
theorem k_zald (hexec : p.tables.exec = Jvm.exec) (hb : c.code = cc) (hK : va_K D cl ty s) (hP : va_P D cl ws H) (q0 t0 : Nat) {cA : ClassId} {n : Nat} {f : Nat → Int32} (ha : ws[q0]? = some (a, .inl (cA, n, .inl f))) (ht : ty[t0]? = some (cA, .boolean)) (k : Nat) (hk : k < n) (hn : n < 2147483648) {v : Int32} (hv : f k = v) (hdg : decode cc pc = .ok (.baload, 1))
    (kk : W p l e R s m args below meth c H locs cells slots Q (F0 m (pc + 1) ls (.int v :: rest))) : W p l e R s m args below meth c H locs cells slots Q (F0 m pc ls (.int (nI k) :: .ref a :: rest)) := by
  refine va_zald hexec hb hK hP q0 t0 ha ht (vp_in_nI hk hn) hdg ?_
  rw [nI_clamp (by omega), hv]; exact kk
theorem k_lald (hexec : p.tables.exec = Jvm.exec) (hb : c.code = cc) (hK : va_K D cl ty s) (hP : va_P D cl ws H) (q0 t0 : Nat) {cA : ClassId} {n : Nat} {f : Nat → Int64} (ha : ws[q0]? = some (a, .inl (cA, n, .inr (.inl f)))) (ht : ty[t0]? = some (cA, .long)) (k : Nat) (hk : k < n) (hn : n < 2147483648) {v : Int64} (hv : f k = v) (hdg : decode cc pc = .ok (.laload, 1))
    (kk : W p l e R s m args below meth c H locs cells slots Q (F0 m (pc + 1) ls (.long v :: rest))) : W p l e R s m args below meth c H locs cells slots Q (F0 m pc ls (.int (nI k) :: .ref a :: rest)) := by
  refine va_lald hexec hb hK hP q0 t0 ha ht (vp_in_nI hk hn) hdg ?_
  rw [nI_clamp (by omega), hv]; exact kk
theorem k_iast (hexec : p.tables.exec = Jvm.exec) (hb : c.code = cc) (hK : va_K D cl ty s) (hP : va_P D cl ws H) (hD : va_D A ws) (hS : va_S A H0 H locs) (q0 t0 : Nat) {cA : ClassId} {n : Nat} {f g : Nat → Int32} (ha : ws[q0]? = some (a, .inl (cA, n, .inl f))) (ht : ty[t0]? = some (cA, .int)) (k : Nat) {x : Int32} (hk : k < n) (hn : n < 2147483648) (hg : upd f k x = g) (hdg : decode cc pc = .ok (.iastore, 1))
    (kk : ∀ (H1 : Heap) (locs1 : List Loc), va_P D cl (ws.set q0 (a, .inl (cA, n, .inl g))) H1 → va_D A (ws.set q0 (a, .inl (cA, n, .inl g))) → va_S A H0 H1 locs1 → W p l e R s m args below meth c H1 locs1 cells slots Q (F0 m (pc + 1) ls rest)) : W p l e R s m args below meth c H locs cells slots Q (F0 m pc ls (.int x :: .int (nI k) :: .ref a :: rest)) := by
  refine va_iast hexec hb hK hP hD hS q0 t0 ha ht (vp_in_nI hk hn) hdg ?_
  rw [nI_clamp (by omega), hg]; exact kk
theorem k_zast (hexec : p.tables.exec = Jvm.exec) (hb : c.code = cc) (hK : va_K D cl ty s) (hP : va_P D cl ws H) (hD : va_D A ws) (hS : va_S A H0 H locs) (q0 t0 : Nat) {cA : ClassId} {n : Nat} {f g : Nat → Int32} (ha : ws[q0]? = some (a, .inl (cA, n, .inl f))) (ht : ty[t0]? = some (cA, .boolean)) (k : Nat) {x : Int32} (hk : k < n) (hn : n < 2147483648) (hg : upd f k x = g) (hz : vp_nar .boolean x = x) (hdg : decode cc pc = .ok (.bastore, 1))
    (kk : ∀ (H1 : Heap) (locs1 : List Loc), va_P D cl (ws.set q0 (a, .inl (cA, n, .inl g))) H1 → va_D A (ws.set q0 (a, .inl (cA, n, .inl g))) → va_S A H0 H1 locs1 → W p l e R s m args below meth c H1 locs1 cells slots Q (F0 m (pc + 1) ls rest)) : W p l e R s m args below meth c H locs cells slots Q (F0 m pc ls (.int x :: .int (nI k) :: .ref a :: rest)) := by
  refine va_zast hexec hb hK hP hD hS q0 t0 ha ht (vp_in_nI hk hn) hdg ?_
  rw [nI_clamp (by omega), hz, hg]; exact kk
theorem k_last (hexec : p.tables.exec = Jvm.exec) (hb : c.code = cc) (hK : va_K D cl ty s) (hP : va_P D cl ws H) (hD : va_D A ws) (hS : va_S A H0 H locs) (q0 t0 : Nat) {cA : ClassId} {n : Nat} {f g : Nat → Int64} (ha : ws[q0]? = some (a, .inl (cA, n, .inr (.inl f)))) (ht : ty[t0]? = some (cA, .long)) (k : Nat) {x : Int64} (hk : k < n) (hn : n < 2147483648) (hg : vp_updL f k x = g) (hdg : decode cc pc = .ok (.lastore, 1))
    (kk : ∀ (H1 : Heap) (locs1 : List Loc), va_P D cl (ws.set q0 (a, .inl (cA, n, .inr (.inl g)))) H1 → va_D A (ws.set q0 (a, .inl (cA, n, .inr (.inl g)))) → va_S A H0 H1 locs1 → W p l e R s m args below meth c H1 locs1 cells slots Q (F0 m (pc + 1) ls rest)) : W p l e R s m args below meth c H locs cells slots Q (F0 m pc ls (.long x :: .int (nI k) :: .ref a :: rest)) := by
  refine va_last hexec hb hK hP hD hS q0 t0 ha ht (vp_in_nI hk hn) hdg ?_
  rw [nI_clamp (by omega), hg]; exact kk
variable {x y : Nat} {off : Int} {tgt : Nat}
theorem k_icmp_ge (hexec : p.tables.exec = Jvm.exec) (hb : c.code = cc) (h1 : x < 2147483648) (h2 : y < 2147483648) (hdg : decode cc pc = .ok (.if_icmp .ge off, 3)) (ht : (pc : Int) + off = (tgt : Int))
    (kt : y ≤ x → W p l e R s m args below meth c H locs cells slots Q (F0 m tgt ls rest)) (kf : x < y → W p l e R s m args below meth c H locs cells slots Q (F0 m (pc + 3) ls rest)) : W p l e R s m args below meth c H locs cells slots Q (F0 m pc ls (.int (nI y) :: .int (nI x) :: rest)) :=
  lv_icmp_ge hexec hb hdg ht (fun q => kt ((nI_leI h2 h1).mp q)) (fun q => kf (by have := (not_congr (nI_leI h2 h1)).mp q; omega))
theorem k_icmp_lt (hexec : p.tables.exec = Jvm.exec) (hb : c.code = cc) (h1 : x < 2147483648) (h2 : y < 2147483648) (hdg : decode cc pc = .ok (.if_icmp .lt off, 3)) (ht : (pc : Int) + off = (tgt : Int))
    (kt : x < y → W p l e R s m args below meth c H locs cells slots Q (F0 m tgt ls rest)) (kf : y ≤ x → W p l e R s m args below meth c H locs cells slots Q (F0 m (pc + 3) ls rest)) : W p l e R s m args below meth c H locs cells slots Q (F0 m pc ls (.int (nI y) :: .int (nI x) :: rest)) :=
  lv_icmp_lt hexec hb hdg ht (fun q => kt ((nI_ltI h1 h2).mp q)) (fun q => kf (by have := (not_congr (nI_ltI h1 h2)).mp q; omega))
theorem k_icmp_gt (hexec : p.tables.exec = Jvm.exec) (hb : c.code = cc) (h1 : x < 2147483648) (h2 : y < 2147483648) (hdg : decode cc pc = .ok (.if_icmp .gt off, 3)) (ht : (pc : Int) + off = (tgt : Int))
    (kt : y < x → W p l e R s m args below meth c H locs cells slots Q (F0 m tgt ls rest)) (kf : x ≤ y → W p l e R s m args below meth c H locs cells slots Q (F0 m (pc + 3) ls rest)) : W p l e R s m args below meth c H locs cells slots Q (F0 m pc ls (.int (nI y) :: .int (nI x) :: rest)) :=
  lv_icmp_gt hexec hb hdg ht (fun q => kt ((nI_ltI h2 h1).mp q)) (fun q => kf (by have := (not_congr (nI_ltI h2 h1)).mp q; omega))
theorem k_icmp_le (hexec : p.tables.exec = Jvm.exec) (hb : c.code = cc) (h1 : x < 2147483648) (h2 : y < 2147483648) (hdg : decode cc pc = .ok (.if_icmp .le off, 3)) (ht : (pc : Int) + off = (tgt : Int))
    (kt : x ≤ y → W p l e R s m args below meth c H locs cells slots Q (F0 m tgt ls rest)) (kf : y < x → W p l e R s m args below meth c H locs cells slots Q (F0 m (pc + 3) ls rest)) : W p l e R s m args below meth c H locs cells slots Q (F0 m pc ls (.int (nI y) :: .int (nI x) :: rest)) :=
  lv_icmp_le hexec hb hdg ht (fun q => kt ((nI_leI h1 h2).mp q)) (fun q => kf (by have := (not_congr (nI_leI h1 h2)).mp q; omega))
theorem k_icmp_eq (hexec : p.tables.exec = Jvm.exec) (hb : c.code = cc) (h1 : x < 2147483648) (h2 : y < 2147483648) (hdg : decode cc pc = .ok (.if_icmp .eq off, 3)) (ht : (pc : Int) + off = (tgt : Int))
    (kt : x = y → W p l e R s m args below meth c H locs cells slots Q (F0 m tgt ls rest)) (kf : x ≠ y → W p l e R s m args below meth c H locs cells slots Q (F0 m (pc + 3) ls rest)) : W p l e R s m args below meth c H locs cells slots Q (F0 m pc ls (.int (nI y) :: .int (nI x) :: rest)) :=
  lv_icmp_eq hexec hb hdg ht (fun q => kt ((nI_eq h1 h2).mp q)) (fun q => kf ((not_congr (nI_eq h1 h2)).mp q))
theorem k_icmp_ne (hexec : p.tables.exec = Jvm.exec) (hb : c.code = cc) (h1 : x < 2147483648) (h2 : y < 2147483648) (hdg : decode cc pc = .ok (.if_icmp .ne off, 3)) (ht : (pc : Int) + off = (tgt : Int))
    (kt : x ≠ y → W p l e R s m args below meth c H locs cells slots Q (F0 m tgt ls rest)) (kf : x = y → W p l e R s m args below meth c H locs cells slots Q (F0 m (pc + 3) ls rest)) : W p l e R s m args below meth c H locs cells slots Q (F0 m pc ls (.int (nI y) :: .int (nI x) :: rest)) :=
  lv_icmp_ne hexec hb hdg ht (fun q => kt ((not_congr (nI_eq h1 h2)).mp q)) (fun q => kf ((nI_eq h1 h2).mp q))
end KB
section KC
variable {D : va_G} {cl : List vw_C} {ws : va_W} {H : Heap} {a : Nat} {A : Nat → Prop}
/-- an array's contents matter below its length alone -/
theorem k_extP {q0 : Nat} {cA : ClassId} {n : Nat} {f g : Nat → Int32} (hP : va_P D cl ws H) (ha : ws[q0]? = some (a, .inl (cA, n, .inl f))) (h : ∀ j, j < n → f j = g j) : va_P D cl (ws.set q0 (a, .inl (cA, n, .inl g))) H := by
  have e : vp_cell cA (n, .inl f) = vp_cell cA (n, .inl g) := by
    have e2 : (fun j : Fin n => Value.int (f j.val)) = fun j : Fin n => Value.int (g j.val) := funext fun j => by rw [h j.val j.isLt]
    show ({ cls := cA, slots := Array.ofFn (fun j : Fin n => Value.int (f j.val)), vm := .none } : Cell) = { cls := cA, slots := Array.ofFn (fun j : Fin n => Value.int (g j.val)), vm := .none }
    rw [e2]
  have hl := (List.getElem?_eq_some_iff.mp ha).1
  intro k q hk
  by_cases hkp : k = q0
  · subst hkp
    rw [List.getElem?_set_self hl] at hk
    cases hk
    have h1 : H[a]? = some (vp_cell cA (n, .inl f)) := hP _ _ ha
    show H[a]? = some (vp_cell cA (n, .inl g))
    rw [← e]; exact h1
  · rw [List.getElem?_set_ne (Ne.symm hkp)] at hk
    exact hP k q hk
end KC
theorem upd_back {f : Nat → Int32} {i : Nat} {v : Int32} : upd (upd f i v) i (f i) = f := by
  funext j
  by_cases h : j = i
  · subst h; simp [upd]
  · simp [upd, h]
theorem upd_2 {f : Nat → Int32} {i : Nat} {v w : Int32} : upd (upd f i v) i w = upd f i w := by
  funext j
  by_cases h : j = i
  · subst h; simp [upd]
  · simp [upd, h]

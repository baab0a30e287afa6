/-! the law's helpers: a call that may throw, its answer as a number -/
def KX (l : Launch) (y : MethodName) (ws : List Cond) (rm : Room) (D : va_G) (ty : List (ClassId × FieldType)) (As : List Value) (wc : va_W) {S : Type} (post : Int32 → S → Prop) (wf : S → va_W) (mc ms : Nat) : Prop :=
  ∀ sz : Nat, Met l y ws rm (kpx D ty As wc sz) (va_Qi post (fun u t => kq D ty (va_A wc sz) (wf u) t) (va_A wc sz)) mc ms (va_A wc sz)
theorem k_ofWH {l : Launch} {y : MethodName} {ws ws' : List Cond} {rm : Room} {Pc : Array Value → State → Prop} {Qc : Array Value → State → Outcome → State → Prop} {mc ms : Nat} {free : Addr → Prop} {cc : ByteArray} {maxL : Nat} {ret : Option FieldType} {hh : List (Nat × Nat × Nat × Nat)}
    (hy : plainName y.cls = true) (hw : ws = Cond.codeWith y cc maxL ret hh :: ws')
    (body : ∀ p e s m args below meth c s₁, BodyLoose p l y (headSpec ws rm) cc maxL ret e s m args below meth c s₁ → c.maxLocals = maxL → Pc args s →
      W p l e (headSpec ws rm).room s m args below meth c s.heap [] 0 0 (MQ below Qc args s mc ms free) (entryFrame m args maxL)) : Met l y ws rm Pc Qc mc ms free := by
  refine MetFree.of_bodyS (code := cc) (maxLocals := maxL) (ret := ret) hy ?_ ?_
  · intro args s m h hn
    obtain ⟨m9, meth, c, hn9, h1, h2, h3, h4, -, h5, h6, -⟩ := Cond.codeWith_spec (atoms_spec (ws := ws) h _ (by rw [hw]; exact List.mem_cons_self))
    cases hn.symm.trans hn9
    exact ⟨meth, c, h1, h2, h3, h4, h5, h6⟩
  · intro p e s m args below meth c s₁ B hml hP _
    have hh0 : s₁.heap = s.heap := by rw [B.state]; rfl
    obtain ⟨t, a1, o, b1, b2, b3⟩ := body p e s m args below meth c s₁ B hml hP s₁ hh0 (Stand.of_body B)
    exact ⟨t, o, a1, b1, b2, ⟨b3.1, b3.2⟩⟩
theorem k_headX {l : Launch} {y : MethodName} {ws ws' : List Cond} {rm : Room} {D : va_G} {ty : List (ClassId × FieldType)} {As : List Value} {wc : va_W} {S : Type} {post : Int32 → S → Prop} {wf : S → va_W} {mc ms : Nat} {cc : ByteArray} {maxL : Nat} {ret : Option FieldType} {hh : List (Nat × Nat × Nat × Nat)}
    (hy : plainName y.cls = true) (hw : ws = Cond.codeWith y cc maxL ret hh :: ws') (hnl : (lg_sl As).length ≤ maxL)
    (body : ∀ (p : Program) (e : Env) (s : State) (m : MethodId) (below : List Frame) (meth : Method) (c : Code) (A : Nat → Prop) (ls : Array Slot) (args : Array Value) (Q : State → Prop), p.tables.exec = Jvm.exec → c.code = cc → meth.sig.returnType = ret → c.maxLocals = maxL → (∀ w ∈ ws, w.before args s = true) → s.vm.findClass y.cls = some m.cls → meth.locks = false →
      (∀ q, s.heap.size ≤ q → A q) → va_K D vwCl ty s → va_P D vwCl wc s.heap → va_D A wc → va_S A s.heap s.heap [] → lv_has ls maxL (lv_args 0 As) → c.exceptionTable.toList = tableOf hh → kxC A s s.heap →
      Q = MQ below (va_Qi post (fun u t => kq D ty A (wf u) t) A) args s mc ms A → W p l e rm s m args below meth c s.heap [] 0 0 Q (F0 m 0 ls [])) : KX l y ws rm D ty As wc post wf mc ms := by
  intro sz
  refine k_ofWH (cc := cc) (maxL := maxL) (ret := ret) hy hw ?_
  intro p e s m args below meth c s₁ B hml hv
  obtain ⟨rfl, hsz, hP, hK, hD0, hC⟩ := hv
  subst hsz
  have hl := lv_entry As (n := maxL) hnl
  have hts := atoms_spec (ws := ws) B.pre
  rw [lg_entry_eq]
  exact body p e s m below meth c (va_A wc s.heap.size) _ _ _ B.exec B.bytes B.returns hml hts (findClass_of_methodNamed B.named) B.notSynchronized (fun q h => Or.inr h) hK hP (hD0.self (sz := s.heap.size)) va_S.rf hl (vx_table (x := y) B (hts _ (by rw [hw]; exact List.mem_cons_self))) hC rfl
/-- one cell ahead of a callee's world stays as it is -/
theorem k_pre {D : va_G} {A : Nat → Prop} {H H1 : Heap} {o : Nat × va_E} {wc wx : va_W} (hP : va_P D vwCl (o :: wc) H) (hD : va_D A (o :: wc)) (hF : ∀ q, va_A wc H.size q → A q) (hk : ∀ q : Nat, q < H.size → ¬ va_A wc H.size q → H1[q]? = H[q]?) (b1 : va_P D vwCl wx H1) (b3 : va_D (va_A wc H.size) wx) : va_P D vwCl (o :: wx) H1 ∧ va_D A (o :: wx) := by
  have hlt : o.1 < H.size := vx_lt hP (k := 0) rfl
  have hno : ¬ va_A wc H.size o.1 := by
    rintro (⟨k, e, hk⟩ | h)
    · have := hD.1 0 (k + 1) o (o.1, e) rfl (by rw [List.getElem?_cons_succ]; exact hk) rfl
      omega
    · exact absurd h (by omega)
  refine ⟨fun k q hq => ?_, fun i j x y hi hj hxy => ?_, fun k q hq => ?_⟩
  · cases k with
    | zero => cases hq; exact (hP 0 o rfl).kept (hk o.1 hlt hno)
    | succ k => exact b1 k q hq
  · cases i with
    | zero =>
      cases hi
      cases j with
      | zero => rfl
      | succ j => exact absurd (by rw [hxy]; exact b3.2 j y hj) hno
    | succ i =>
      cases j with
      | zero => cases hj; exact absurd (by rw [← hxy]; exact b3.2 i x hi) hno
      | succ j => rw [b3.1 i j x y hi hj hxy]
  · cases k with
    | zero => cases hq; exact hD.2 0 o rfl
    | succ k => exact hF _ (b3.2 k q hq)
theorem k_tlP {D : va_G} {H : Heap} {o : Nat × va_E} {wc : va_W} (hP : va_P D vwCl (o :: wc) H) : va_P D vwCl wc H := fun k q hq => hP (k + 1) q hq
theorem k_tlD {A : Nat → Prop} {o : Nat × va_E} {wc : va_W} (hD : va_D A (o :: wc)) : va_D A wc := ⟨fun i j x y hi hj hxy => by have := hD.1 (i + 1) (j + 1) x y hi hj hxy; omega, fun k q hq => hD.2 (k + 1) q hq⟩
theorem k_allF {D : va_G} {A : Nat → Prop} {H H0 : Heap} {locs : List Loc} {wc : va_W} (hD : va_D A wc) (hS : va_S A H0 H locs) (hA : ∀ q, H0.size ≤ q → A q) : ∀ q, va_A wc H.size q → A q := by
  rintro q (⟨k, e, hk⟩ | h)
  · exact hD.2 k (q, e) hk
  · exact hA q (Nat.le_trans hS.1 h)
section KH
variable {p : Program} {l : Launch} {e : Env} {R : Room} {s : State} {m : MethodId} {args : Array Value} {below : List Frame} {meth : Method} {c : Code} {H : Heap} {locs : List Loc} {cells slots : Nat} {Q : State → Prop}
variable {D : va_G} {ty : List (ClassId × FieldType)} {A : Nat → Prop} {pc : Nat} {ls : Array Slot} {rest st0 : List Value}
variable {Ts wsy : List Cond} {cc bytes : ByteArray} {nL maxL index n mc ms : Nat} {own C : String} {y : MethodName} {ret : Option FieldType} {rm : Room} {As : List Value} {b : Nat} {S : Type}
/-- a throwing callee over the whole world, or all but one cell -/
theorem k_vtH {wc wx : va_W} {E : String} (F : CallFix p m c cc nL s args Ts own) (hM : KT l y wsy rm D ty (.ref b :: As) wc E wx) (cw : CallW R s args own C index y bytes maxL ret wsy rm 1 6 n)
    (hP : va_P D vwCl wc H) (hD : va_D A wc) (hK : va_K D vwCl ty s) (hS : va_S A s.heap H locs) (hA : ∀ q, s.heap.size ≤ q → A q) (hC0 : kxC A s s.heap) {ci q0 : Nat} {fs : List Value} {vc : vw_C} (hc : vwCl[ci]? = some vc) (hvc : vc.1 = C) (he : wc[q0]? = some (b, .inr (ci, fs)))
    (hn : As.length = n) (hsz : ls.size = nL) (hst : st0 = As.reverse ++ .ref b :: rest) (hW : (rest.map fun v => v.category).sum ≤ 8) (hdg : decode cc pc = .ok (.invokevirtual index, 3)) (hf : cells + 1 ≤ R.cells ∧ slots + 6 ≤ R.slots)
    (kk : ∀ (ce : Cell) (q9 : Addr) (H1 : Heap) (locs : List Loc), va_P D vwCl wx H1 → va_D (va_A wc H.size) wx → (∀ q : Nat, q < H.size → ¬ va_A wc H.size q → H1[q]? = H[q]?) → va_S A s.heap H1 locs → H1[q9]? = some ce → ce.vm = .none → s.vm.findClass E = some ce.cls → vx_W p l e R s m args below meth c H1 locs (cells + 1) (slots + 6) Q (F0 m pc ls rest) q9) :
    W p l e R s m args below meth c H locs cells slots Q (F0 m pc ls st0) := by
  subst hvc
  have hFc := k_allF (D := D) hD hS hA
  refine vx_callv (vx_runV (As := As) (rest := rest) F (hM H.size) cw ⟨kpx_blind, va_recv hK hP hc he, fun U hU hW => ⟨rfl, by rw [hU], by rw [hU]; exact hP, va_K.moved hW.alike hK, hD.weaken (fun _ _ _ _ => trivial), by rw [hU]; exact hC0.go hS hW hFc⟩⟩ rfl hn hsz hst (lv_room hW) hdg hf) hS (fun q _ h => hFc q h) hFc (fun q _ h => hFc q h) (fun E' ce q9 u t H1 locs1 ht hvm hp hB hz1 hk1 hS1 hce hcv hcl => ?_) (fun u t H1 locs1 ht hvm hp hB hz1 hk1 hS1 => hp.elim)
  obtain ⟨rfl, b1, b2, b3⟩ := hB
  rw [ht] at b1
  exact kk ce q9 H1 locs1 b1 b3 hk1 hS1 hce hcv hcl
theorem k_vvH {wc : va_W} {wf : S → va_W} {post : S → Prop} (F : CallFix p m c cc nL s args Ts own) (hM : KV l y wsy rm D ty (.ref b :: As) wc post wf mc ms) (cw : CallW R s args own C index y bytes maxL ret wsy rm mc ms n)
    (hP : va_P D vwCl wc H) (hD : va_D A wc) (hK : va_K D vwCl ty s) (hS : va_S A s.heap H locs) (hA : ∀ q, s.heap.size ≤ q → A q) {ci q0 : Nat} {fs : List Value} {vc : vw_C} (hc : vwCl[ci]? = some vc) (hvc : vc.1 = C) (he : wc[q0]? = some (b, .inr (ci, fs)))
    (hn : As.length = n) (hsz : ls.size = nL) (hst : st0 = As.reverse ++ .ref b :: rest) (hW : (rest.map fun v => v.category).sum ≤ 8) (hdg : decode cc pc = .ok (.invokevirtual index, 3)) (hf : cells + mc ≤ R.cells ∧ slots + ms ≤ R.slots)
    (kk : ∀ (u : S) (H1 : Heap) (locs : List Loc), post u → va_P D vwCl (wf u) H1 → va_D A (wf u) → va_S A s.heap H1 locs → W p l e R s m args below meth c H1 locs (cells + mc) (slots + ms) Q (F0 m (pc + 3) ls rest)) :
    W p l e R s m args below meth c H locs cells slots Q (F0 m pc ls st0) := by
  subst hvc
  have hFc := k_allF (D := D) hD hS hA
  refine va_callv (va_runV (As := As) (rest := rest) F (hM H.size) cw ⟨kp_blind, va_recv hK hP hc he, fun U hU hW => ⟨rfl, by rw [hU], by rw [hU]; exact hP, va_K.moved hW.alike hK, hD.weaken (fun _ _ _ _ => trivial)⟩⟩ rfl hn hsz hst (lv_room hW) hdg hf) hS (fun q _ h => hFc q h) hFc (fun u t H1 locs1 ht hvm hp hB hz1 hk1 hS1 => ?_)
  obtain ⟨b1, b2, b3⟩ := hB
  rw [ht] at b1
  exact kk u H1 locs1 hp b1 (b3.weaken (fun _ q _ h => hFc q.1 h)) hS1
theorem k_viH {wc : va_W} {o : Nat × va_E} {wf : S → va_W} {post : Int32 → S → Prop} (F : CallFix p m c cc nL s args Ts own) (hM : KI l y wsy rm D ty (.ref b :: As) wc post wf mc ms) (cw : CallW R s args own C index y bytes maxL ret wsy rm mc ms n)
    (hP : va_P D vwCl (o :: wc) H) (hD : va_D A (o :: wc)) (hK : va_K D vwCl ty s) (hS : va_S A s.heap H locs) (hA : ∀ q, s.heap.size ≤ q → A q) {ci q0 : Nat} {fs : List Value} {vc : vw_C} (hc : vwCl[ci]? = some vc) (hvc : vc.1 = C) (he : wc[q0]? = some (b, .inr (ci, fs)))
    (hn : As.length = n) (hsz : ls.size = nL) (hst : st0 = As.reverse ++ .ref b :: rest) (hW : (rest.map fun v => v.category).sum ≤ 8) (hdg : decode cc pc = .ok (.invokevirtual index, 3)) (hf : cells + mc ≤ R.cells ∧ slots + ms ≤ R.slots)
    (kk : ∀ (r : Int32) (u : S) (H1 : Heap) (locs : List Loc), post r u → va_P D vwCl (o :: wf u) H1 → va_D A (o :: wf u) → va_S A s.heap H1 locs → W p l e R s m args below meth c H1 locs (cells + mc) (slots + ms) Q (F0 m (pc + 3) ls (.int r :: rest))) :
    W p l e R s m args below meth c H locs cells slots Q (F0 m pc ls st0) := by
  subst hvc
  have hP0 := k_tlP hP
  have hD0 := k_tlD hD
  have hFc := k_allF (D := D) hD0 hS hA
  refine va_calli (va_runV (As := As) (rest := rest) F (hM H.size) cw ⟨kp_blind, va_recv hK hP0 hc he, fun U hU hW => ⟨rfl, by rw [hU], by rw [hU]; exact hP0, va_K.moved hW.alike hK, hD0.weaken (fun _ _ _ _ => trivial)⟩⟩ rfl hn hsz hst (lv_room hW) hdg hf) hS (fun q _ h => hFc q h) hFc (fun r u t H1 locs1 ht hvm hp hB hz1 hk1 hS1 => ?_)
  obtain ⟨b1, b2, b3⟩ := hB
  rw [ht] at b1
  obtain ⟨c1, c2⟩ := k_pre hP hD hFc hk1 b1 b3
  exact kk r u H1 locs1 hp c1 c2 hS1
end KH

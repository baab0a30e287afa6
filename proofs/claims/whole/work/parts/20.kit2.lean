/-! a method that answers a reference or null -/
def KQ (l : Launch) (y : MethodName) (ws : List Cond) (rm : Room) (D : va_G) (ty : List (ClassId × FieldType)) (As : List Value) (wc : va_W) {S : Type} (post : Option Nat → S → Prop) (wf : S → va_W) (mc ms : Nat) : Prop :=
  ∀ sz : Nat, Met l y ws rm (kp D ty As wc sz) (va_Qq post (fun u t => kq D ty (va_A wc sz) (wf u) t) (va_A wc sz)) mc ms (va_A wc sz)
theorem k_headQ {l : Launch} {y : MethodName} {ws ws' : List Cond} {rm : Room} {D : va_G} {ty : List (ClassId × FieldType)} {As : List Value} {wc : va_W} {S : Type} {post : Option Nat → S → Prop} {wf : S → va_W} {mc ms : Nat} {cc : ByteArray} {maxL : Nat} {ret : Option FieldType}
    (hy : plainName y.cls = true) (hw : ws = Cond.code y cc maxL ret :: ws') (hnl : (lg_sl As).length ≤ maxL)
    (body : ∀ (p : Program) (e : Env) (s : State) (m : MethodId) (below : List Frame) (meth : Method) (c : Code) (A : Nat → Prop) (ls : Array Slot) (args : Array Value) (Q : State → Prop), p.tables.exec = Jvm.exec → c.code = cc → meth.sig.returnType = ret → c.maxLocals = maxL → (∀ w ∈ ws, w.before args s = true) → s.vm.findClass y.cls = some m.cls → meth.locks = false → meth.name = y.name →
      (∀ q, s.heap.size ≤ q → A q) → va_K D vwCl ty s → va_P D vwCl wc s.heap → va_D A wc → va_S A s.heap s.heap [] → lv_has ls maxL (lv_args 0 As) → Q = MQ below (va_Qq post (fun u t => kq D ty A (wf u) t) A) args s mc ms A →
      W p l e rm s m args below meth c s.heap [] 0 0 Q (F0 m 0 ls [])) : KQ l y ws rm D ty As wc post wf mc ms := by
  intro sz
  refine Met.ofW (cc := cc) (maxL := maxL) (ret := ret) hy hw ?_
  intro p e s m args below meth c s₁ B hml hv
  obtain ⟨rfl, hsz, hP, hK, hD0⟩ := hv
  subst hsz
  have hl := lv_entry As (n := maxL) hnl
  rw [lg_entry_eq]
  exact body p e s m below meth c (va_A wc s.heap.size) _ _ _ B.exec B.bytes B.returns hml (atoms_spec (ws := ws) B.pre) (findClass_of_methodNamed B.named) B.notSynchronized (name_of_methodNamed B.named B.method).1 (fun q h => Or.inr h) hK hP (hD0.self (sz := s.heap.size)) va_S.rf hl rfl
section KD
variable {p : Program} {l : Launch} {e : Env} {R : Room} {s : State} {m : MethodId} {args : Array Value} {below : List Frame} {meth : Method} {c : Code} {H : Heap} {locs : List Loc} {cells slots : Nat} {Q : State → Prop}
variable {D : va_G} {ty : List (ClassId × FieldType)} {A : Nat → Prop} {pc : Nat} {ls : Array Slot} {rest st0 : List Value}
variable {Ts wsy : List Cond} {cc bytes : ByteArray} {nL maxL index n mc ms : Nat} {own C : String} {y : MethodName} {ret : Option FieldType} {rm : Room} {As : List Value} {b : Nat} {S : Type}
theorem k_vq {post : Option Nat → S → Prop} {wf w2 : S → va_W} {ws0 wc : va_W} (F : CallFix p m c cc nL s args Ts own) (hM : KQ l y wsy rm D ty (.ref b :: As) wc post wf mc ms) (cw : CallW R s args own C index y bytes maxL ret wsy rm mc ms n)
    (hP : va_P D vwCl ws0 H) (hD : va_D A ws0) (hK : va_K D vwCl ty s) (hS : va_S A s.heap H locs) (hA : ∀ q, s.heap.size ≤ q → A q) (isC isR pm : List Nat) (hC : isC.map (fun i => ws0[i]?) = wc.map some) (hR : isR.map (fun i => ws0[i]?) = (isR.filterMap (fun i => ws0[i]?)).map some) (hnd : (va_nd isC && va_nd isR && va_nd pm && isR.all (fun i => decide (i ∉ isC))) = true)
    (hpm : ∀ u, pm.map (fun i => ((isR.filterMap (fun i => ws0[i]?)) ++ wf u)[i]?) = (w2 u).map some) {ci q0 : Nat} {fs : List Value} {vc : vw_C} (hc : vwCl[ci]? = some vc) (hvc : vc.1 = C) (he : wc[q0]? = some (b, .inr (ci, fs)))
    (hn : As.length = n) (hsz : ls.size = nL) (hst : st0 = As.reverse ++ .ref b :: rest) (hW : (rest.map fun v => v.category).sum ≤ 8) (hdg : decode cc pc = .ok (.invokevirtual index, 3)) (hf : cells + mc ≤ R.cells ∧ slots + ms ≤ R.slots)
    (kk : ∀ (r : Option Nat) (u : S) (H : Heap) (locs : List Loc), post r u → va_P D vwCl (w2 u) H → va_D A (w2 u) → va_S A s.heap H locs → W p l e R s m args below meth c H locs (cells + mc) (slots + ms) Q (F0 m (pc + 3) ls (va_rf r :: rest))) :
    W p l e R s m args below meth c H locs cells slots Q (F0 m pc ls st0) := by
  simp only [Bool.and_eq_true, List.all_eq_true, decide_eq_true_eq] at hnd
  obtain ⟨⟨⟨n1, n2⟩, n3⟩, n4⟩ := hnd
  subst hvc
  have hPc := k_subP hP isC hC
  have hDc := hD.sub isC n1 hC
  have hFc := va_free hD hS hA isC hC
  refine va_callq (va_runV (As := As) (rest := rest) F (hM H.size) cw ⟨kp_blind, va_recv hK hPc hc he, fun U hU hW => ⟨rfl, by rw [hU], by rw [hU]; exact hPc, va_K.moved hW.alike hK, hDc.weaken (fun _ _ _ _ => trivial)⟩⟩ rfl hn hsz hst (lv_room hW) hdg hf) hS (fun q _ h => hFc q h) hFc (fun r u t H1 locs1 ht hvm hp hB hz1 hk1 hS1 => ?_)
  obtain ⟨b1, b2, b3⟩ := hB
  rw [ht] at b1
  obtain ⟨c1, c2⟩ := k_back hP hD hS hA isC isR hC hR n2 n4 pm (hpm u) n3 hk1 b1 b3
  exact kk r u H1 locs1 hp c1 c2 hS1
theorem k_tq {r r' : Option Nat} (h : r = r') (k : W p l e R s m args below meth c H locs cells slots Q (F0 m pc ls (va_rf r' :: rest))) : W p l e R s m args below meth c H locs cells slots Q (F0 m pc ls (va_rf r :: rest)) := by
  rw [h]; exact k
theorem k_retq {post : Option Nat → S → Prop} {wf : S → va_W} {r : Option Nat} {rt : String} (u : S) (hx : p.tables.exec = Jvm.exec) (hb : c.code = cc) (hr : meth.sig.returnType = some (.object rt)) (hK : va_K D vwCl ty s) (hS : va_S A s.heap H locs) (hlk : meth.locks = false) (hdg : decode cc pc = .ok (.areturn, 1))
    (hP : va_P D vwCl (wf u) H) (hD : va_D A (wf u)) (hp : post r u) (hQ : Q = MQ below (va_Qq post (fun u t => kq D ty A (wf u) t) A) args s cells slots A) :
    W p l e R s m args below meth c H locs cells slots Q (F0 m pc ls [va_rf r]) := by
  subst hQ
  exact W.aret hx hb hr (Or.inl ⟨rt, rfl⟩) (by cases r with | none => exact Or.inl rfl | some a => exact Or.inr ⟨a, rfl⟩) (fun t ht hW => ⟨⟨r, u, rfl, hp, by rw [ht]; exact hP, va_K.moved hW.alike hK, hD⟩, hS.F ht⟩) hS.2.2 hdg
end KD

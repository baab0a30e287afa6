/-! new arrays of the three classes, constructors called -/
section KN
variable {p : Program} {l : Launch} {e : Env} {R : Room} {s : State} {m : MethodId} {args : Array Value} {below : List Frame} {meth : Method} {c : Code} {H H0 : Heap} {locs : List Loc} {cells slots : Nat} {Q : State → Prop} {cc : ByteArray}
variable {D : va_G} {A : Nat → Prop} {pc : Nat} {ls : Array Slot} {rest : List Value} {ws : va_W} {cI cZ cJ : ClassId}
theorem k_newI (hx : p.tables.exec = Jvm.exec) (hb : c.code = cc) (harr : (Cond.arrayClass .int).before args s = true) (hK : va_K D vwCl (kty cI cZ cJ) s) (hP : va_P D vwCl ws H) (hD : va_D A ws) (hS : va_S A H0 H locs) (hA : ∀ q, H0.size ≤ q → A q) (N : Nat) (hN : N ≤ 100000) (hcells : cells + 1 ≤ R.cells) (hslots : slots + N ≤ R.slots) (hdg : decode cc pc = .ok (.newarray .int, 2))
    (kk : ∀ (q : Nat) (H1 : Heap), va_P D vwCl (ws ++ [(q, .inl (cI, N, .inl (fun _ => 0)))]) H1 → va_D A (ws ++ [(q, .inl (cI, N, .inl (fun _ => 0)))]) → va_S A H0 H1 locs →
      W p l e R s m args below meth c H1 locs (cells + 1) (slots + N) Q (F0 m (pc + 2) ls (.ref q :: rest))) : W p l e R s m args below meth c H locs cells slots Q (F0 m pc ls (.int (nI N) :: rest)) := by
  refine va_newa (a0 := (N, .inl (fun _ => 0))) (atype := .int) (ty := .int) hx hb harr rfl hK hP hD hS hA (fun cA => rfl) (nI_pos (by omega)) (nI_clamp (by omega)) (by show N * 4 ≤ _; omega) hcells hslots hdg (fun q cA H1 hK1 hP1 hD1 hS1 => ?_)
  have h1 : s.vm.findClass "[I" = some cI := (hK.2 0 _ rfl).2
  have h2 : s.vm.findClass "[I" = some cA := (hK1.2 3 _ rfl).2
  obtain rfl : cA = cI := Option.some.inj (h2.symm.trans h1)
  exact kk q H1 hP1 hD1 hS1
theorem k_newZ (hx : p.tables.exec = Jvm.exec) (hb : c.code = cc) (harr : (Cond.arrayClass .boolean).before args s = true) (hK : va_K D vwCl (kty cI cZ cJ) s) (hP : va_P D vwCl ws H) (hD : va_D A ws) (hS : va_S A H0 H locs) (hA : ∀ q, H0.size ≤ q → A q) (N : Nat) (hN : N ≤ 100000) (hcells : cells + 1 ≤ R.cells) (hslots : slots + N ≤ R.slots) (hdg : decode cc pc = .ok (.newarray .boolean, 2))
    (kk : ∀ (q : Nat) (H1 : Heap), va_P D vwCl (ws ++ [(q, .inl (cZ, N, .inl (fun _ => 0)))]) H1 → va_D A (ws ++ [(q, .inl (cZ, N, .inl (fun _ => 0)))]) → va_S A H0 H1 locs →
      W p l e R s m args below meth c H1 locs (cells + 1) (slots + N) Q (F0 m (pc + 2) ls (.ref q :: rest))) : W p l e R s m args below meth c H locs cells slots Q (F0 m pc ls (.int (nI N) :: rest)) := by
  refine va_newa (a0 := (N, .inl (fun _ => 0))) (atype := .boolean) (ty := .boolean) hx hb harr rfl hK hP hD hS hA (fun cA => rfl) (nI_pos (by omega)) (nI_clamp (by omega)) (by show N * 1 ≤ _; omega) hcells hslots hdg (fun q cA H1 hK1 hP1 hD1 hS1 => ?_)
  have h1 : s.vm.findClass "[Z" = some cZ := (hK.2 1 _ rfl).2
  have h2 : s.vm.findClass "[Z" = some cA := (hK1.2 3 _ rfl).2
  obtain rfl : cA = cZ := Option.some.inj (h2.symm.trans h1)
  exact kk q H1 hP1 hD1 hS1
theorem k_newJ (hx : p.tables.exec = Jvm.exec) (hb : c.code = cc) (harr : (Cond.arrayClass .long).before args s = true) (hK : va_K D vwCl (kty cI cZ cJ) s) (hP : va_P D vwCl ws H) (hD : va_D A ws) (hS : va_S A H0 H locs) (hA : ∀ q, H0.size ≤ q → A q) (N : Nat) (hN : N ≤ 100000) (hcells : cells + 1 ≤ R.cells) (hslots : slots + N ≤ R.slots) (hdg : decode cc pc = .ok (.newarray .long, 2))
    (kk : ∀ (q : Nat) (H1 : Heap), va_P D vwCl (ws ++ [(q, .inl (cJ, N, .inr (.inl (fun _ => 0))))]) H1 → va_D A (ws ++ [(q, .inl (cJ, N, .inr (.inl (fun _ => 0))))]) → va_S A H0 H1 locs →
      W p l e R s m args below meth c H1 locs (cells + 1) (slots + N) Q (F0 m (pc + 2) ls (.ref q :: rest))) : W p l e R s m args below meth c H locs cells slots Q (F0 m pc ls (.int (nI N) :: rest)) := by
  refine va_newa (a0 := (N, .inr (.inl (fun _ => 0)))) (atype := .long) (ty := .long) hx hb harr rfl hK hP hD hS hA (fun cA => rfl) (nI_pos (by omega)) (nI_clamp (by omega)) (by show N * 8 ≤ _; omega) hcells hslots hdg (fun q cA H1 hK1 hP1 hD1 hS1 => ?_)
  have h1 : s.vm.findClass "[J" = some cJ := (hK.2 2 _ rfl).2
  have h2 : s.vm.findClass "[J" = some cA := (hK1.2 3 _ rfl).2
  obtain rfl : cA = cJ := Option.some.inj (h2.symm.trans h1)
  exact kk q H1 hP1 hD1 hS1
end KN
section KI
variable {p : Program} {l : Launch} {e : Env} {R : Room} {s : State} {m : MethodId} {args : Array Value} {below : List Frame} {meth : Method} {c : Code} {H : Heap} {locs : List Loc} {cells slots : Nat} {Q : State → Prop}
variable {D : va_G} {ty : List (ClassId × FieldType)} {A : Nat → Prop} {pc : Nat} {ls : Array Slot} {rest st0 : List Value}
variable {Ts wsy : List Cond} {cc bytes : ByteArray} {nL maxL index n mc ms : Nat} {own C host : String} {y : MethodName} {rm : Room} {As : List Value} {b : Nat} {S : Type}
/-- invokespecial <init> -/
theorem k_iv {post : S → Prop} {wf w2 : S → va_W} {ws0 wc : va_W} (F : CallFix p m c cc nL s args Ts own) (hM : KV l y wsy rm D ty (.ref b :: As) wc post wf mc ms) (cw : CallB R s args own index y bytes maxL none wsy rm mc ms n ∧ y.name = "<init>" ∧ (Cond.instanceMethod y).before args s = true)
    (hP : va_P D vwCl ws0 H) (hD : va_D A ws0) (hK : va_K D vwCl ty s) (hS : va_S A s.heap H locs) (hA : ∀ q, s.heap.size ≤ q → A q) (isC isR pm : List Nat) (hC : isC.map (fun i => ws0[i]?) = wc.map some) (hR : isR.map (fun i => ws0[i]?) = (isR.filterMap (fun i => ws0[i]?)).map some) (hnd : (va_nd isC && va_nd isR && va_nd pm && isR.all (fun i => decide (i ∉ isC))) = true)
    (hpm : ∀ u, pm.map (fun i => ((isR.filterMap (fun i => ws0[i]?)) ++ wf u)[i]?) = (w2 u).map some)
    (hn : As.length = n) (hsz : ls.size = nL) (hst : st0 = As.reverse ++ .ref b :: rest) (hW : (rest.map fun v => v.category).sum ≤ 8) (hdg : decode cc pc = .ok (.invokespecial index, 3)) (hf : cells + mc ≤ R.cells ∧ slots + ms ≤ R.slots)
    (kk : ∀ (u : S) (H : Heap) (locs : List Loc), post u → va_P D vwCl (w2 u) H → va_D A (w2 u) → va_S A s.heap H locs → W p l e R s m args below meth c H locs (cells + mc) (slots + ms) Q (F0 m (pc + 3) ls rest)) :
    W p l e R s m args below meth c H locs cells slots Q (F0 m pc ls st0) := by
  simp only [Bool.and_eq_true, List.all_eq_true, decide_eq_true_eq] at hnd
  obtain ⟨⟨⟨n1, n2⟩, n3⟩, n4⟩ := hnd
  have hPc := k_subP hP isC hC
  have hDc := hD.sub isC n1 hC
  have hFc := va_free hD hS hA isC hC
  refine va_callv (va_runI (As := As) (rest := rest) F (hM H.size) cw ⟨kp_blind, fun U hU hW => ⟨rfl, by rw [hU], by rw [hU]; exact hPc, va_K.moved hW.alike hK, hDc.weaken (fun _ _ _ _ => trivial)⟩⟩ rfl hn hsz hst (lv_room hW) hdg hf) hS (fun q _ h => hFc q h) hFc (fun u t H1 locs1 ht hvm hp hB hz1 hk1 hS1 => ?_)
  obtain ⟨b1, b2, b3⟩ := hB
  rw [ht] at b1
  obtain ⟨c1, c2⟩ := k_back hP hD hS hA isC isR hC hR n2 n4 pm (hpm u) n3 hk1 b1 b3
  exact kk u H1 locs1 hp c1 c2 hS1
/-- .. of a nest mate -/
theorem k_ivn {post : S → Prop} {wf w2 : S → va_W} {ws0 wc : va_W} (F : CallFix p m c cc nL s args Ts own) (hM : KV l y wsy rm D ty (.ref b :: As) wc post wf mc ms) (cw : va_CN R s args own index y host bytes maxL none wsy rm mc ms n ∧ y.name = "<init>" ∧ (Cond.instanceMethod y).before args s = true)
    (hP : va_P D vwCl ws0 H) (hD : va_D A ws0) (hK : va_K D vwCl ty s) (hS : va_S A s.heap H locs) (hA : ∀ q, s.heap.size ≤ q → A q) (isC isR pm : List Nat) (hC : isC.map (fun i => ws0[i]?) = wc.map some) (hR : isR.map (fun i => ws0[i]?) = (isR.filterMap (fun i => ws0[i]?)).map some) (hnd : (va_nd isC && va_nd isR && va_nd pm && isR.all (fun i => decide (i ∉ isC))) = true)
    (hpm : ∀ u, pm.map (fun i => ((isR.filterMap (fun i => ws0[i]?)) ++ wf u)[i]?) = (w2 u).map some)
    (hn : As.length = n) (hsz : ls.size = nL) (hst : st0 = As.reverse ++ .ref b :: rest) (hW : (rest.map fun v => v.category).sum ≤ 8) (hdg : decode cc pc = .ok (.invokespecial index, 3)) (hf : cells + mc ≤ R.cells ∧ slots + ms ≤ R.slots)
    (kk : ∀ (u : S) (H : Heap) (locs : List Loc), post u → va_P D vwCl (w2 u) H → va_D A (w2 u) → va_S A s.heap H locs → W p l e R s m args below meth c H locs (cells + mc) (slots + ms) Q (F0 m (pc + 3) ls rest)) :
    W p l e R s m args below meth c H locs cells slots Q (F0 m pc ls st0) := by
  simp only [Bool.and_eq_true, List.all_eq_true, decide_eq_true_eq] at hnd
  obtain ⟨⟨⟨n1, n2⟩, n3⟩, n4⟩ := hnd
  have hPc := k_subP hP isC hC
  have hDc := hD.sub isC n1 hC
  have hFc := va_free hD hS hA isC hC
  refine va_callv (va_runIN (As := As) (rest := rest) F (hM H.size) cw ⟨kp_blind, fun U hU hW => ⟨rfl, by rw [hU], by rw [hU]; exact hPc, va_K.moved hW.alike hK, hDc.weaken (fun _ _ _ _ => trivial)⟩⟩ rfl hn hsz hst (lv_room hW) hdg hf) hS (fun q _ h => hFc q h) hFc (fun u t H1 locs1 ht hvm hp hB hz1 hk1 hS1 => ?_)
  obtain ⟨b1, b2, b3⟩ := hB
  rw [ht] at b1
  obtain ⟨c1, c2⟩ := k_back hP hD hS hA isC isR hC hR n2 n4 pm (hpm u) n3 hk1 b1 b3
  exact kk u H1 locs1 hp c1 c2 hS1
end KI
/-! the constructor of the class needs the three private links -/
def kxL (U : State) : Prop := va_Nw (.methodLinkNest RX4 9 yX1_init "VeiledFiles") U ∧ va_Nw (.methodLinkNest RX4 34 yX0_init "VeiledFiles") U ∧ va_Nw (.methodLinkNest RX4 41 yX2_init "VeiledFiles") U
theorem kxL.warm {s U : State} (hW : s.WarmedH U.vm) (h : kxL s) : kxL U := ⟨h.1.warmM hW, h.2.1.warmM hW, h.2.2.warmM hW⟩
def kpl (D : va_G) (ty : List (ClassId × FieldType)) (As : List Value) (wc : va_W) (sz : Nat) : Array Value → State → Prop :=
  va_Pc As (fun U => U.heap.size = sz ∧ va_P D vwCl wc U.heap ∧ va_K D vwCl ty U ∧ va_D (fun _ => True) wc ∧ kxL U)
theorem kpl_blind {D : va_G} {ty : List (ClassId × FieldType)} {As : List Value} {wc : va_W} {sz : Nat} : FrameBlind (kpl D ty As wc sz) := fun a U g mk q => by
  obtain ⟨q0, q1, qP, qK, qD, qw⟩ := q
  have hal : U.vm.Alike (U.calling g mk a).vm := Vm.Alike.refl U.vm
  have hW : U.WarmedH (U.calling g mk a).vm := State.WarmedH.refl U
  exact ⟨q0, q1, qP, va_K.moved (u := U) (U := U.calling g mk a) hal qK, qD, kxL.warm (s := U) (U := U.calling g mk a) hW qw⟩
def KL (l : Launch) (y : MethodName) (ws : List Cond) (rm : Room) (D : va_G) (ty : List (ClassId × FieldType)) (As : List Value) (wc : va_W) {S : Type} (post : S → Prop) (wf : S → va_W) (mc ms : Nat) : Prop :=
  ∀ sz : Nat, Met l y ws rm (kpl D ty As wc sz) (va_Qv post (fun u t => kq D ty (va_A wc sz) (wf u) t) (va_A wc sz)) mc ms (va_A wc sz)
theorem k_headL {l : Launch} {y : MethodName} {ws ws' : List Cond} {rm : Room} {D : va_G} {ty : List (ClassId × FieldType)} {As : List Value} {wc : va_W} {S : Type} {post : S → Prop} {wf : S → va_W} {mc ms : Nat} {cc : ByteArray} {maxL : Nat} {ret : Option FieldType}
    (hy : plainName y.cls = true) (hw : ws = Cond.code y cc maxL ret :: ws') (hnl : (lg_sl As).length ≤ maxL)
    (body : ∀ (p : Program) (e : Env) (s : State) (m : MethodId) (below : List Frame) (meth : Method) (c : Code) (A : Nat → Prop) (ls : Array Slot) (args : Array Value) (Q : State → Prop), p.tables.exec = Jvm.exec → c.code = cc → meth.sig.returnType = ret → c.maxLocals = maxL → (∀ w ∈ ws, w.before args s = true) → s.vm.findClass y.cls = some m.cls → meth.locks = false → meth.name = y.name →
      (∀ q, s.heap.size ≤ q → A q) → va_K D vwCl ty s → va_P D vwCl wc s.heap → va_D A wc → va_S A s.heap s.heap [] → lv_has ls maxL (lv_args 0 As) → kxL s → Q = MQ below (va_Qv post (fun u t => kq D ty A (wf u) t) A) args s mc ms A →
      W p l e rm s m args below meth c s.heap [] 0 0 Q (F0 m 0 ls [])) : KL l y ws rm D ty As wc post wf mc ms := by
  intro sz
  refine Met.ofW (cc := cc) (maxL := maxL) (ret := ret) hy hw ?_
  intro p e s m args below meth c s₁ B hml hv
  obtain ⟨rfl, hsz, hP, hK, hD0, hL⟩ := hv
  subst hsz
  have hl := lv_entry As (n := maxL) hnl
  rw [lg_entry_eq]
  exact body p e s m below meth c (va_A wc s.heap.size) _ _ _ B.exec B.bytes B.returns hml (atoms_spec (ws := ws) B.pre) (findClass_of_methodNamed B.named) B.notSynchronized (name_of_methodNamed B.named B.method).1 (fun q h => Or.inr h) hK hP (hD0.self (sz := s.heap.size)) va_S.rf hl hL rfl

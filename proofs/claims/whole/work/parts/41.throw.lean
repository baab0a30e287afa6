/-! methods that throw: what they need of the start, their contract, its head, its end, a call of it -/
abbrev eIO : String := "java/lang/IndexOutOfBoundsException"
abbrev eIS : String := "java/lang/IllegalStateException"
abbrev eUp : List String := ["java/lang/RuntimeException", "java/lang/Exception"]
def kxI (X : String) : MethodName := ⟨X, "<init>", "()V"⟩
/-- words that are not good ones, but that a warmed machine keeps -/
def kxN (U : State) : Prop := (va_Nw (.castable eIO eIO) U ∧ va_Nw (.castable eIS eIS) U ∧ va_Nc eIS eIO U) ∧ va_Nw (.declares (kxI "java/lang/RuntimeException")) U ∧ va_Nw (.declares (kxI "java/lang/Exception")) U ∧ va_Nw (.declares (kxI "java/lang/Throwable")) U
theorem kxN.warm {s U : State} (hW : s.WarmedH U.vm) (h : kxN s) : kxN U :=
  ⟨⟨h.1.1.warmC hW, h.1.2.1.warmC hW, h.1.2.2.moved hW.alike⟩, h.2.1.warmD hW, h.2.2.1.warmD hW, h.2.2.2.warmD hW⟩
/-- .. and where Throwable's two statics lie -/
def kxC (A : Nat → Prop) (U : State) (H : Heap) : Prop := vx_Zq Bundle.tN "UNASSIGNED_STACK" Bundle.steD A U H ∧ vx_Zq Bundle.tN "SUPPRESSED_SENTINEL" Bundle.listD A U H ∧ kxN U
theorem kxC.go {A B : Nat → Prop} {s U : State} {H0 H : Heap} {locs : List Loc} (h : kxC A s H0) (hS : va_S A H0 H locs) (hW : s.WarmedH U.vm) (hAB : ∀ q, B q → A q) : kxC B U H :=
  ⟨vx_Zq.narrow (vx_Zq.moved hW.alike (h.1.kept hS.2.1)) hAB, vx_Zq.narrow (vx_Zq.moved hW.alike (h.2.1.kept hS.2.1)) hAB, h.2.2.warm hW⟩
def kpx (D : va_G) (ty : List (ClassId × FieldType)) (As : List Value) (wc : va_W) (sz : Nat) : Array Value → State → Prop :=
  va_Pc As (fun U => U.heap.size = sz ∧ va_P D vwCl wc U.heap ∧ va_K D vwCl ty U ∧ va_D (fun _ => True) wc ∧ kxC (va_A wc sz) U U.heap)
theorem kpx_blind {D : va_G} {ty : List (ClassId × FieldType)} {As : List Value} {wc : va_W} {sz : Nat} : FrameBlind (kpx D ty As wc sz) := fun a U g mk q => by
  obtain ⟨q0, q1, qP, qK, qD, qU, qN, qw⟩ := q
  have hal : U.vm.Alike (U.calling g mk a).vm := Vm.Alike.refl U.vm
  have hW : U.WarmedH (U.calling g mk a).vm := State.WarmedH.refl U
  exact ⟨q0, q1, qP, va_K.moved (u := U) (U := U.calling g mk a) hal qK, qD, vx_Zq.moved (u := U) (U := U.calling g mk a) hal qU, vx_Zq.moved (u := U) (U := U.calling g mk a) hal qN, kxN.warm (s := U) (U := U.calling g mk a) hW qw⟩
/-- a method that throws E, and leaves the world wx -/
def KT (l : Launch) (y : MethodName) (ws : List Cond) (rm : Room) (D : va_G) (ty : List (ClassId × FieldType)) (As : List Value) (wc : va_W) (E : String) (wx : va_W) : Prop :=
  ∀ sz : Nat, vx_Met l y ws rm (kpx D ty As wc sz) (va_Qv (fun _ : Unit => False) (fun _ _ => True) (va_A wc sz)) (vx_X (fun _ : Unit => True) (fun E' _ t => E' = E ∧ kq D ty (va_A wc sz) wx t) (va_A wc sz)) 1 6 (va_A wc sz)
theorem k_headT {l : Launch} {y : MethodName} {ws ws' : List Cond} {rm : Room} {D : va_G} {ty : List (ClassId × FieldType)} {As : List Value} {wc wx : va_W} {E : String} {cc : ByteArray} {maxL : Nat} {ret : Option FieldType}
    (hy : plainName y.cls = true) (hw : ws = Cond.code y cc maxL ret :: ws') (hnl : (lg_sl As).length ≤ maxL)
    (body : ∀ (p : Program) (e : Env) (s : State) (m : MethodId) (below : List Frame) (meth : Method) (c : Code) (A : Nat → Prop) (ls : Array Slot) (args : Array Value) (Q : State → Prop), p.tables.exec = Jvm.exec → c.code = cc → meth.sig.returnType = ret → c.maxLocals = maxL → (∀ w ∈ ws, w.before args s = true) → s.vm.findClass y.cls = some m.cls → meth.locks = false → meth.name = y.name →
      (∀ q, s.heap.size ≤ q → A q) → va_K D vwCl ty s → va_P D vwCl wc s.heap → va_D A wc → va_S A s.heap s.heap [] → lv_has ls maxL (lv_args 0 As) → (∀ x ∈ c.exceptionTable.toList, False) → kxC A s s.heap →
      Q = vx_MQ below (va_Qv (fun _ : Unit => False) (fun _ _ => True) A) (vx_X (fun _ : Unit => True) (fun E' _ t => E' = E ∧ kq D ty A wx t) A) args s 1 6 A →
      W p l e rm s m args below meth c s.heap [] 0 0 Q (F0 m 0 ls [])) : KT l y ws rm D ty As wc E wx := by
  intro sz
  refine vx_ofW (cc := cc) (maxL := maxL) (ret := ret) hy hw ?_
  intro p e s m args below meth c s₁ B hml htab hv
  obtain ⟨rfl, hsz, hP, hK, hD0, hC⟩ := hv
  subst hsz
  have hl := lv_entry As (n := maxL) hnl
  rw [lg_entry_eq]
  exact body p e s m below meth c (va_A wc s.heap.size) _ _ _ B.exec B.bytes B.returns hml (atoms_spec (ws := ws) B.pre) (findClass_of_methodNamed B.named) B.notSynchronized (name_of_methodNamed B.named B.method).1 (fun q h => Or.inr h) hK hP (hD0.self (sz := s.heap.size)) va_S.rf hl htab hC rfl
section KT
variable {p : Program} {l : Launch} {e : Env} {R : Room} {s : State} {m : MethodId} {args : Array Value} {below : List Frame} {meth : Method} {c : Code} {H : Heap} {locs : List Loc} {cells slots : Nat} {Q : State → Prop}
variable {D : va_G} {ty : List (ClassId × FieldType)} {A : Nat → Prop} {pc : Nat} {ls : Array Slot} {rest st0 : List Value}
variable {Ts wsy : List Cond} {cc bytes : ByteArray} {nL maxL index n : Nat} {own C : String} {y : MethodName} {ret : Option FieldType} {rm : Room} {As : List Value} {b : Nat}
/-- throw new E() -/
theorem k_throw {wx : va_W} {E : String} {ik ic : Nat} (hx : p.tables.exec = Jvm.exec) (hb : c.code = cc) (hlS : l.stackTraces = false) (hown : s.vm.findClass own = some m.cls) (hcls : Bundle.fit E = true)
    (hk : (Cond.classLink own ik E).before args s = true) (hini : (Cond.initialized E).before args s = true) (hat1 : ∀ w ∈ (vx_at0 own ic E eUp).filter goodWord, w.before args s = true)
    (hat2 : ∀ w ∈ (vx_at0 own ic E eUp).filter (fun w => !goodWord w), w ∈ [Cond.castable E E, Cond.declares (kxI "java/lang/RuntimeException"), Cond.declares (kxI "java/lang/Exception"), Cond.declares (kxI "java/lang/Throwable")]) (hEE : va_Nw (.castable E E) s)
    (hgood : ∀ w ∈ Cond.classLink own ik E :: Cond.initialized E :: vx_at0 own ic E eUp, vx_ot w = true)
    (hC : kxC A s s.heap) (hS : va_S A s.heap H locs) (hsize : ls.size = c.maxLocals) (hK : va_K D vwCl ty s) (hP : va_P D vwCl wx H) (hD : va_D A wx) (htab : ∀ x ∈ c.exceptionTable.toList, False) (hlk : meth.locks = false)
    (d0 : decode cc pc = .ok (.new ik, 3)) (d3 : decode cc (pc + 3) = .ok (.dup, 1)) (d4 : decode cc (pc + 4) = .ok (.invokespecial ic, 3)) (d7 : decode cc (pc + 7) = .ok (.athrow, 1))
    (hR : 5 < R.frames ∧ 81 ≤ R.locals ∧ cells + 1 ≤ R.cells ∧ slots + 6 ≤ R.slots) (hcs : cells = 0 ∧ slots = 0)
    (hQ : Q = vx_MQ below (va_Qv (fun _ : Unit => False) (fun _ _ => True) A) (vx_X (fun _ : Unit => True) (fun E' _ t => E' = E ∧ kq D ty A wx t) A) args s 1 6 A) :
    W p l e R s m args below meth c H locs cells slots Q (F0 m pc ls []) := by
  subst hQ
  have hat : ∀ w ∈ vx_at0 own ic E eUp, w.before args s = true := vx_hat hat1 hat2 (vx_c (va_Nw.use rfl hEE) (vx_c (va_Nw.use rfl hC.2.2.2.1) (vx_c (va_Nw.use rfl hC.2.2.2.2.1) (vx_c (va_Nw.use rfl hC.2.2.2.2.2) vx_n))))
  refine vx_throw0 hx hb hlS hown hcls (by decide +kernel) hk hini hat hgood hC.1 hC.2.1 hS hsize d0 d3 d4 d7 (fun x h => (htab x h).elim) (show 2 + 3 < R.frames from hR.1) (by show 0 + (13 * (2 + 1) + 42) ≤ R.locals; exact hR.2.1) hR.2.2.1 hR.2.2.2 hlk ?_ (fun z hz => hS.2.2 z hz) (by omega) (by omega)
  intro t hal hz hkp
  refine ⟨(), trivial, ⟨rfl, va_P.kept hP (fun k q hq => hkp q.1 (vx_lt hP hq)), va_K.moved hal hK, hD⟩, Nat.le_trans hS.1 hz, fun q h1 h2 => ?_⟩
  rw [hkp q (Nat.lt_of_lt_of_le h1 hS.1)]
  exact hS.2.1 q h1 h2
/-- a call of it -/
theorem k_vt {ws0 wc wx w2 : va_W} {E : String} (F : CallFix p m c cc nL s args Ts own) (hM : KT l y wsy rm D ty (.ref b :: As) wc E wx) (cw : CallW R s args own C index y bytes maxL ret wsy rm 1 6 n)
    (hP : va_P D vwCl ws0 H) (hD : va_D A ws0) (hK : va_K D vwCl ty s) (hS : va_S A s.heap H locs) (hA : ∀ q, s.heap.size ≤ q → A q) (hC0 : kxC A s s.heap) (isC isR pm : List Nat) (hC : isC.map (fun i => ws0[i]?) = wc.map some) (hR : isR.map (fun i => ws0[i]?) = (isR.filterMap (fun i => ws0[i]?)).map some) (hnd : (va_nd isC && va_nd isR && va_nd pm && isR.all (fun i => decide (i ∉ isC))) = true)
    (hpm : pm.map (fun i => ((isR.filterMap (fun i => ws0[i]?)) ++ wx)[i]?) = w2.map some) {ci q0 : Nat} {fs : List Value} {vc : vw_C} (hc : vwCl[ci]? = some vc) (hvc : vc.1 = C) (he : wc[q0]? = some (b, .inr (ci, fs)))
    (hn : As.length = n) (hsz : ls.size = nL) (hst : st0 = As.reverse ++ .ref b :: rest) (hW : (rest.map fun v => v.category).sum ≤ 8) (hdg : decode cc pc = .ok (.invokevirtual index, 3)) (hf : cells + 1 ≤ R.cells ∧ slots + 6 ≤ R.slots)
    (kk : ∀ (ce : Cell) (q9 : Addr) (H : Heap) (locs : List Loc), va_P D vwCl w2 H → va_D A w2 → va_S A s.heap H locs → H[q9]? = some ce → ce.vm = .none → s.vm.findClass E = some ce.cls → vx_W p l e R s m args below meth c H locs (cells + 1) (slots + 6) Q (F0 m pc ls rest) q9) :
    W p l e R s m args below meth c H locs cells slots Q (F0 m pc ls st0) := by
  simp only [Bool.and_eq_true, List.all_eq_true, decide_eq_true_eq] at hnd
  obtain ⟨⟨⟨n1, n2⟩, n3⟩, n4⟩ := hnd
  subst hvc
  have hPc := k_subP hP isC hC
  have hDc := hD.sub isC n1 hC
  have hFc := va_free hD hS hA isC hC
  refine vx_callv (vx_runV (As := As) (rest := rest) F (hM H.size) cw ⟨kpx_blind, va_recv hK hPc hc he, fun U hU hW => ⟨rfl, by rw [hU], by rw [hU]; exact hPc, va_K.moved hW.alike hK, hDc.weaken (fun _ _ _ _ => trivial), by rw [hU]; exact hC0.go hS hW hFc⟩⟩ rfl hn hsz hst (lv_room hW) hdg hf) hS (fun q _ h => hFc q h) hFc (fun q _ h => hFc q h) (fun E' ce q9 u t H1 locs1 ht hvm hp hB hz1 hk1 hS1 hce hcv hcl => ?_) (fun u t H1 locs1 ht hvm hp hB hz1 hk1 hS1 => hp.elim)
  obtain ⟨rfl, b1, b2, b3⟩ := hB
  rw [ht] at b1
  obtain ⟨c1, c2⟩ := k_back hP hD hS hA isC isR hC hR n2 n4 pm hpm n3 hk1 b1 b3
  exact kk ce q9 H1 locs1 c1 c2 hS1 hce hcv hcl
end KT
theorem kx_b71 : ∀ w ∈ (vx_at0 RX4 71 eIO eUp).filter (fun w => !goodWord w), w ∈ [Cond.castable eIO eIO, Cond.declares (kxI "java/lang/RuntimeException"), Cond.declares (kxI "java/lang/Exception"), Cond.declares (kxI "java/lang/Throwable")] := by decide +kernel
theorem kx_b77 : ∀ w ∈ (vx_at0 RX4 77 eIS eUp).filter (fun w => !goodWord w), w ∈ [Cond.castable eIS eIS, Cond.declares (kxI "java/lang/RuntimeException"), Cond.declares (kxI "java/lang/Exception"), Cond.declares (kxI "java/lang/Throwable")] := by decide +kernel
theorem kx_o71 : ∀ w ∈ Cond.classLink RX4 69 eIO :: Cond.initialized eIO :: vx_at0 RX4 71 eIO eUp, vx_ot w = true := by decide +kernel
theorem kx_o77 : ∀ w ∈ Cond.classLink RX4 75 eIS :: Cond.initialized eIS :: vx_at0 RX4 77 eIS eUp, vx_ot w = true := by decide +kernel

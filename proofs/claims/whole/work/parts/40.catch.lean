/-! an exception is caught: the search through the table, catch types cold or warm -/
/-- a row whose range is met: its class resolved, and what the answer is worth -/
theorem kx_row {Q : Jvm.Handler → Pre} {E : CtlPost} {e : Env} {d : Bool} {acts : List Action} {s : State} {f : JFrame} {a : Addr} {x : ExceptionTableEntry} {t : List ExceptionTableEntry} {k : ClassId} {cell : Cell} {ok : Bool} (hx : covers x f.pc = true) (h0 : x.catchType ≠ 0)
    (hl : s.vm.ClassLinks e.platform f.method.cls x.catchType k) (hcell : s.heap[a]? = some cell) (hobj : ∀ k, cell.vm ≠ .statics k) (hk : ∃ k, s.vm.classes[cell.cls]? = some k) (hfit : s.vm.assignable cell.cls k = ok) :
    Sem.wp (findHandler.go f a (x :: t)) Q E e d acts s ↔ if ok = true then Q (.found x.handlerPc) d acts (s.setVm (s.vm.noted f.method.cls x.catchType (.cls k))) else Sem.wp (findHandler.go f a t) Q E e d acts (s.setVm (s.vm.noted f.method.cls x.catchType (.cls k))) := by
  have hx2 : (decide (x.startPc ≤ f.pc) && decide (f.pc < x.endPc)) = true := hx
  obtain ⟨ha, ht⟩ := (resolveClass_links e.toSetting hl).op (op := VmOp.resolveClass f.method.cls x.catchType) rfl
  have hal : s.vm.Alike (s.vm.noted f.method.cls x.catchType (.cls k)) := (Vm.Alike.refl s.vm).noted _ _ _
  obtain ⟨dk, _, _, kt, hd, _, _, _, _, hkt, _, hopen⟩ := hl.here
  obtain ⟨k1, hk1⟩ := hk
  obtain ⟨k1', hk1', -⟩ := hal.2.2 _ _ hk1
  obtain ⟨k2', hk2', -⟩ := hal.2.2 _ _ hkt
  have hf2 : (s.vm.noted f.method.cls x.catchType (.cls k)).assignable cell.cls k = ok := by rw [hal.assignable]; exact hfit
  cases ok <;> simp [findHandler.go, hx2, h0, ha, ht, hcell, hobj, hk1', hk2', hf2, VmOp.dirties, VmOp.acts]
/-- the search goes over the rows that don't take it and ends at the row that does -/
theorem kx_go {e : Env} {s0 : State} {f : JFrame} {a : Addr} {cell : Cell} (hobj : ∀ k, cell.vm ≠ .statics k) (hk0 : ∃ k, s0.vm.classes[cell.cls]? = some k) (x : ExceptionTableEntry) (suf : List ExceptionTableEntry) (hx : covers x f.pc = true) (h0 : x.catchType ≠ 0) {kx : ClassId} (hlx : s0.vm.ClassLinks e.platform f.method.cls x.catchType kx) (hfx : s0.vm.assignable cell.cls kx = true) :
    ∀ (pre : List ExceptionTableEntry) (S : State), s0.WarmedH S.vm → S.heap[a]? = some cell → (∀ z ∈ pre, covers z f.pc = false ∨ (z.catchType ≠ 0 ∧ ∃ k, s0.vm.ClassLinks e.platform f.method.cls z.catchType k ∧ s0.vm.assignable cell.cls k = false)) →
      ∃ vm', s0.WarmedH vm' ∧ ∀ (Q : Jvm.Handler → Pre) (E : CtlPost) (d : Bool) (acts : List Action), Sem.wp (findHandler.go f a (pre ++ x :: suf)) Q E e d acts S ↔ Q (.found x.handlerPc) d acts (S.setVm vm')
  | [], S, hW, hcell, _ => by
    obtain ⟨k0, hk0⟩ := hk0
    obtain ⟨k1, hk1, -⟩ := hW.alike.2.2 _ _ hk0
    obtain ⟨dk, _, _, kt, hd, _, _, _, _, hkt, _, hopen⟩ := hlx.here
    refine ⟨_, hW.noted hd hopen (State.rightAt_cls hlx), fun Q E d acts => ?_⟩
    rw [List.nil_append, kx_row hx h0 (hW.classLinks hlx) hcell hobj ⟨k1, hk1⟩ (ok := true) (by rw [hW.alike.assignable]; exact hfx), if_pos rfl]
  | y :: ys, S, hW, hcell, hpass => by
    have hr := fun z hz => hpass z (List.mem_cons_of_mem y hz)
    rcases hpass y List.mem_cons_self with h | ⟨hy0, k, hl, hno⟩
    · obtain ⟨vm', hW', hq⟩ := kx_go hobj hk0 x suf hx h0 hlx hfx ys S hW hcell hr
      refine ⟨vm', hW', fun Q E d acts => ?_⟩
      rw [List.cons_append, Jvm.W.findHandler_go_skip h]
      exact hq Q E d acts
    · by_cases hc : covers y f.pc = true
      · obtain ⟨dk, _, _, kt, hd, _, _, _, _, hkt, _, hopen⟩ := hl.here
        obtain ⟨vm', hW', hq⟩ := kx_go hobj hk0 x suf hx h0 hlx hfx ys (S.setVm (S.vm.noted f.method.cls y.catchType (.cls k))) (hW.noted hd hopen (State.rightAt_cls hl)) hcell hr
        obtain ⟨k0, hk0⟩ := hk0
        obtain ⟨k1, hk1, -⟩ := hW.alike.2.2 _ _ hk0
        refine ⟨vm', hW', fun Q E d acts => ?_⟩
        rw [List.cons_append, kx_row hc hy0 (hW.classLinks hl) hcell hobj ⟨k1, hk1⟩ (ok := false) (by rw [hW.alike.assignable]; exact hno), if_neg (by decide)]
        exact hq Q E d acts
      · obtain ⟨vm', hW', hq⟩ := kx_go hobj hk0 x suf hx h0 hlx hfx ys S hW hcell hr
        refine ⟨vm', hW', fun Q E d acts => ?_⟩
        rw [List.cons_append, Jvm.W.findHandler_go_skip (by simpa using hc)]
        exact hq Q E d acts
section VC
variable {p : Program} {l : Launch} {e : Env} {R : Room} {s : State} {m : MethodId} {args : Array Value} {below : List Frame} {meth : Method} {c : Code} {H : Heap} {locs : List Loc} {cells slots : Nat} {Q : State → Prop} {pc : Nat} {ls : Array Slot} {rest : List Value}
/-- caught by the row x of this method's table; the rows ahead don't take it -/
theorem kx_catch {own name : String} {E : String} {ce : Cell} {q : Addr} (hown : s.vm.findClass own = some m.cls) (pre : List ExceptionTableEntry) (x : ExceptionTableEntry) (suf : List ExceptionTableEntry) (hsplit : c.exceptionTable.toList = pre ++ x :: suf)
    (hpass : ∀ z ∈ pre, covers z pc = false ∨ (z.catchType ≠ 0 ∧ ∃ nm : String, (Cond.classLink own z.catchType nm).before args s = true ∧ va_Nc E nm s)) (hx : covers x pc = true) (h0 : x.catchType ≠ 0)
    (hlink : (Cond.classLink own x.catchType name).before args s = true) (hcast : (Cond.castable E name).before args s = true) (hcell : H[q]? = some ce) (hv : ce.vm = .none) (hcl : s.vm.findClass E = some ce.cls)
    (kk : W p l e R s m args below meth c H locs cells slots Q (F0 m x.handlerPc ls [.ref q])) : vx_W p l e R s m args below meth c H locs cells slots Q (F0 m pc ls rest) q := by
  intro T hT X
  have hpl : e.platform.magicAccessors = ({} : Platform).magicAccessors := by rw [X.admits.platform]
  obtain ⟨c3, c4, hc3, hc4, hasg⟩ := Cond.castable_spec hcast
  cases Option.some.inj (hc3.symm.trans hcl)
  obtain ⟨c5, hc5, hcl5⟩ := Cond.classLink_spec hown hlink e.platform hpl
  cases Option.some.inj (hc4.symm.trans hc5)
  obtain ⟨k9, h9, -⟩ := Vm.findClass_spec hcl
  obtain ⟨vm', hW', hgo⟩ := kx_go (e := e) (s0 := s) (f := F0 m pc ls rest) (a := q) (cell := ce) (fun k hk => by rw [hv] at hk; cases hk) ⟨k9, h9⟩ x suf hx h0 hcl5 hasg pre ((T.setTop (F0 m pc ls rest)).pushFrame (.throwing q)) X.warmed (by show T.heap[q]? = some ce; rw [hT]; exact hcell) (fun z hz => by
      rcases hpass z hz with h | ⟨hz0, nm, hl1, hn1⟩
      · exact Or.inl h
      · obtain ⟨c6, hc6, hcl6⟩ := Cond.classLink_spec hown hl1 e.platform hpl
        obtain ⟨a8, b8, h1, h2, h3⟩ := hn1
        cases Option.some.inj (h1.symm.trans hcl)
        cases Option.some.inj (h2.symm.trans hc6)
        exact Or.inr ⟨hz0, _, hcl6, h3⟩)
  have hfind : ∀ (Q : Jvm.Handler → Pre) (E : CtlPost) (d : Bool) (acts : List Action), Sem.wp (findHandler (F0 m pc ls rest) q) Q E e d acts ((T.setTop (F0 m pc ls rest)).pushFrame (.throwing q)) ↔ Q (.found x.handlerPc) d acts (((T.setTop (F0 m pc ls rest)).pushFrame (.throwing q)).setVm vm') := fun Q E d acts => by
    rw [Jvm.W.findHandler_eq (s := (T.setTop (F0 m pc ls rest)).pushFrame (.throwing q)) (f := F0 m pc ls rest) X.method' X.code, hsplit]
    exact hgo Q E d acts
  have hstep : (stepThrowing e ((T.setTop (F0 m pc ls rest)).pushFrame (.throwing q)) q (.java (F0 m pc ls rest) :: below)).Is ((((T.setTop (F0 m pc ls rest)).pushFrame (.throwing q)).setVm vm').setFrames (.java { F0 m pc ls rest with pc := x.handlerPc, stack := [.ref q] } :: below)) [] := by
    simp only [stepThrowing, searchFrame, vmDo]
    generalize hr : Sem.go _ e false [] _ = res
    obtain ⟨as, rfl, ha⟩ := Sem.eq_ok_of hr (a := Jvm.Handler.found x.handlerPc) (s' := ((T.setTop (F0 m pc ls rest)).pushFrame (.throwing q)).setVm vm') (acts' := []) (by simp [hfind])
    exact ⟨rfl, ha⟩
  obtain ⟨g1, hfr⟩ := X.frames_eq
  obtain ⟨t, a1, b1⟩ := kk (T.setVm vm') hT (X.noted hW')
  refine ⟨t, ?_, b1⟩
  obtain ⟨hgo2, hw⟩ := X.here.throwing (g := F0 m pc ls rest) q
  refine Steps.head hgo2 hw ?_
  rw [stepThread_throwing (frames_entered X.here.top _)]
  have hfr2 : (T.setVm vm').frames = .java g1 :: below := hfr
  rw [State.setTop_of_frames _ hfr2] at a1
  rw [hfr, List.tail_cons, hstep.1, State.pushFrame, State.setTop_of_frames _ hfr]
  have hv1 : ∀ (u : State) (F : List Frame), (u.setFrames F).setVm vm' = (u.setVm vm').setFrames F := fun _ _ => rfl
  rw [hv1, State.setFrames_setFrames, hv1, State.setFrames_setFrames]
  exact a1
end VC

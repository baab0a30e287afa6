/-! the law's world: the class's cells, the reference's, the array; a call of one leaves the others -/
def dis (a b : va_W) : Prop := ∀ (i j : Nat) (x y : Nat × va_E), a[i]? = some x → b[j]? = some y → x.1 ≠ y.1
theorem dis.symm {a b : va_W} (h : dis a b) : dis b a := fun i j x y hi hj e => h j i y x hj hi e.symm
def lS3 (D : va_G) (A : Nat → Prop) (wx wm wo : va_W) (H : Heap) : Prop := (va_P D vwCl wx H ∧ va_D A wx) ∧ (va_P D vwCl wm H ∧ va_D A wm) ∧ (va_P D vwCl wo H ∧ va_D A wo) ∧ dis wx wm ∧ dis wx wo ∧ dis wm wo
theorem dis_back {D : va_G} {a b b' : va_W} {H H1 : Heap} (hPa : va_P D vwCl a H) (hd : dis a b) (hk : ∀ q : Nat, q < H.size → ¬ va_A b H.size q → H1[q]? = H[q]?) (hb : va_D (va_A b H.size) b') : va_P D vwCl a H1 ∧ dis a b' := by
  have hno : ∀ (i : Nat) (x : Nat × va_E), a[i]? = some x → ¬ va_A b H.size x.1 := fun i x hi => by
    rintro (⟨k, e, hk⟩ | h)
    · exact hd i k x (x.1, e) hi hk rfl
    · exact absurd (vx_lt hPa hi) (by omega)
  refine ⟨va_P.kept hPa (fun k q hq => hk q.1 (vx_lt hPa hq) (hno k q hq)), fun i j x y hi hj e => hno i x hi ?_⟩
  rw [e]; exact hb.2 j y hj
theorem lS3.x {D : va_G} {A : Nat → Prop} {wx wm wo wx' : va_W} {H H1 : Heap} (h : lS3 D A wx wm wo H) (hF : ∀ q, va_A wx H.size q → A q) (hk : ∀ q : Nat, q < H.size → ¬ va_A wx H.size q → H1[q]? = H[q]?) (b1 : va_P D vwCl wx' H1) (b3 : va_D (va_A wx H.size) wx') : lS3 D A wx' wm wo H1 := by
  obtain ⟨⟨x1, x2⟩, ⟨m1, m2⟩, ⟨o1, o2⟩, xm, xo, mo⟩ := h
  obtain ⟨n1, n2⟩ := dis_back m1 xm.symm hk b3
  obtain ⟨p1, p2⟩ := dis_back o1 xo.symm hk b3
  exact ⟨⟨b1, b3.weaken (fun _ q _ h => hF q.1 h)⟩, ⟨n1, m2⟩, ⟨p1, o2⟩, n2.symm, p2.symm, mo⟩
theorem lS3.m {D : va_G} {A : Nat → Prop} {wx wm wo wm' : va_W} {H H1 : Heap} (h : lS3 D A wx wm wo H) (hF : ∀ q, va_A wm H.size q → A q) (hk : ∀ q : Nat, q < H.size → ¬ va_A wm H.size q → H1[q]? = H[q]?) (b1 : va_P D vwCl wm' H1) (b3 : va_D (va_A wm H.size) wm') : lS3 D A wx wm' wo H1 := by
  obtain ⟨⟨x1, x2⟩, ⟨m1, m2⟩, ⟨o1, o2⟩, xm, xo, mo⟩ := h
  obtain ⟨n1, n2⟩ := dis_back x1 xm hk b3
  obtain ⟨p1, p2⟩ := dis_back o1 mo.symm hk b3
  exact ⟨⟨n1, x2⟩, ⟨b1, b3.weaken (fun _ q _ h => hF q.1 h)⟩, ⟨p1, o2⟩, n2, xo, p2.symm⟩
theorem cat_P {D : va_G} {a b : va_W} {H : Heap} (h : va_P D vwCl (a ++ b) H) : va_P D vwCl a H ∧ va_P D vwCl b H := by
  refine ⟨fun k q hq => h k q ?_, fun k q hq => h (a.length + k) q ?_⟩
  · rw [List.getElem?_append_left (List.getElem?_eq_some_iff.mp hq).1]; exact hq
  · rw [List.getElem?_append_right (by omega), Nat.add_sub_cancel_left]; exact hq
theorem cat_D {A : Nat → Prop} {a b : va_W} (h : va_D A (a ++ b)) : va_D A a ∧ va_D A b ∧ dis a b := by
  have el : ∀ (k : Nat) (q : Nat × va_E), a[k]? = some q → (a ++ b)[k]? = some q := fun k q hq => by
    rw [List.getElem?_append_left (List.getElem?_eq_some_iff.mp hq).1]; exact hq
  have er : ∀ (k : Nat) (q : Nat × va_E), b[k]? = some q → (a ++ b)[a.length + k]? = some q := fun k q hq => by
    rw [List.getElem?_append_right (by omega), Nat.add_sub_cancel_left]; exact hq
  refine ⟨⟨fun i j x y hi hj e => h.1 i j x y (el i x hi) (el j y hj) e, fun k q hq => h.2 k q (el k q hq)⟩, ⟨fun i j x y hi hj e => ?_, fun k q hq => h.2 _ q (er k q hq)⟩, fun i j x y hi hj e => ?_⟩
  · have := h.1 _ _ x y (er i x hi) (er j y hj) e
    omega
  · have h1 := h.1 _ _ x y (el i x hi) (er j y hj) e
    have h2 := (List.getElem?_eq_some_iff.mp hi).1
    omega
theorem dis_cat {a b c : va_W} (h1 : dis a c) (h2 : dis b c) : dis (a ++ b) c := fun i j x y hi hj e => by
  rcases Nat.lt_or_ge i a.length with q | q
  · rw [List.getElem?_append_left q] at hi; exact h1 i j x y hi hj e
  · rw [List.getElem?_append_right q] at hi; exact h2 _ j x y hi hj e
theorem dis_of_cat {a b c : va_W} (h : dis c (a ++ b)) : dis c a ∧ dis c b := by
  refine ⟨fun i j x y hi hj e => h i j x y hi ?_ e, fun i j x y hi hj e => h i (a.length + j) x y hi ?_ e⟩
  · rw [List.getElem?_append_left (List.getElem?_eq_some_iff.mp hj).1]; exact hj
  · rw [List.getElem?_append_right (by omega), Nat.add_sub_cancel_left]; exact hj
theorem lS3.ox {D : va_G} {A : Nat → Prop} {wx wm wo wx' wo' : va_W} {H H1 : Heap} (h : lS3 D A wx wm wo H) (hF : ∀ q, va_A (wo ++ wx) H.size q → A q) (hk : ∀ q : Nat, q < H.size → ¬ va_A (wo ++ wx) H.size q → H1[q]? = H[q]?) (b1 : va_P D vwCl (wo' ++ wx') H1) (b3 : va_D (va_A (wo ++ wx) H.size) (wo' ++ wx')) : lS3 D A wx' wm wo' H1 := by
  obtain ⟨⟨x1, x2⟩, ⟨m1, m2⟩, ⟨o1, o2⟩, xm, xo, mo⟩ := h
  obtain ⟨n1, n2⟩ := dis_back m1 (dis_cat mo.symm xm).symm hk b3
  obtain ⟨p1, p2⟩ := cat_P b1
  obtain ⟨d1, d2, d3⟩ := cat_D (b3.weaken (fun _ q _ h => hF q.1 h))
  obtain ⟨e1, e2⟩ := dis_of_cat n2
  exact ⟨⟨p2, d2⟩, ⟨n1, m2⟩, ⟨p1, d1⟩, e2.symm, d3.symm, e1⟩
theorem lS3.cat {D : va_G} {A : Nat → Prop} {wx wm wo : va_W} {H : Heap} (h : lS3 D A wx wm wo H) : va_P D vwCl (wo ++ wx) H ∧ va_D A (wo ++ wx) :=
  ⟨va_P.app h.2.2.1.1 h.1.1, va_D.app h.2.2.1.2 h.1.2 (fun i j p q hi hj => h.2.2.2.2.1.symm i j p q hi hj)⟩
section KLW
variable {p : Program} {l : Launch} {e : Env} {R : Room} {s : State} {m : MethodId} {args : Array Value} {below : List Frame} {meth : Method} {c : Code} {H : Heap} {locs : List Loc} {cells slots : Nat} {Q : State → Prop}
variable {D : va_G} {ty : List (ClassId × FieldType)} {A : Nat → Prop} {pc : Nat} {ls : Array Slot} {rest st0 : List Value}
variable {Ts wsy : List Cond} {cc bytes : ByteArray} {nL maxL index n mc ms : Nat} {own C : String} {y : MethodName} {ret : Option FieldType} {rm : Room} {As : List Value} {b : Nat} {S : Type} {wx wm wo : va_W} {hh : List (Nat × Nat × Nat × Nat)}
theorem kl_xi {wf : S → va_W} {post : Int32 → S → Prop} (F : CallFix p m c cc nL s args Ts own) (hM : KI l y wsy rm D ty (.ref b :: As) wx post wf mc ms) (cw : CallW R s args own C index y bytes maxL ret wsy rm mc ms n) (hL : lS3 D A wx wm wo H)
    (hK : va_K D vwCl ty s) (hS : va_S A s.heap H locs) (hA : ∀ q, s.heap.size ≤ q → A q) {ci q0 : Nat} {fs : List Value} {vc : vw_C} (hc : vwCl[ci]? = some vc) (hvc : vc.1 = C) (he : wx[q0]? = some (b, .inr (ci, fs)))
    (hn : As.length = n) (hsz : ls.size = nL) (hst : st0 = As.reverse ++ .ref b :: rest) (hW : (rest.map fun v => v.category).sum ≤ 8) (hdg : decode cc pc = .ok (.invokevirtual index, 3)) (hf : cells + mc ≤ R.cells ∧ slots + ms ≤ R.slots)
    (kk : ∀ (r : Int32) (u : S) (H1 : Heap) (locs : List Loc), post r u → lS3 D A (wf u) wm wo H1 → va_S A s.heap H1 locs → W p l e R s m args below meth c H1 locs (cells + mc) (slots + ms) Q (F0 m (pc + 3) ls (.int r :: rest))) :
    W p l e R s m args below meth c H locs cells slots Q (F0 m pc ls st0) := by
  subst hvc
  obtain ⟨hP, hD⟩ := hL.1
  have hFc := k_allF (D := D) hD hS hA
  refine va_calli (va_runV (As := As) (rest := rest) F (hM H.size) cw ⟨kp_blind, va_recv hK hP hc he, fun U hU hW => ⟨rfl, by rw [hU], by rw [hU]; exact hP, va_K.moved hW.alike hK, hD.weaken (fun _ _ _ _ => trivial)⟩⟩ rfl hn hsz hst (lv_room hW) hdg hf) hS (fun q _ h => hFc q h) hFc (fun r u t H1 locs1 ht hvm hp hB hz1 hk1 hS1 => ?_)
  obtain ⟨b1, b2, b3⟩ := hB
  rw [ht] at b1
  exact kk r u H1 locs1 hp (hL.x hFc hk1 b1 b3) hS1
theorem kl_mi {wf : S → va_W} {post : Int32 → S → Prop} (F : CallFix p m c cc nL s args Ts own) (hM : KI l y wsy rm D ty (.ref b :: As) wm post wf mc ms) (cw : CallW R s args own C index y bytes maxL ret wsy rm mc ms n) (hL : lS3 D A wx wm wo H)
    (hK : va_K D vwCl ty s) (hS : va_S A s.heap H locs) (hA : ∀ q, s.heap.size ≤ q → A q) {ci q0 : Nat} {fs : List Value} {vc : vw_C} (hc : vwCl[ci]? = some vc) (hvc : vc.1 = C) (he : wm[q0]? = some (b, .inr (ci, fs)))
    (hn : As.length = n) (hsz : ls.size = nL) (hst : st0 = As.reverse ++ .ref b :: rest) (hW : (rest.map fun v => v.category).sum ≤ 8) (hdg : decode cc pc = .ok (.invokevirtual index, 3)) (hf : cells + mc ≤ R.cells ∧ slots + ms ≤ R.slots)
    (kk : ∀ (r : Int32) (u : S) (H1 : Heap) (locs : List Loc), post r u → lS3 D A wx (wf u) wo H1 → va_S A s.heap H1 locs → W p l e R s m args below meth c H1 locs (cells + mc) (slots + ms) Q (F0 m (pc + 3) ls (.int r :: rest))) :
    W p l e R s m args below meth c H locs cells slots Q (F0 m pc ls st0) := by
  subst hvc
  obtain ⟨hP, hD⟩ := hL.2.1
  have hFc := k_allF (D := D) hD hS hA
  refine va_calli (va_runV (As := As) (rest := rest) F (hM H.size) cw ⟨kp_blind, va_recv hK hP hc he, fun U hU hW => ⟨rfl, by rw [hU], by rw [hU]; exact hP, va_K.moved hW.alike hK, hD.weaken (fun _ _ _ _ => trivial)⟩⟩ rfl hn hsz hst (lv_room hW) hdg hf) hS (fun q _ h => hFc q h) hFc (fun r u t H1 locs1 ht hvm hp hB hz1 hk1 hS1 => ?_)
  obtain ⟨b1, b2, b3⟩ := hB
  rw [ht] at b1
  exact kk r u H1 locs1 hp (hL.m hFc hk1 b1 b3) hS1
theorem kl_xv {wf : S → va_W} {post : S → Prop} (F : CallFix p m c cc nL s args Ts own) (hM : KV l y wsy rm D ty (.ref b :: As) wx post wf mc ms) (cw : CallW R s args own C index y bytes maxL ret wsy rm mc ms n) (hL : lS3 D A wx wm wo H)
    (hK : va_K D vwCl ty s) (hS : va_S A s.heap H locs) (hA : ∀ q, s.heap.size ≤ q → A q) {ci q0 : Nat} {fs : List Value} {vc : vw_C} (hc : vwCl[ci]? = some vc) (hvc : vc.1 = C) (he : wx[q0]? = some (b, .inr (ci, fs)))
    (hn : As.length = n) (hsz : ls.size = nL) (hst : st0 = As.reverse ++ .ref b :: rest) (hW : (rest.map fun v => v.category).sum ≤ 8) (hdg : decode cc pc = .ok (.invokevirtual index, 3)) (hf : cells + mc ≤ R.cells ∧ slots + ms ≤ R.slots)
    (kk : ∀ (u : S) (H1 : Heap) (locs : List Loc), post u → lS3 D A (wf u) wm wo H1 → va_S A s.heap H1 locs → W p l e R s m args below meth c H1 locs (cells + mc) (slots + ms) Q (F0 m (pc + 3) ls rest)) :
    W p l e R s m args below meth c H locs cells slots Q (F0 m pc ls st0) := by
  subst hvc
  obtain ⟨hP, hD⟩ := hL.1
  have hFc := k_allF (D := D) hD hS hA
  refine va_callv (va_runV (As := As) (rest := rest) F (hM H.size) cw ⟨kp_blind, va_recv hK hP hc he, fun U hU hW => ⟨rfl, by rw [hU], by rw [hU]; exact hP, va_K.moved hW.alike hK, hD.weaken (fun _ _ _ _ => trivial)⟩⟩ rfl hn hsz hst (lv_room hW) hdg hf) hS (fun q _ h => hFc q h) hFc (fun u t H1 locs1 ht hvm hp hB hz1 hk1 hS1 => ?_)
  obtain ⟨b1, b2, b3⟩ := hB
  rw [ht] at b1
  exact kk u H1 locs1 hp (hL.x hFc hk1 b1 b3) hS1
theorem kl_mv {wf : S → va_W} {post : S → Prop} (F : CallFix p m c cc nL s args Ts own) (hM : KV l y wsy rm D ty (.ref b :: As) wm post wf mc ms) (cw : CallW R s args own C index y bytes maxL ret wsy rm mc ms n) (hL : lS3 D A wx wm wo H)
    (hK : va_K D vwCl ty s) (hS : va_S A s.heap H locs) (hA : ∀ q, s.heap.size ≤ q → A q) {ci q0 : Nat} {fs : List Value} {vc : vw_C} (hc : vwCl[ci]? = some vc) (hvc : vc.1 = C) (he : wm[q0]? = some (b, .inr (ci, fs)))
    (hn : As.length = n) (hsz : ls.size = nL) (hst : st0 = As.reverse ++ .ref b :: rest) (hW : (rest.map fun v => v.category).sum ≤ 8) (hdg : decode cc pc = .ok (.invokevirtual index, 3)) (hf : cells + mc ≤ R.cells ∧ slots + ms ≤ R.slots)
    (kk : ∀ (u : S) (H1 : Heap) (locs : List Loc), post u → lS3 D A wx (wf u) wo H1 → va_S A s.heap H1 locs → W p l e R s m args below meth c H1 locs (cells + mc) (slots + ms) Q (F0 m (pc + 3) ls rest)) :
    W p l e R s m args below meth c H locs cells slots Q (F0 m pc ls st0) := by
  subst hvc
  obtain ⟨hP, hD⟩ := hL.2.1
  have hFc := k_allF (D := D) hD hS hA
  refine va_callv (va_runV (As := As) (rest := rest) F (hM H.size) cw ⟨kp_blind, va_recv hK hP hc he, fun U hU hW => ⟨rfl, by rw [hU], by rw [hU]; exact hP, va_K.moved hW.alike hK, hD.weaken (fun _ _ _ _ => trivial)⟩⟩ rfl hn hsz hst (lv_room hW) hdg hf) hS (fun q _ h => hFc q h) hFc (fun u t H1 locs1 ht hvm hp hB hz1 hk1 hS1 => ?_)
  obtain ⟨b1, b2, b3⟩ := hB
  rw [ht] at b1
  exact kk u H1 locs1 hp (hL.m hFc hk1 b1 b3) hS1
/-- a helper over the class's cells -/
theorem kl_hx {wf : S → va_W} {post : Int32 → S → Prop} (F : CallFix p m c cc nL s args Ts own) (hM : KX l y wsy rm D ty As wx post wf mc ms) (cw : vx_CSW R s args own index y bytes maxL ret hh wsy rm mc ms n) (hL : lS3 D A wx wm wo H)
    (hK : va_K D vwCl ty s) (hS : va_S A s.heap H locs) (hA : ∀ q, s.heap.size ≤ q → A q) (hC : kxC A s s.heap)
    (hn : As.length = n) (hsz : ls.size = nL) (hst : st0 = As.reverse ++ rest) (hW : (rest.map fun v => v.category).sum ≤ 8) (hdg : decode cc pc = .ok (.invokestatic index, 3)) (hf : cells + mc ≤ R.cells ∧ slots + ms ≤ R.slots)
    (kk : ∀ (r : Int32) (u : S) (H1 : Heap) (locs : List Loc), post r u → lS3 D A (wf u) wm wo H1 → va_S A s.heap H1 locs → W p l e R s m args below meth c H1 locs (cells + mc) (slots + ms) Q (F0 m (pc + 3) ls (.int r :: rest))) :
    W p l e R s m args below meth c H locs cells slots Q (F0 m pc ls st0) := by
  obtain ⟨hP, hD⟩ := hL.1
  have hFc := k_allF (D := D) hD hS hA
  refine va_calli (vx_runSW (As := As) (rest := rest) F (hM H.size) cw ⟨kpx_blind, fun U hU hW => ⟨rfl, by rw [hU], by rw [hU]; exact hP, va_K.moved hW.alike hK, hD.weaken (fun _ _ _ _ => trivial), by rw [hU]; exact hC.go hS hW hFc⟩⟩ rfl hn hsz hst (lv_room hW) hdg hf) hS (fun q _ h => hFc q h) hFc (fun r u t H1 locs1 ht hvm hp hB hz1 hk1 hS1 => ?_)
  obtain ⟨b1, b2, b3⟩ := hB
  rw [ht] at b1
  exact kk r u H1 locs1 hp (hL.x hFc hk1 b1 b3) hS1
/-- a helper over the array and the class's cells -/
theorem kl_ho {wf1 wf2 : S → va_W} {post : Int32 → S → Prop} (F : CallFix p m c cc nL s args Ts own) (hM : KX l y wsy rm D ty As (wo ++ wx) post (fun u => wf1 u ++ wf2 u) mc ms) (cw : vx_CSW R s args own index y bytes maxL ret hh wsy rm mc ms n) (hL : lS3 D A wx wm wo H)
    (hK : va_K D vwCl ty s) (hS : va_S A s.heap H locs) (hA : ∀ q, s.heap.size ≤ q → A q) (hC : kxC A s s.heap)
    (hn : As.length = n) (hsz : ls.size = nL) (hst : st0 = As.reverse ++ rest) (hW : (rest.map fun v => v.category).sum ≤ 8) (hdg : decode cc pc = .ok (.invokestatic index, 3)) (hf : cells + mc ≤ R.cells ∧ slots + ms ≤ R.slots)
    (kk : ∀ (r : Int32) (u : S) (H1 : Heap) (locs : List Loc), post r u → lS3 D A (wf2 u) wm (wf1 u) H1 → va_S A s.heap H1 locs → W p l e R s m args below meth c H1 locs (cells + mc) (slots + ms) Q (F0 m (pc + 3) ls (.int r :: rest))) :
    W p l e R s m args below meth c H locs cells slots Q (F0 m pc ls st0) := by
  obtain ⟨hP, hD⟩ := hL.cat
  have hFc := k_allF (D := D) hD hS hA
  refine va_calli (vx_runSW (As := As) (rest := rest) F (hM H.size) cw ⟨kpx_blind, fun U hU hW => ⟨rfl, by rw [hU], by rw [hU]; exact hP, va_K.moved hW.alike hK, hD.weaken (fun _ _ _ _ => trivial), by rw [hU]; exact hC.go hS hW hFc⟩⟩ rfl hn hsz hst (lv_room hW) hdg hf) hS (fun q _ h => hFc q h) hFc (fun r u t H1 locs1 ht hvm hp hB hz1 hk1 hS1 => ?_)
  obtain ⟨b1, b2, b3⟩ := hB
  rw [ht] at b1
  exact kk r u H1 locs1 hp (hL.ox hFc hk1 b1 b3) hS1
end KLW
/-- what stands at the law's beginning, and stays -/
def lC3 (p : Program) (s : State) (m : MethodId) (args : Array Value) (c : Code) (A : Nat → Prop) (D : va_G) (ty : List (ClassId × FieldType)) (b L : Nat) (xs : Nat → Int32) : Prop :=
  CallFix p m c cL_law 7 s args wsL_law RL ∧ (∀ q, s.heap.size ≤ q → A q) ∧ va_K D vwCl ty s ∧ kxC A s s.heap ∧ va_X b L xs s s.heap ∧ b < s.heap.size ∧ ¬ A b
abbrev lwL (b vf mo ou i : Nat) : List (Nat × Value) := [(0, .ref b), (1, .ref vf), (2, .ref mo), (3, .ref ou), (4, .int (nI i))]

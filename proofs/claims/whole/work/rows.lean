section
-- ===== PART A: goes FIRST, ahead of the names: the tables' words, and 'selects' of the private methods out of them =====
/-- a private method of a class that the tables say can be made, by its rows of tables_1 -/
def lw_okq (q : MethodName × Nat) : Prop := (q.1.cls ≠ "java/lang/invoke/MethodHandle" ∧ q.1.cls ≠ "java/lang/invoke/VarHandle") ∧ Cond.instantiable q.1.cls q.2 ∈ tables_1 ∧ Cond.privateMethod q.1 ∈ tables_1 ∧ Cond.instanceMethod q.1 ∈ tables_1
theorem lw_p0 : lw_okq (⟨"VeiledFiles", "beginAnew", "(II)V"⟩, 7) := ⟨⟨by decide +kernel, by decide +kernel⟩, List.mem_of_getElem? (i := 14) (by decide +kernel), List.mem_of_getElem? (i := 110) (by decide +kernel), List.mem_of_getElem? (i := 111) (by decide +kernel)⟩
theorem lw_p1 : lw_okq (⟨"VeiledFiles", "drawAllLeaves", "()V"⟩, 7) := ⟨⟨by decide +kernel, by decide +kernel⟩, List.mem_of_getElem? (i := 14) (by decide +kernel), List.mem_of_getElem? (i := 134) (by decide +kernel), List.mem_of_getElem? (i := 135) (by decide +kernel)⟩
theorem lw_p2 : lw_okq (⟨"VeiledFiles", "setEntry", "(II)V"⟩, 7) := ⟨⟨by decide +kernel, by decide +kernel⟩, List.mem_of_getElem? (i := 14) (by decide +kernel), List.mem_of_getElem? (i := 146) (by decide +kernel), List.mem_of_getElem? (i := 147) (by decide +kernel)⟩
theorem lw_p3 : lw_okq (⟨"VeiledFiles$Tree", "settle", "(I)V"⟩, 11) := ⟨⟨by decide +kernel, by decide +kernel⟩, List.mem_of_getElem? (i := 32) (by decide +kernel), List.mem_of_getElem? (i := 165) (by decide +kernel), List.mem_of_getElem? (i := 166) (by decide +kernel)⟩
theorem lw_p4 : lw_okq (⟨"VeiledFiles$Tree", "bucketOver", "(II)I"⟩, 11) := ⟨⟨by decide +kernel, by decide +kernel⟩, List.mem_of_getElem? (i := 32) (by decide +kernel), List.mem_of_getElem? (i := 169) (by decide +kernel), List.mem_of_getElem? (i := 170) (by decide +kernel)⟩
theorem lw_p5 : lw_okq (⟨"VeiledFiles$Tree", "place", "(III)V"⟩, 11) := ⟨⟨by decide +kernel, by decide +kernel⟩, List.mem_of_getElem? (i := 32) (by decide +kernel), List.mem_of_getElem? (i := 176) (by decide +kernel), List.mem_of_getElem? (i := 177) (by decide +kernel)⟩
theorem lw_p6 : lw_okq (⟨"VeiledFiles$Tree", "seal", "(I)V"⟩, 11) := ⟨⟨by decide +kernel, by decide +kernel⟩, List.mem_of_getElem? (i := 32) (by decide +kernel), List.mem_of_getElem? (i := 181) (by decide +kernel), List.mem_of_getElem? (i := 182) (by decide +kernel)⟩
theorem lw_p7 : lw_okq (⟨"VeiledFiles$Tree", "maskWords", "(I)V"⟩, 11) := ⟨⟨by decide +kernel, by decide +kernel⟩, List.mem_of_getElem? (i := 32) (by decide +kernel), List.mem_of_getElem? (i := 185) (by decide +kernel), List.mem_of_getElem? (i := 186) (by decide +kernel)⟩
theorem lw_p8 : lw_okq (⟨"VeiledFiles$Tree", "pad", "(II)I"⟩, 11) := ⟨⟨by decide +kernel, by decide +kernel⟩, List.mem_of_getElem? (i := 32) (by decide +kernel), List.mem_of_getElem? (i := 189) (by decide +kernel), List.mem_of_getElem? (i := 190) (by decide +kernel)⟩
theorem lw_p9 : lw_okq (⟨"VeiledFiles$Tree", "tagDue", "(I)I"⟩, 11) := ⟨⟨by decide +kernel, by decide +kernel⟩, List.mem_of_getElem? (i := 32) (by decide +kernel), List.mem_of_getElem? (i := 198) (by decide +kernel), List.mem_of_getElem? (i := 199) (by decide +kernel)⟩
theorem lw_p10 : lw_okq (⟨"VeiledFiles$Book", "leastFreeNumber", "()I"⟩, 4) := ⟨⟨by decide +kernel, by decide +kernel⟩, List.mem_of_getElem? (i := 74) (by decide +kernel), List.mem_of_getElem? (i := 237) (by decide +kernel), List.mem_of_getElem? (i := 238) (by decide +kernel)⟩
theorem lw_p11 : lw_okq (⟨"VeiledFiles", "treeNumbered", "(I)LVeiledFiles$Tree;"⟩, 7) := ⟨⟨by decide +kernel, by decide +kernel⟩, List.mem_of_getElem? (i := 14) (by decide +kernel), List.mem_of_getElem? (i := 274) (by decide +kernel), List.mem_of_getElem? (i := 275) (by decide +kernel)⟩
theorem lw_p12 : lw_okq (⟨"VeiledFiles$Tree", "isWhole", "(I)Z"⟩, 11) := ⟨⟨by decide +kernel, by decide +kernel⟩, List.mem_of_getElem? (i := 32) (by decide +kernel), List.mem_of_getElem? (i := 290) (by decide +kernel), List.mem_of_getElem? (i := 291) (by decide +kernel)⟩
theorem lw_p13 : lw_okq (⟨"VeiledFiles$Book", "leastFreeBlock", "()I"⟩, 4) := ⟨⟨by decide +kernel, by decide +kernel⟩, List.mem_of_getElem? (i := 74) (by decide +kernel), List.mem_of_getElem? (i := 352) (by decide +kernel), List.mem_of_getElem? (i := 353) (by decide +kernel)⟩
theorem lw_p14 : lw_okq (⟨"java/lang/Throwable", "fillInStackTrace", "(I)Ljava/lang/Throwable;"⟩, 6) := ⟨⟨by decide +kernel, by decide +kernel⟩, List.mem_of_getElem? (i := 393) (by decide +kernel), List.mem_of_getElem? (i := 391) (by decide +kernel), List.mem_of_getElem? (i := 392) (by decide +kernel)⟩
theorem lw_p15 : lw_okq (⟨"VeiledFiles", "openPathOf", "(I)I"⟩, 7) := ⟨⟨by decide +kernel, by decide +kernel⟩, List.mem_of_getElem? (i := 14) (by decide +kernel), List.mem_of_getElem? (i := 418) (by decide +kernel), List.mem_of_getElem? (i := 419) (by decide +kernel)⟩
def lw_privs_1 : List (MethodName × Nat) := [(⟨"VeiledFiles", "beginAnew", "(II)V"⟩, 7), (⟨"VeiledFiles", "drawAllLeaves", "()V"⟩, 7), (⟨"VeiledFiles", "setEntry", "(II)V"⟩, 7), (⟨"VeiledFiles$Tree", "settle", "(I)V"⟩, 11), (⟨"VeiledFiles$Tree", "bucketOver", "(II)I"⟩, 11), (⟨"VeiledFiles$Tree", "place", "(III)V"⟩, 11), (⟨"VeiledFiles$Tree", "seal", "(I)V"⟩, 11), (⟨"VeiledFiles$Tree", "maskWords", "(I)V"⟩, 11), (⟨"VeiledFiles$Tree", "pad", "(II)I"⟩, 11), (⟨"VeiledFiles$Tree", "tagDue", "(I)I"⟩, 11), (⟨"VeiledFiles$Book", "leastFreeNumber", "()I"⟩, 4), (⟨"VeiledFiles", "treeNumbered", "(I)LVeiledFiles$Tree;"⟩, 7), (⟨"VeiledFiles$Tree", "isWhole", "(I)Z"⟩, 11), (⟨"VeiledFiles$Book", "leastFreeBlock", "()I"⟩, 4), (⟨"java/lang/Throwable", "fillInStackTrace", "(I)Ljava/lang/Throwable;"⟩, 6), (⟨"VeiledFiles", "openPathOf", "(I)I"⟩, 7)]
theorem lw_r1 : ∀ q ∈ lw_privs_1, lw_okq q := List.forall_mem_cons.mpr ⟨lw_p0, List.forall_mem_cons.mpr ⟨lw_p1, List.forall_mem_cons.mpr ⟨lw_p2, List.forall_mem_cons.mpr ⟨lw_p3, List.forall_mem_cons.mpr ⟨lw_p4, List.forall_mem_cons.mpr ⟨lw_p5, List.forall_mem_cons.mpr ⟨lw_p6, List.forall_mem_cons.mpr ⟨lw_p7, List.forall_mem_cons.mpr ⟨lw_p8, List.forall_mem_cons.mpr ⟨lw_p9, List.forall_mem_cons.mpr ⟨lw_p10, List.forall_mem_cons.mpr ⟨lw_p11, List.forall_mem_cons.mpr ⟨lw_p12, List.forall_mem_cons.mpr ⟨lw_p13, List.forall_mem_cons.mpr ⟨lw_p14, List.forall_mem_cons.mpr ⟨lw_p15, fun _ h => absurd h List.not_mem_nil⟩⟩⟩⟩⟩⟩⟩⟩⟩⟩⟩⟩⟩⟩⟩⟩
theorem lw_p16 : lw_okq (⟨"VeiledFiles$Tree", "unload", "(I)V"⟩, 11) := ⟨⟨by decide +kernel, by decide +kernel⟩, List.mem_of_getElem? (i := 32) (by decide +kernel), List.mem_of_getElem? (i := 430) (by decide +kernel), List.mem_of_getElem? (i := 431) (by decide +kernel)⟩
theorem lw_p17 : lw_okq (⟨"VeiledFiles$Tree", "hold", "(I)V"⟩, 11) := ⟨⟨by decide +kernel, by decide +kernel⟩, List.mem_of_getElem? (i := 32) (by decide +kernel), List.mem_of_getElem? (i := 434) (by decide +kernel), List.mem_of_getElem? (i := 435) (by decide +kernel)⟩
theorem lw_p18 : lw_okq (⟨"VeiledFiles", "entryOf", "(I)I"⟩, 7) := ⟨⟨by decide +kernel, by decide +kernel⟩, List.mem_of_getElem? (i := 14) (by decide +kernel), List.mem_of_getElem? (i := 439) (by decide +kernel), List.mem_of_getElem? (i := 440) (by decide +kernel)⟩
theorem lw_p19 : lw_okq (⟨"VeiledFiles$Tree", "load", "(II)V"⟩, 11) := ⟨⟨by decide +kernel, by decide +kernel⟩, List.mem_of_getElem? (i := 32) (by decide +kernel), List.mem_of_getElem? (i := 447) (by decide +kernel), List.mem_of_getElem? (i := 448) (by decide +kernel)⟩
theorem lw_p20 : lw_okq (⟨"VeiledFilesModel", "begin", "(II)V"⟩, 20) := ⟨⟨by decide +kernel, by decide +kernel⟩, List.mem_of_getElem? (i := 508) (by decide +kernel), List.mem_of_getElem? (i := 514) (by decide +kernel), List.mem_of_getElem? (i := 515) (by decide +kernel)⟩
theorem lw_p21 : lw_okq (⟨"VeiledFilesModel", "draw", "(I)I"⟩, 20) := ⟨⟨by decide +kernel, by decide +kernel⟩, List.mem_of_getElem? (i := 508) (by decide +kernel), List.mem_of_getElem? (i := 518) (by decide +kernel), List.mem_of_getElem? (i := 519) (by decide +kernel)⟩
theorem lw_p22 : lw_okq (⟨"VeiledFilesModel", "settle", "(II)V"⟩, 20) := ⟨⟨by decide +kernel, by decide +kernel⟩, List.mem_of_getElem? (i := 508) (by decide +kernel), List.mem_of_getElem? (i := 525) (by decide +kernel), List.mem_of_getElem? (i := 526) (by decide +kernel)⟩
theorem lw_p23 : lw_okq (⟨"VeiledFilesModel", "seal", "(II)V"⟩, 20) := ⟨⟨by decide +kernel, by decide +kernel⟩, List.mem_of_getElem? (i := 508) (by decide +kernel), List.mem_of_getElem? (i := 544) (by decide +kernel), List.mem_of_getElem? (i := 545) (by decide +kernel)⟩
theorem lw_p24 : lw_okq (⟨"VeiledFilesModel", "pad", "(III)I"⟩, 20) := ⟨⟨by decide +kernel, by decide +kernel⟩, List.mem_of_getElem? (i := 508) (by decide +kernel), List.mem_of_getElem? (i := 548) (by decide +kernel), List.mem_of_getElem? (i := 549) (by decide +kernel)⟩
theorem lw_p25 : lw_okq (⟨"VeiledFilesModel", "tag", "(II)I"⟩, 20) := ⟨⟨by decide +kernel, by decide +kernel⟩, List.mem_of_getElem? (i := 508) (by decide +kernel), List.mem_of_getElem? (i := 557) (by decide +kernel), List.mem_of_getElem? (i := 558) (by decide +kernel)⟩
theorem lw_p26 : lw_okq (⟨"VeiledFilesModel", "named", "(J)I"⟩, 20) := ⟨⟨by decide +kernel, by decide +kernel⟩, List.mem_of_getElem? (i := 508) (by decide +kernel), List.mem_of_getElem? (i := 635) (by decide +kernel), List.mem_of_getElem? (i := 636) (by decide +kernel)⟩
theorem lw_p27 : lw_okq (⟨"VeiledFilesModel", "isFile", "(I)Z"⟩, 20) := ⟨⟨by decide +kernel, by decide +kernel⟩, List.mem_of_getElem? (i := 508) (by decide +kernel), List.mem_of_getElem? (i := 647) (by decide +kernel), List.mem_of_getElem? (i := 648) (by decide +kernel)⟩
theorem lw_p28 : lw_okq (⟨"VeiledFilesModel", "access", "(IIZZI)Z"⟩, 20) := ⟨⟨by decide +kernel, by decide +kernel⟩, List.mem_of_getElem? (i := 508) (by decide +kernel), List.mem_of_getElem? (i := 659) (by decide +kernel), List.mem_of_getElem? (i := 660) (by decide +kernel)⟩
theorem lw_p29 : lw_okq (⟨"VeiledFilesModel", "take", "(II)Z"⟩, 20) := ⟨⟨by decide +kernel, by decide +kernel⟩, List.mem_of_getElem? (i := 508) (by decide +kernel), List.mem_of_getElem? (i := 663) (by decide +kernel), List.mem_of_getElem? (i := 664) (by decide +kernel)⟩
theorem lw_p30 : lw_okq (⟨"VeiledFilesModel", "open", "(III)V"⟩, 20) := ⟨⟨by decide +kernel, by decide +kernel⟩, List.mem_of_getElem? (i := 508) (by decide +kernel), List.mem_of_getElem? (i := 667) (by decide +kernel), List.mem_of_getElem? (i := 668) (by decide +kernel)⟩
theorem lw_p31 : lw_okq (⟨"VeiledFilesModel", "plainWord", "(III)I"⟩, 20) := ⟨⟨by decide +kernel, by decide +kernel⟩, List.mem_of_getElem? (i := 508) (by decide +kernel), List.mem_of_getElem? (i := 671) (by decide +kernel), List.mem_of_getElem? (i := 672) (by decide +kernel)⟩
def lw_privs_2 : List (MethodName × Nat) := [(⟨"VeiledFiles$Tree", "unload", "(I)V"⟩, 11), (⟨"VeiledFiles$Tree", "hold", "(I)V"⟩, 11), (⟨"VeiledFiles", "entryOf", "(I)I"⟩, 7), (⟨"VeiledFiles$Tree", "load", "(II)V"⟩, 11), (⟨"VeiledFilesModel", "begin", "(II)V"⟩, 20), (⟨"VeiledFilesModel", "draw", "(I)I"⟩, 20), (⟨"VeiledFilesModel", "settle", "(II)V"⟩, 20), (⟨"VeiledFilesModel", "seal", "(II)V"⟩, 20), (⟨"VeiledFilesModel", "pad", "(III)I"⟩, 20), (⟨"VeiledFilesModel", "tag", "(II)I"⟩, 20), (⟨"VeiledFilesModel", "named", "(J)I"⟩, 20), (⟨"VeiledFilesModel", "isFile", "(I)Z"⟩, 20), (⟨"VeiledFilesModel", "access", "(IIZZI)Z"⟩, 20), (⟨"VeiledFilesModel", "take", "(II)Z"⟩, 20), (⟨"VeiledFilesModel", "open", "(III)V"⟩, 20), (⟨"VeiledFilesModel", "plainWord", "(III)I"⟩, 20)]
theorem lw_r2 : ∀ q ∈ lw_privs_2, lw_okq q := List.forall_mem_cons.mpr ⟨lw_p16, List.forall_mem_cons.mpr ⟨lw_p17, List.forall_mem_cons.mpr ⟨lw_p18, List.forall_mem_cons.mpr ⟨lw_p19, List.forall_mem_cons.mpr ⟨lw_p20, List.forall_mem_cons.mpr ⟨lw_p21, List.forall_mem_cons.mpr ⟨lw_p22, List.forall_mem_cons.mpr ⟨lw_p23, List.forall_mem_cons.mpr ⟨lw_p24, List.forall_mem_cons.mpr ⟨lw_p25, List.forall_mem_cons.mpr ⟨lw_p26, List.forall_mem_cons.mpr ⟨lw_p27, List.forall_mem_cons.mpr ⟨lw_p28, List.forall_mem_cons.mpr ⟨lw_p29, List.forall_mem_cons.mpr ⟨lw_p30, List.forall_mem_cons.mpr ⟨lw_p31, fun _ h => absurd h List.not_mem_nil⟩⟩⟩⟩⟩⟩⟩⟩⟩⟩⟩⟩⟩⟩⟩⟩
theorem lw_p32 : lw_okq (⟨"VeiledFilesModel", "putBack", "(II)V"⟩, 20) := ⟨⟨by decide +kernel, by decide +kernel⟩, List.mem_of_getElem? (i := 508) (by decide +kernel), List.mem_of_getElem? (i := 675) (by decide +kernel), List.mem_of_getElem? (i := 676) (by decide +kernel)⟩
theorem lw_p33 : lw_okq (⟨"VeiledFilesModel", "clear", "()V"⟩, 20) := ⟨⟨by decide +kernel, by decide +kernel⟩, List.mem_of_getElem? (i := 508) (by decide +kernel), List.mem_of_getElem? (i := 679) (by decide +kernel), List.mem_of_getElem? (i := 680) (by decide +kernel)⟩
theorem lw_p34 : lw_okq (⟨"VeiledFilesModel", "put", "(III)V"⟩, 20) := ⟨⟨by decide +kernel, by decide +kernel⟩, List.mem_of_getElem? (i := 508) (by decide +kernel), List.mem_of_getElem? (i := 686) (by decide +kernel), List.mem_of_getElem? (i := 687) (by decide +kernel)⟩
theorem lw_p35 : lw_okq (⟨"VeiledFilesModel", "raise", "(I)I"⟩, 20) := ⟨⟨by decide +kernel, by decide +kernel⟩, List.mem_of_getElem? (i := 508) (by decide +kernel), List.mem_of_getElem? (i := 694) (by decide +kernel), List.mem_of_getElem? (i := 695) (by decide +kernel)⟩
def lw_privs_3 : List (MethodName × Nat) := [(⟨"VeiledFilesModel", "putBack", "(II)V"⟩, 20), (⟨"VeiledFilesModel", "clear", "()V"⟩, 20), (⟨"VeiledFilesModel", "put", "(III)V"⟩, 20), (⟨"VeiledFilesModel", "raise", "(I)I"⟩, 20)]
theorem lw_r3 : ∀ q ∈ lw_privs_3, lw_okq q := List.forall_mem_cons.mpr ⟨lw_p32, List.forall_mem_cons.mpr ⟨lw_p33, List.forall_mem_cons.mpr ⟨lw_p34, List.forall_mem_cons.mpr ⟨lw_p35, fun _ h => absurd h List.not_mem_nil⟩⟩⟩⟩
def lw_privs : List (MethodName × Nat) := lw_privs_1 ++ (lw_privs_2 ++ (lw_privs_3))
def lw_tbl : List Cond := k2_sels lw_privs ++ tables_1
theorem lw_privs_ok : ∀ q ∈ lw_privs, lw_okq q := by
  show ∀ q ∈ lw_privs_1 ++ (lw_privs_2 ++ (lw_privs_3)), lw_okq q
  exact List.forall_mem_append.mpr ⟨lw_r1, List.forall_mem_append.mpr ⟨lw_r2, lw_r3⟩⟩
-- ===== end of PART A; then your names; then what follows =====
end
section
/-! ===== BEGIN words of one list among another's, by their places ===== -/
theorem goodIn_r {big : List Cond} (ws : List Cond) (ps : List Nat) (hp : ws = ps.filterMap (fun i => big[i]?)) (h : ws.all goodWord = true) : GoodIn big ws := by
  intro w hw
  have h1 := List.all_eq_true.mp h w hw
  rw [hp] at hw
  obtain ⟨i, -, hi⟩ := List.mem_filterMap.mp hw
  have hm : w ∈ big := by first | exact List.mem_of_getElem? hi | exact List.getElem?_mem hi
  exact ⟨hm, good_of_word h1⟩
theorem goodIn_app {big a b : List Cond} (ha : GoodIn big a) (hb : GoodIn big b) : GoodIn big (a ++ b) := fun w h => (List.mem_append.mp h).elim (ha w) (hb w)
theorem goodIn_ca {big a b : List Cond} {c : Cond} (ha : GoodIn big (c :: a)) (hb : GoodIn big b) : GoodIn big (c :: (a ++ b)) := fun w h => (List.mem_cons.mp h).elim (fun e => ha w (List.mem_cons.mpr (Or.inl e))) (fun h => (List.mem_append.mp h).elim (fun h => ha w (List.mem_cons.mpr (Or.inr h))) (hb w))
theorem goodIn_sub {big ws : List Cond} (hm : ∀ w ∈ ws, w ∈ big) (h : ws.all goodWord = true) : GoodIn big ws := fun w hw => ⟨hm w hw, good_of_word (List.all_eq_true.mp h w hw)⟩
/-! ===== END ===== -/

/-! ===== BEGIN exceptions that leave a method, and their catching by the caller (launches without stack traces) ===== -/
section VXA
/-! The laws vx_back, vx_callV, vx_callS, vx_callSW, vx_throw0, vx_throwS follow proofs of the library, with one case more: JvmDerived/Free/Laws.lean (Back.of_free), Shelf42/LK1.lean (callV, callS), Shelf/KitTraced.lean (throwNew0V, throwNewS). -/
/-- where a method has thrown q: the class by its name, the cell, what was written, the world -/
def vx_T (XC : String → State → State → Prop) (st : State) (q : Addr) (t : State) (mc ms : Nat) (free : Addr → Prop) : Prop :=
  ∃ (E : String) (ce : Cell) (L : List Loc), XC E st t ∧ t.heap[q]? = some ce ∧ ce.vm = .none ∧ st.vm.findClass E = some ce.cls ∧ st.WarmedH t.vm ∧ st.sameButNew ({ t with vm := st.vm } : State) L mc ms ∧ ∀ z ∈ L, free z.base
def vx_Q (Qc : Array Value → State → Outcome → State → Prop) (XC : String → State → State → Prop) (mc ms : Nat) (free : Addr → Prop) : Array Value → State → Outcome → State → Prop := fun a st o t =>
  (Qc a st o t ∧ ∃ L, FrameEnd st o t L mc ms ∧ ∀ q ∈ L, free q.base) ∨ ∃ q, o = .threw q ∧ vx_T XC st q t mc ms free
/-- a callee that returns or throws -/
def vx_Met (l : Launch) (y : MethodName) (ws : List Cond) (rm : Room) (Pc : Array Value → State → Prop) (Qc : Array Value → State → Outcome → State → Prop) (XC : String → State → State → Prop) (mc ms : Nat) (free : Addr → Prop) : Prop :=
  MetFree l y (headSpec ws rm) Pc (fun _ _ _ _ _ => True) (vx_Q Qc XC mc ms free)
def vx_Post (XC : String → State → State → Prop) (mc ms : Nat) (free : Addr → Prop) : Pt → Array Value → Addr → Pt → Prop := fun A a q B =>
  ∃ (g : JFrame) (mk : MethodId) (t : State) (L : List Loc) (E : String) (ce : Cell), B.U.heap = t.heap ∧ B.U.vm = t.vm ∧ XC E (A.U.calling g mk a) t ∧ t.heap[q]? = some ce ∧ ce.vm = .none ∧ A.U.vm.findClass E = some ce.cls ∧ B.locs = A.locs ++ L ∧ (∀ z ∈ L, free z.base) ∧ B.cells = A.cells + mc ∧ B.slots = A.slots + ms
def vx_Back (l : Launch) (R : Room) (p : Program) (e : Env) (below : List Frame) (s : State) (sargs : Array Value) (y : MethodName) (len W9 : Nat)
    (Pre : Pt → Array Value → Prop) (Post : Pt → Array Value → Option Value → Pt → Prop) (PostX : Pt → Array Value → Addr → Pt → Prop) : Prop :=
  ∀ (m : MethodId) (meth : Method) (c : Code) (A : Pt) (g : JFrame) (ig : Instr) (mk : MethodId) (a : Array Value),
    Stand p l e R s m sargs below meth c A.U A.locs A.cells A.slots → g.method = m → g.locals.size = c.maxLocals → decode c.code g.pc = .ok (ig, len) →
    2 * g.monitorRoom + (g.stack.map fun v => v.category).sum ≤ W9 → A.U.methodNamed? y = some mk → Pre A a →
    (∃ (v : Option Value) (B : Pt), Stand p l e R s m sargs below meth c B.U B.locs B.cells B.slots ∧ Post A a v B ∧
      Steps p.tables e below (doInvoke e (A.U.setTop g) [] mk a).1 (B.U.setTop { g with pc := g.pc + len, stack := v.toList ++ g.stack })) ∨
    (∃ (q : Addr) (B : Pt), Stand p l e R s m sargs below meth c B.U B.locs B.cells B.slots ∧ PostX A a q B ∧
      Steps p.tables e below (doInvoke e (A.U.setTop g) [] mk a).1 ((B.U.setTop g).pushFrame (.throwing q)))
section Payer
variable {l : Launch} {R : Room} {p : Program} {e : Env} {below : List Frame} {s : State} {sargs : Array Value} {y : MethodName} {len W9 : Nat}
theorem vx_back {ws : List Cond} {rm : Room} {Pc : Array Value → State → Prop} {Qc : Array Value → State → Outcome → State → Prop} {XC : String → State → State → Prop} {mc ms : Nat} {free : Addr → Prop} {bytes : ByteArray} {maxL : Nat} {ret : Option FieldType}
    (hM : vx_Met l y ws rm Pc Qc XC mc ms free) (hblind : FrameBlind Pc) (hrc : rm.cells = mc) (hrs : rm.slots = ms)
    (hframes : rm.frames + 1 ≤ R.frames) (hlocals : W9 + (maxL + 11) + rm.locals ≤ R.locals)
    (hws : ∀ w ∈ ws, ∀ a' U, s.WarmedH U.vm → w.before a' U = true) (hcode : Cond.code y bytes maxL ret ∈ ws) (hinit : ∀ a' U, s.WarmedH U.vm → (Cond.initialized y.cls).before a' U = true) :
    vx_Back l R p e below s sargs y len W9 (PreOf R mc ms Pc) (PostOf Qc mc ms free) (vx_Post XC mc ms free) := by
  intro m meth c A g ig mk a X hg hsize hdg hW hn hp
  have h1 : (headSpec ws rm).pre.before a A.U = true := atoms_intro fun w hw => hws w hw _ _ X.warmed
  have h2 : (Cond.code y bytes maxL ret).before a A.U = true := hws _ hcode _ _ X.warmed
  have h3 : (Cond.initialized y.cls).before a A.U = true := hinit _ _ X.warmed
  have h4 : A.cells + (headSpec ws rm).room.cells ≤ R.cells := by rw [show (headSpec ws rm).room.cells = mc from hrc]; exact hp.1
  have h5 : A.slots + (headSpec ws rm).room.slots ≤ R.slots := by rw [show (headSpec ws rm).room.slots = ms from hrs]; exact hp.2.1
  have hPc : Pc a (A.U.calling g mk a) := hblind _ _ _ _ hp.2.2
  obtain ⟨U, Ls, c0, s0⟩ := A
  dsimp only [Pt.U, Pt.locs, Pt.cells, Pt.slots] at h1 h2 h3 h4 h5 X hn hPc ⊢
  obtain ⟨methY, cY, hmY, hcY, -, hlY, -, -, -, -⟩ := Cond.code_spec hn h2
  obtain ⟨kY, hkY, -⟩ := className_of_methodNamed hn
  have hinitY : kY.init = .initialized := Cond.initialized_spec (findClass_of_methodNamed hn) hkY h3
  have h : At U g.method c below := by rw [hg]; exact X.here
  have hlocals9 : W9 + (maxL + 11) + (headSpec ws rm).room.locals ≤ R.locals := hlocals
  have happ : (headSpec ws rm).appliesLoose y e.platform (U.calling g mk a) = true :=
    Spec.appliesLoose_calling (g := g) h hdg hn hkY hinitY
      (X.room_calling (g := g) (R' := (headSpec ws rm).room) hsize hmY hcY hframes (by rw [hlY]; omega) h4 h5) h1
  obtain ⟨mid, hmid⟩ := h.above
  have hfr : (U.setTop g).frames = (.java g :: mid) ++ below := by rw [State.frames_setTop' g h.top, hmid]; rfl
  obtain ⟨o, s₂, hsteps, -, hend, hq⟩ := Steps.callFree hM p X.admits X.cas X.clock (acts := []) hfr happ hPc trivial
  have hq' : vx_Q Qc XC mc ms free a (U.calling g mk a) o s₂ := hq
  rw [State.frames_setTop' g h.top] at hend
  obtain ⟨g₀, hg0⟩ := Option.isSome_iff_exists.mp h.top
  obtain ⟨r, hr⟩ := State.topJava?_eq_some.mp hg0
  have hr' : (({ U with heap := s₂.heap, slotsUsed := s₂.slotsUsed } : State).setVm s₂.vm).frames = .java g₀ :: r := hr
  rcases hq' with ⟨hqc, L, hfe, hL⟩ | ⟨q, rfl, E, ce, L, hx, hce, hcv, hcl, hW₂, hsm, hL⟩
  · obtain ⟨⟨v, rfl⟩, hW₂, e2, q2, q3, q4, q5, q6⟩ := id hfe
    have e3 : s₂ = ({ (U.calling g mk a).setFrames s₂.frames with heap := s₂.heap, slotsUsed := s₂.slotsUsed } : State).setVm s₂.vm := by
      have : s₂ = ({ s₂ with vm := (U.calling g mk a).vm } : State).setVm s₂.vm := rfl
      rw [e2] at this
      exact this
    obtain ⟨c₂, i₂, len₂, hc₂, hd₂, hf₂⟩ := hend
    have hW' : U.WarmedH s₂.vm := hW₂
    have hcc : c₂ = c := by
      have h1 : s₂.code? g.method = U.code? g.method := by
        rw [State.code?_eq, State.code?_eq, hW'.alike.method?]
      exact Option.some.inj (hc₂.symm.trans (h1.trans h.code))
    subst hcc
    have hlen : len₂ = len := by rw [hdg] at hd₂; cases hd₂; rfl
    subst hlen
    have hs₂ : s₂ = (({ U with heap := s₂.heap, slotsUsed := s₂.slotsUsed } : State).setVm s₂.vm).setTop { g with pc := g.pc + len₂, stack := v.toList ++ g.stack } := by
      refine e3.trans ?_
      rw [hf₂, State.calling_eq h.top, State.setFrames_setFrames, State.setTop_of_frames _ hr', hr]
      rfl
    have hsame : U.sameButNew ({ U with heap := s₂.heap, slotsUsed := s₂.slotsUsed } : State) L mc ms := by
      refine ⟨?_, q2, q3, q4, q5, q6⟩
      obtain ⟨t, ht, -⟩ := State.frames_cons hr
      show ({ U with heap := s₂.heap, slotsUsed := s₂.slotsUsed } : State) = { U.setFrames U.frames with heap := s₂.heap, slotsUsed := s₂.slotsUsed }
      rw [State.setFrames_self ht]
    subst hg
    refine Or.inl ⟨v, ⟨(({ U with heap := s₂.heap, slotsUsed := s₂.slotsUsed } : State).setVm s₂.vm), Ls ++ L, c0 + mc, s0 + ms⟩,
      ⟨X.admits, X.cas, X.clock, X.frames, X.room, X.hears, X.method, X.code, (X.here.setHeapUsed s₂.heap s₂.slotsUsed).setVm hW'.alike, X.tail, State.WarmedH.trans X.warmed hW', X.limits, X.bytes, X.same.trans (hsame.setVm s.vm)⟩,
      ⟨g, mk, s₂, L, rfl, rfl, hqc, rfl, hL, rfl, rfl⟩, ?_⟩
    show Steps p.tables e below _ ((({ U with heap := s₂.heap, slotsUsed := s₂.slotsUsed } : State).setVm s₂.vm).setTop { g with pc := g.pc + len₂, stack := v.toList ++ g.stack })
    rw [← hs₂]
    exact hsteps
  · obtain ⟨e2, q2, q3, q4, q5, q6⟩ := id hsm
    have e3 : s₂ = ({ (U.calling g mk a).setFrames s₂.frames with heap := s₂.heap, slotsUsed := s₂.slotsUsed } : State).setVm s₂.vm := by
      have : s₂ = ({ s₂ with vm := (U.calling g mk a).vm } : State).setVm s₂.vm := rfl
      rw [e2] at this
      exact this
    have hf₂ : s₂.frames = .throwing q :: .java g :: U.frames.tail := hend
    have hW' : U.WarmedH s₂.vm := hW₂
    have hs₂ : s₂ = ((({ U with heap := s₂.heap, slotsUsed := s₂.slotsUsed } : State).setVm s₂.vm).setTop g).pushFrame (.throwing q) := by
      refine e3.trans ?_
      rw [hf₂, State.calling_eq h.top, State.setFrames_setFrames, State.pushFrame, State.frames_setTop _ hr', State.setTop_of_frames _ hr', State.setFrames_setFrames, hr]
      rfl
    have hsame : U.sameButNew ({ U with heap := s₂.heap, slotsUsed := s₂.slotsUsed } : State) L mc ms := by
      refine ⟨?_, q2, q3, q4, q5, q6⟩
      obtain ⟨t, ht, -⟩ := State.frames_cons hr
      show ({ U with heap := s₂.heap, slotsUsed := s₂.slotsUsed } : State) = { U.setFrames U.frames with heap := s₂.heap, slotsUsed := s₂.slotsUsed }
      rw [State.setFrames_self ht]
    subst hg
    refine Or.inr ⟨q, ⟨(({ U with heap := s₂.heap, slotsUsed := s₂.slotsUsed } : State).setVm s₂.vm), Ls ++ L, c0 + mc, s0 + ms⟩,
      ⟨X.admits, X.cas, X.clock, X.frames, X.room, X.hears, X.method, X.code, (X.here.setHeapUsed s₂.heap s₂.slotsUsed).setVm hW'.alike, X.tail, State.WarmedH.trans X.warmed hW', X.limits, X.bytes, X.same.trans (hsame.setVm s.vm)⟩,
      ⟨g, mk, s₂, L, E, ce, rfl, rfl, hx, hce, hcv, hcl, rfl, hL, rfl, rfl⟩, ?_⟩
    show Steps p.tables e below _ (((({ U with heap := s₂.heap, slotsUsed := s₂.slotsUsed } : State).setVm s₂.vm).setTop g).pushFrame (.throwing q))
    rw [← hs₂]
    exact hsteps
end Payer
section Calls
variable {p : Program} {l : Launch} {e : Env} {R : Room} {s : State} {m : MethodId} {args : Array Value} {below : List Frame} {meth : Method} {c : Code} {T : State} {locs : List Loc} {cells slots : Nat}
theorem vx_callV (X : Stand p l e R s m args below meth c T locs cells slots) (hexec : p.tables.exec = Jvm.exec) {own C : String} {index : Nat} {y : MethodName} {bytes : ByteArray} {maxL : Nat} {ret : Option FieldType}
    (hown : s.vm.findClass own = some m.cls) (hlink : (Cond.methodLink own index y).before args s = true) (hinst : (Cond.instanceMethod y).before args s = true) (hsel : (Cond.selects C y y).before args s = true)
    (hcode : (Cond.code y bytes maxL ret).before args s = true) (hy : y.cls ≠ "java/lang/invoke/MethodHandle" ∧ y.cls ≠ "java/lang/invoke/VarHandle")
    {W9 : Nat} {Pre : Pt → Array Value → Prop} {Post : Pt → Array Value → Option Value → Pt → Prop} {PostX : Pt → Array Value → Addr → Pt → Prop} (hK : vx_Back l R p e below s args y 3 W9 Pre Post PostX)
    {b : Addr} {cellB : Cell} (hcell : T.heap[b]? = some cellB) (hobj : cellB.vm.isStatics = false) (hcls : s.vm.findClass C = some cellB.cls)
    {g : JFrame} (hg : g.method = m) (hsize : g.locals.size = c.maxLocals) {argsL rest : List Value} (hlen : ∀ sig, parseMethodDescriptor y.desc = some sig → argsL.length = sig.parameters.length)
    (hstack : g.stack = argsL.reverse ++ .ref b :: rest) (hW : 2 * g.monitorRoom + (rest.map fun v => v.category).sum ≤ W9) (hdg : decode c.code g.pc = .ok (.invokevirtual index, 3))
    (hpre : ∀ vm₁, s.WarmedH vm₁ → Pre ⟨T.setVm vm₁, locs, cells, slots⟩ (Value.ref b :: argsL).toArray) :
    (∃ (v : Option Value) (vm₁ : Vm) (B : Pt), s.WarmedH vm₁ ∧ Stand p l e R s m args below meth c B.U B.locs B.cells B.slots ∧ Post ⟨T.setVm vm₁, locs, cells, slots⟩ (Value.ref b :: argsL).toArray v B ∧
      ∀ target, Steps p.tables e below (B.U.setTop { g with pc := g.pc + 3, stack := v.toList ++ rest }) target → Steps p.tables e below (T.setTop g) target) ∨
    (∃ (q : Addr) (vm₁ : Vm) (B : Pt), s.WarmedH vm₁ ∧ Stand p l e R s m args below meth c B.U B.locs B.cells B.slots ∧ PostX ⟨T.setVm vm₁, locs, cells, slots⟩ (Value.ref b :: argsL).toArray q B ∧
      Steps p.tables e below (T.setTop g) ((B.U.setTop { g with stack := rest }).pushFrame (.throwing q))) := by
  obtain ⟨mk, methM, hnamed, hmethM, hstM, habM⟩ := Cond.instanceMethod_spec hinst
  obtain ⟨methM', cM, hmethM', -, -, -, -, -, -, hsigM⟩ := Cond.code_spec hnamed hcode
  cases hmethM.symm.trans hmethM'
  obtain ⟨c2, r2, m2, q1, q2, q3, q4, kP, hkP, hkPi⟩ := Cond.selects_spec hsel
  cases hcls.symm.trans q1
  cases (State.methodFound?_of_named hnamed hy).symm.trans q2
  cases hnamed.symm.trans q3
  have hselP : selectMethod e.platform s.vm cellB.cls mk = .method mk := by rw [Launch.admits_selectMethod X.admits]; exact q4
  obtain ⟨vm₁, X₁, hstep₁⟩ := X.invokevirtual hexec hown hlink hnamed hmethM hstM hkP hkPi hy (a := b) (cell := cellB) hcell
    (fun z h => by rw [h] at hobj; cases hobj) hselP hmethM habM hkP hkPi (g := g) hg (argsL := argsL) (rest := rest) (hlen _ hsigM) hstack hdg
  rcases hK m meth c ⟨T.setVm vm₁, locs, cells, slots⟩ { g with stack := rest } (.invokevirtual index) mk (Value.ref b :: argsL).toArray X₁ hg hsize hdg hW (X₁.named hnamed) (hpre vm₁ X₁.warmed) with ⟨v, B, X', hpost, hsteps⟩ | ⟨q, B, X', hpost, hsteps⟩
  · exact Or.inl ⟨v, vm₁, B, X₁.warmed, X', hpost, fun target h => hstep₁ _ fun acts => by rw [doInvoke_state]; exact hsteps.trans h⟩
  · exact Or.inr ⟨q, vm₁, B, X₁.warmed, X', hpost, hstep₁ _ fun acts => by rw [doInvoke_state]; exact hsteps⟩
theorem vx_callS (X : Stand p l e R s m args below meth c T locs cells slots) (hexec : p.tables.exec = Jvm.exec) {own : String} {index : Nat} {y : MethodName} {bytes : ByteArray} {maxL : Nat} {ret : Option FieldType}
    (hown : s.vm.findClass own = some m.cls) (hlink : (Cond.methodLink own index y).before args s = true) (hstat : (Cond.static y).before args s = true) (hinit : (Cond.initialized y.cls).before args s = true)
    (hcode : (Cond.code y bytes maxL ret).before args s = true) (hy : y.cls ≠ "java/lang/invoke/MethodHandle" ∧ y.cls ≠ "java/lang/invoke/VarHandle")
    {W9 : Nat} {Pre : Pt → Array Value → Prop} {Post : Pt → Array Value → Option Value → Pt → Prop} {PostX : Pt → Array Value → Addr → Pt → Prop} (hK : vx_Back l R p e below s args y 3 W9 Pre Post PostX)
    {g : JFrame} (hg : g.method = m) (hsize : g.locals.size = c.maxLocals) {argsL rest : List Value} (hlen : ∀ sig, parseMethodDescriptor y.desc = some sig → argsL.length = sig.parameters.length)
    (hstack : g.stack = argsL.reverse ++ rest) (hW : 2 * g.monitorRoom + (rest.map fun v => v.category).sum ≤ W9) (hdg : decode c.code g.pc = .ok (.invokestatic index, 3))
    (hpre : ∀ vm₁, s.WarmedH vm₁ → Pre ⟨T.setVm vm₁, locs, cells, slots⟩ argsL.toArray) :
    (∃ (v : Option Value) (vm₁ : Vm) (B : Pt), s.WarmedH vm₁ ∧ Stand p l e R s m args below meth c B.U B.locs B.cells B.slots ∧ Post ⟨T.setVm vm₁, locs, cells, slots⟩ argsL.toArray v B ∧
      ∀ target, Steps p.tables e below (B.U.setTop { g with pc := g.pc + 3, stack := v.toList ++ rest }) target → Steps p.tables e below (T.setTop g) target) ∨
    (∃ (q : Addr) (vm₁ : Vm) (B : Pt), s.WarmedH vm₁ ∧ Stand p l e R s m args below meth c B.U B.locs B.cells B.slots ∧ PostX ⟨T.setVm vm₁, locs, cells, slots⟩ argsL.toArray q B ∧
      Steps p.tables e below (T.setTop g) ((B.U.setTop { g with stack := rest }).pushFrame (.throwing q))) := by
  obtain ⟨mk, hnamed⟩ := Cond.code_named hcode
  obtain ⟨methM, cM, hmethM, -, -, -, -, -, -, hsigM⟩ := Cond.code_spec hnamed hcode
  have hstatic : methM.isStatic = true := Cond.static_spec hnamed hmethM hstat
  obtain ⟨kP, hkP, -⟩ := className_of_methodNamed hnamed
  have hinitP : kP.init = .initialized := Cond.initialized_spec (findClass_of_methodNamed hnamed) hkP hinit
  obtain ⟨vm₁, X₁, hstep₁⟩ := X.invokestatic hexec hown hlink hnamed hmethM hstatic hkP hinitP hy (g := g) hg (argsL := argsL) (rest := rest) (hlen _ hsigM) hstack hdg
  rcases hK m meth c ⟨T.setVm vm₁, locs, cells, slots⟩ { g with stack := rest } (.invokestatic index) mk argsL.toArray X₁ hg hsize hdg hW (X₁.named hnamed) (hpre vm₁ X₁.warmed) with ⟨v, B, X', hpost, hsteps⟩ | ⟨q, B, X', hpost, hsteps⟩
  · exact Or.inl ⟨v, vm₁, B, X₁.warmed, X', hpost, fun target h => hstep₁ _ fun acts => by rw [doInvoke_state]; exact hsteps.trans h⟩
  · exact Or.inr ⟨q, vm₁, B, X₁.warmed, X', hpost, hstep₁ _ fun acts => by rw [doInvoke_state]; exact hsteps⟩
end Calls
theorem vx_cls {s : State} {T : State} {vm₁ : Vm} {E : String} {k : ClassId} (hW : s.WarmedH vm₁) (h : (T.setVm vm₁).vm.findClass E = some k) : s.vm.findClass E = some k := by
  have h1 : vm₁.findClass E = some k := h
  rw [hW.alike.findClass] at h1
  exact h1
/-- the method's frame g, with q thrown over it -/
def vx_W (p : Program) (l : Launch) (e : Env) (R : Room) (s : State) (m : MethodId) (args : Array Value) (below : List Frame) (meth : Method) (c : Code) (H : Heap) (locs : List Loc) (cells slots : Nat) (Q : State → Prop) (g : JFrame) (q : Addr) : Prop :=
  ∀ T : State, T.heap = H → Stand p l e R s m args below meth c T locs cells slots → ∃ t, Steps p.tables e below ((T.setTop g).pushFrame (.throwing q)) t ∧ Q t
def vx_Run (p : Program) (l : Launch) (e : Env) (R : Room) (s : State) (m : MethodId) (args : Array Value) (below : List Frame) (meth : Method) (c : Code) (H : Heap) (locs : List Loc) (cells slots mc ms : Nat) (g : JFrame) (rest : List Value) (Qa : State → Outcome → State → Prop) (XC : String → State → State → Prop) (free : Addr → Prop) : Prop :=
  ∀ T : State, T.heap = H → Stand p l e R s m args below meth c T locs cells slots →
    (∃ (v : Option Value) (st₀ t T' : State) (L : List Loc), st₀.heap = H ∧ Stand p l e R s m args below meth c T' (locs ++ L) (cells + mc) (slots + ms) ∧ (∀ q ∈ L, free q.base) ∧ T'.heap = t.heap ∧ T'.vm = t.vm ∧ Qa st₀ (.returned v) t ∧
      Goes p e below T g T' { g with pc := g.pc + 3, stack := v.toList ++ rest }) ∨
    (∃ (q : Addr) (st₀ t T' : State) (L : List Loc) (E : String) (ce : Cell), st₀.heap = H ∧ Stand p l e R s m args below meth c T' (locs ++ L) (cells + mc) (slots + ms) ∧ (∀ z ∈ L, free z.base) ∧ T'.heap = t.heap ∧ T'.vm = t.vm ∧ XC E st₀ t ∧ t.heap[q]? = some ce ∧ ce.vm = .none ∧ s.vm.findClass E = some ce.cls ∧
      Steps p.tables e below (T.setTop g) ((T'.setTop { g with stack := rest }).pushFrame (.throwing q)))
def vx_X {S : Type} (px : S → Prop) (B : String → S → State → Prop) (A : Nat → Prop) : String → State → State → Prop := fun E st t => ∃ u : S, px u ∧ B E u t ∧ va_F A st t
section Runs
variable {p : Program} {l : Launch} {e : Env} {R : Room} {s : State} {m : MethodId} {args : Array Value} {below : List Frame} {meth : Method} {c : Code} {H : Heap} {locs : List Loc} {cells slots : Nat}
variable {y : MethodName} {bytes cc : ByteArray} {maxL nL mc ms n index : Nat} {ret : Option FieldType} {ws : List Cond} {rm : Room} {Pc : Array Value → State → Prop} {Qc : Array Value → State → Outcome → State → Prop} {XC : String → State → State → Prop} {free : Addr → Prop} {Ts : List Cond} {own C : String} {b : Addr} {As rest : List Value} {g : JFrame}
theorem vx_callBack (cb : CallB R s args own index y bytes maxL ret ws rm mc ms n) (hM : vx_Met l y ws rm Pc Qc XC mc ms free) (hbl : FrameBlind Pc) : vx_Back l R p e below s args y 3 8 (PreOf R mc ms Pc) (PostOf Qc mc ms free) (vx_Post XC mc ms free) := by
  obtain ⟨hrc, hrs, hfr, hlo, hws, hcw, -, hini, -⟩ := cb
  exact vx_back (bytes := bytes) (maxL := maxL) (ret := ret) hM hbl hrc hrs hfr hlo hws hcw (fun a' U hW => word_at hW (Or.inl (by first | rfl | simp [Cond.onTables, Cond.keeps, Cond.steady])) hini)
theorem vx_runV (S : CallFix p m c cc nL s args Ts own) (hM : vx_Met l y ws rm Pc Qc XC mc ms free) (cw : CallW R s args own C index y bytes maxL ret ws rm mc ms n) (hp : PreV s H C b Pc As)
    (hg : g.method = m) (hn : As.length = n) (hsize : g.locals.size = nL) (hstack : g.stack = As.reverse ++ .ref b :: rest) (hW : 2 * g.monitorRoom + (rest.map fun v => v.category).sum ≤ 8) (hdg : decode cc g.pc = .ok (.invokevirtual index, 3)) (hf : cells + mc ≤ R.cells ∧ slots + ms ≤ R.slots) :
    vx_Run p l e R s m args below meth c H locs cells slots mc ms g rest (Qc (Value.ref b :: As).toArray) XC free := by
  have hK : vx_Back l R p e below s args y 3 8 (PreOf R mc ms Pc) (PostOf Qc mc ms free) (vx_Post XC mc ms free) := vx_callBack cw.1 hM hp.1
  obtain ⟨⟨-, -, -, -, -, -, hcode, -, hy, hlen, hl⟩, hin, hse⟩ := cw
  obtain ⟨hx, hb, hml, ho, -⟩ := S
  obtain ⟨-, ⟨cellB, hcB, hoB, hclB⟩, hPc⟩ := hp
  intro T hT X
  rcases vx_callV X hx (C := C) (bytes := bytes) (maxL := maxL) (ret := ret) ho hl hin hse hcode hy hK (by rw [hT]; exact hcB) hoB hclB hg (hsize.trans hml.symm) (argsL := As) (rest := rest) (fun sig h => hn.trans (hlen sig h)) hstack hW (by rw [hb]; exact hdg)
    (fun vm₁ hW₁ => ⟨hf.1, hf.2, hPc (T.setVm vm₁) hT hW₁⟩) with ⟨v, vm₁, ⟨U', l2, c2, s2⟩, hW₁, X', ⟨g', mk, t, L, e1, e2, hq, h1, hL, h2, h3⟩, st⟩ | ⟨q, vm₁, ⟨U', l2, c2, s2⟩, hW₁, X', ⟨g', mk, t, L, E, ce, e1, e2, hq, hce, hcv, hcl, h1, hL, h2, h3⟩, st⟩
  · dsimp only [Pt.U, Pt.locs, Pt.cells, Pt.slots] at X' e1 e2 h1 h2 h3 st
    subst h1; subst h2; subst h3
    exact Or.inl ⟨v, (T.setVm vm₁).calling g' mk (Value.ref b :: As).toArray, t, U', L, hT, X', hL, e1, e2, hq, st⟩
  · dsimp only [Pt.U, Pt.locs, Pt.cells, Pt.slots] at X' e1 e2 h1 h2 h3 st hcl
    subst h1; subst h2; subst h3
    exact Or.inr ⟨q, (T.setVm vm₁).calling g' mk (Value.ref b :: As).toArray, t, U', L, E, ce, hT, X', hL, e1, e2, hq, hce, hcv, vx_cls hW₁ hcl, st⟩
theorem vx_runS (S : CallFix p m c cc nL s args Ts own) (hM : vx_Met l y ws rm Pc Qc XC mc ms free) (cw : CallB R s args own index y bytes maxL ret ws rm mc ms n ∧ (Cond.static y).before args s = true) (hp : PreS s H Pc As)
    (hg : g.method = m) (hn : As.length = n) (hsize : g.locals.size = nL) (hstack : g.stack = As.reverse ++ rest) (hW : 2 * g.monitorRoom + (rest.map fun v => v.category).sum ≤ 8) (hdg : decode cc g.pc = .ok (.invokestatic index, 3)) (hf : cells + mc ≤ R.cells ∧ slots + ms ≤ R.slots) :
    vx_Run p l e R s m args below meth c H locs cells slots mc ms g rest (Qc As.toArray) XC free := by
  have hK : vx_Back l R p e below s args y 3 8 (PreOf R mc ms Pc) (PostOf Qc mc ms free) (vx_Post XC mc ms free) := vx_callBack cw.1 hM hp.1
  obtain ⟨⟨-, -, -, -, -, -, hcode, hini, hy, hlen, hl⟩, hstt⟩ := cw
  obtain ⟨hx, hb, hml, ho, -⟩ := S
  intro T hT X
  rcases vx_callS X hx (bytes := bytes) (maxL := maxL) (ret := ret) ho hl hstt hini hcode hy hK hg (hsize.trans hml.symm) (argsL := As) (rest := rest) (fun sig h => hn.trans (hlen sig h)) hstack hW (by rw [hb]; exact hdg)
    (fun vm₁ hW₁ => ⟨hf.1, hf.2, hp.2 (T.setVm vm₁) hT hW₁⟩) with ⟨v, vm₁, ⟨U', l2, c2, s2⟩, hW₁, X', ⟨g', mk, t, L, e1, e2, hq, h1, hL, h2, h3⟩, st⟩ | ⟨q, vm₁, ⟨U', l2, c2, s2⟩, hW₁, X', ⟨g', mk, t, L, E, ce, e1, e2, hq, hce, hcv, hcl, h1, hL, h2, h3⟩, st⟩
  · dsimp only [Pt.U, Pt.locs, Pt.cells, Pt.slots] at X' e1 e2 h1 h2 h3 st
    subst h1; subst h2; subst h3
    exact Or.inl ⟨v, (T.setVm vm₁).calling g' mk As.toArray, t, U', L, hT, X', hL, e1, e2, hq, st⟩
  · dsimp only [Pt.U, Pt.locs, Pt.cells, Pt.slots] at X' e1 e2 h1 h2 h3 st hcl
    subst h1; subst h2; subst h3
    exact Or.inr ⟨q, (T.setVm vm₁).calling g' mk As.toArray, t, U', L, E, ce, hT, X', hL, e1, e2, hq, hce, hcv, vx_cls hW₁ hcl, st⟩
end Runs
section Rows
variable {p : Program} {l : Launch} {e : Env} {R : Room} {s : State} {m : MethodId} {args : Array Value} {below : List Frame} {meth : Method} {c : Code} {H : Heap} {locs : List Loc} {cells slots : Nat} {Q : State → Prop}
variable {mc ms : Nat} {free : Addr → Prop} {A0 A1 : Nat → Prop} {H0 : Heap} {a : Array Value} {pc : Nat} {ls : Array Slot} {st0 rest : List Value}
theorem vx_keep {st₀ t T' : State} {L : List Loc} (h0 : st₀.heap = H) (e1 : T'.heap = t.heap) (hS : va_S A0 H0 H locs) (hA : ∀ q, q < H.size → A1 q → A0 q) (hf : ∀ q, free q → A0 q) (hL : ∀ q ∈ L, free q.base) (hF : va_F A1 st₀ t) :
    H.size ≤ T'.heap.size ∧ (∀ q : Nat, q < H.size → ¬ A1 q → T'.heap[q]? = H[q]?) ∧ va_S A0 H0 T'.heap (locs ++ L) := by
  obtain ⟨hz, hk⟩ := hF
  rw [h0] at hz hk
  exact ⟨by rw [e1]; exact hz, fun q h1 h2 => by rw [e1]; exact hk q h1 h2,
    ⟨Nat.le_trans hS.1 (by rw [e1]; exact hz), fun q h1 h2 => by rw [e1, hk q (Nat.lt_of_lt_of_le h1 hS.1) (fun z => h2 (hA q (Nat.lt_of_lt_of_le h1 hS.1) z))]; exact hS.2.1 q h1 h2, fun q hq => by
      rcases List.mem_append.mp hq with h | h
      · exact hS.2.2 q h
      · exact hf _ (hL q h)⟩⟩
theorem vx_calli {S SX : Type} {post : Int32 → S → Prop} {px : SX → Prop} {B : S → State → Prop} {BX : String → SX → State → Prop} {AX : Nat → Prop} (hr : vx_Run p l e R s m args below meth c H locs cells slots mc ms (F0 m pc ls st0) rest (va_Qi post B A1 a) (vx_X px BX AX) free) (hS : va_S A0 H0 H locs) (hA : ∀ q, q < H.size → A1 q → A0 q) (hf : ∀ q, free q → A0 q) (hAX : ∀ q, q < H.size → AX q → A0 q)
    (kx : ∀ (E : String) (ce : Cell) (q9 : Addr) (u : SX) (t : State) (H1 : Heap) (locs1 : List Loc), t.heap = H1 → s.vm.Alike t.vm → px u → BX E u t → H.size ≤ H1.size → (∀ q : Nat, q < H.size → ¬ AX q → H1[q]? = H[q]?) → va_S A0 H0 H1 locs1 → H1[q9]? = some ce → ce.vm = .none → s.vm.findClass E = some ce.cls → vx_W p l e R s m args below meth c H1 locs1 (cells + mc) (slots + ms) Q (F0 m pc ls rest) q9)
    (kk : ∀ (r : Int32) (u : S) (t : State) (H1 : Heap) (locs1 : List Loc), t.heap = H1 → s.vm.Alike t.vm → post r u → B u t → H.size ≤ H1.size → (∀ q : Nat, q < H.size → ¬ A1 q → H1[q]? = H[q]?) → va_S A0 H0 H1 locs1 → W p l e R s m args below meth c H1 locs1 (cells + mc) (slots + ms) Q (F0 m (pc + 3) ls (.int r :: rest))) : W p l e R s m args below meth c H locs cells slots Q (F0 m pc ls st0) := by
  intro T hT X
  rcases hr T hT X with ⟨v, st₀, t, T', L, h0, X', hL, e1, e2, ⟨⟨r, u, hv, hp, hb⟩, hF⟩, st⟩ | ⟨q, st₀, t, T', L, E, ce, h0, X', hL, e1, e2, ⟨u, hp, hb, hF⟩, hce, hcv, hcl, st⟩
  · cases hv
    obtain ⟨k1, k2, k3⟩ := vx_keep h0 e1 hS hA hf hL hF
    obtain ⟨t2, a1, b1⟩ := kk r u t T'.heap (locs ++ L) e1.symm (by rw [← e2]; exact X'.warmed.alike) hp hb k1 k2 k3 T' rfl X'
    exact ⟨t2, st t2 a1, b1⟩
  · obtain ⟨k1, k2, k3⟩ := vx_keep h0 e1 hS hAX hf hL hF
    obtain ⟨t2, a1, b1⟩ := kx E ce q u t T'.heap (locs ++ L) e1.symm (by rw [← e2]; exact X'.warmed.alike) hp hb k1 k2 k3 (by rw [e1]; exact hce) hcv hcl T' rfl X'
    exact ⟨t2, st.trans a1, b1⟩
theorem vx_calll {S SX : Type} {post : Int64 → S → Prop} {px : SX → Prop} {B : S → State → Prop} {BX : String → SX → State → Prop} {AX : Nat → Prop} (hr : vx_Run p l e R s m args below meth c H locs cells slots mc ms (F0 m pc ls st0) rest (va_Ql post B A1 a) (vx_X px BX AX) free) (hS : va_S A0 H0 H locs) (hA : ∀ q, q < H.size → A1 q → A0 q) (hf : ∀ q, free q → A0 q) (hAX : ∀ q, q < H.size → AX q → A0 q)
    (kx : ∀ (E : String) (ce : Cell) (q9 : Addr) (u : SX) (t : State) (H1 : Heap) (locs1 : List Loc), t.heap = H1 → s.vm.Alike t.vm → px u → BX E u t → H.size ≤ H1.size → (∀ q : Nat, q < H.size → ¬ AX q → H1[q]? = H[q]?) → va_S A0 H0 H1 locs1 → H1[q9]? = some ce → ce.vm = .none → s.vm.findClass E = some ce.cls → vx_W p l e R s m args below meth c H1 locs1 (cells + mc) (slots + ms) Q (F0 m pc ls rest) q9)
    (kk : ∀ (r : Int64) (u : S) (t : State) (H1 : Heap) (locs1 : List Loc), t.heap = H1 → s.vm.Alike t.vm → post r u → B u t → H.size ≤ H1.size → (∀ q : Nat, q < H.size → ¬ A1 q → H1[q]? = H[q]?) → va_S A0 H0 H1 locs1 → W p l e R s m args below meth c H1 locs1 (cells + mc) (slots + ms) Q (F0 m (pc + 3) ls (.long r :: rest))) : W p l e R s m args below meth c H locs cells slots Q (F0 m pc ls st0) := by
  intro T hT X
  rcases hr T hT X with ⟨v, st₀, t, T', L, h0, X', hL, e1, e2, ⟨⟨r, u, hv, hp, hb⟩, hF⟩, st⟩ | ⟨q, st₀, t, T', L, E, ce, h0, X', hL, e1, e2, ⟨u, hp, hb, hF⟩, hce, hcv, hcl, st⟩
  · cases hv
    obtain ⟨k1, k2, k3⟩ := vx_keep h0 e1 hS hA hf hL hF
    obtain ⟨t2, a1, b1⟩ := kk r u t T'.heap (locs ++ L) e1.symm (by rw [← e2]; exact X'.warmed.alike) hp hb k1 k2 k3 T' rfl X'
    exact ⟨t2, st t2 a1, b1⟩
  · obtain ⟨k1, k2, k3⟩ := vx_keep h0 e1 hS hAX hf hL hF
    obtain ⟨t2, a1, b1⟩ := kx E ce q u t T'.heap (locs ++ L) e1.symm (by rw [← e2]; exact X'.warmed.alike) hp hb k1 k2 k3 (by rw [e1]; exact hce) hcv hcl T' rfl X'
    exact ⟨t2, st.trans a1, b1⟩
theorem vx_callf {S SX : Type} {post : UInt32 → S → Prop} {px : SX → Prop} {B : S → State → Prop} {BX : String → SX → State → Prop} {AX : Nat → Prop} (hr : vx_Run p l e R s m args below meth c H locs cells slots mc ms (F0 m pc ls st0) rest (va_Qf post B A1 a) (vx_X px BX AX) free) (hS : va_S A0 H0 H locs) (hA : ∀ q, q < H.size → A1 q → A0 q) (hf : ∀ q, free q → A0 q) (hAX : ∀ q, q < H.size → AX q → A0 q)
    (kx : ∀ (E : String) (ce : Cell) (q9 : Addr) (u : SX) (t : State) (H1 : Heap) (locs1 : List Loc), t.heap = H1 → s.vm.Alike t.vm → px u → BX E u t → H.size ≤ H1.size → (∀ q : Nat, q < H.size → ¬ AX q → H1[q]? = H[q]?) → va_S A0 H0 H1 locs1 → H1[q9]? = some ce → ce.vm = .none → s.vm.findClass E = some ce.cls → vx_W p l e R s m args below meth c H1 locs1 (cells + mc) (slots + ms) Q (F0 m pc ls rest) q9)
    (kk : ∀ (r : UInt32) (u : S) (t : State) (H1 : Heap) (locs1 : List Loc), t.heap = H1 → s.vm.Alike t.vm → post r u → B u t → H.size ≤ H1.size → (∀ q : Nat, q < H.size → ¬ A1 q → H1[q]? = H[q]?) → va_S A0 H0 H1 locs1 → W p l e R s m args below meth c H1 locs1 (cells + mc) (slots + ms) Q (F0 m (pc + 3) ls (.float r :: rest))) : W p l e R s m args below meth c H locs cells slots Q (F0 m pc ls st0) := by
  intro T hT X
  rcases hr T hT X with ⟨v, st₀, t, T', L, h0, X', hL, e1, e2, ⟨⟨r, u, hv, hp, hb⟩, hF⟩, st⟩ | ⟨q, st₀, t, T', L, E, ce, h0, X', hL, e1, e2, ⟨u, hp, hb, hF⟩, hce, hcv, hcl, st⟩
  · cases hv
    obtain ⟨k1, k2, k3⟩ := vx_keep h0 e1 hS hA hf hL hF
    obtain ⟨t2, a1, b1⟩ := kk r u t T'.heap (locs ++ L) e1.symm (by rw [← e2]; exact X'.warmed.alike) hp hb k1 k2 k3 T' rfl X'
    exact ⟨t2, st t2 a1, b1⟩
  · obtain ⟨k1, k2, k3⟩ := vx_keep h0 e1 hS hAX hf hL hF
    obtain ⟨t2, a1, b1⟩ := kx E ce q u t T'.heap (locs ++ L) e1.symm (by rw [← e2]; exact X'.warmed.alike) hp hb k1 k2 k3 (by rw [e1]; exact hce) hcv hcl T' rfl X'
    exact ⟨t2, st.trans a1, b1⟩
theorem vx_calld {S SX : Type} {post : UInt64 → S → Prop} {px : SX → Prop} {B : S → State → Prop} {BX : String → SX → State → Prop} {AX : Nat → Prop} (hr : vx_Run p l e R s m args below meth c H locs cells slots mc ms (F0 m pc ls st0) rest (va_Qd post B A1 a) (vx_X px BX AX) free) (hS : va_S A0 H0 H locs) (hA : ∀ q, q < H.size → A1 q → A0 q) (hf : ∀ q, free q → A0 q) (hAX : ∀ q, q < H.size → AX q → A0 q)
    (kx : ∀ (E : String) (ce : Cell) (q9 : Addr) (u : SX) (t : State) (H1 : Heap) (locs1 : List Loc), t.heap = H1 → s.vm.Alike t.vm → px u → BX E u t → H.size ≤ H1.size → (∀ q : Nat, q < H.size → ¬ AX q → H1[q]? = H[q]?) → va_S A0 H0 H1 locs1 → H1[q9]? = some ce → ce.vm = .none → s.vm.findClass E = some ce.cls → vx_W p l e R s m args below meth c H1 locs1 (cells + mc) (slots + ms) Q (F0 m pc ls rest) q9)
    (kk : ∀ (r : UInt64) (u : S) (t : State) (H1 : Heap) (locs1 : List Loc), t.heap = H1 → s.vm.Alike t.vm → post r u → B u t → H.size ≤ H1.size → (∀ q : Nat, q < H.size → ¬ A1 q → H1[q]? = H[q]?) → va_S A0 H0 H1 locs1 → W p l e R s m args below meth c H1 locs1 (cells + mc) (slots + ms) Q (F0 m (pc + 3) ls (.double r :: rest))) : W p l e R s m args below meth c H locs cells slots Q (F0 m pc ls st0) := by
  intro T hT X
  rcases hr T hT X with ⟨v, st₀, t, T', L, h0, X', hL, e1, e2, ⟨⟨r, u, hv, hp, hb⟩, hF⟩, st⟩ | ⟨q, st₀, t, T', L, E, ce, h0, X', hL, e1, e2, ⟨u, hp, hb, hF⟩, hce, hcv, hcl, st⟩
  · cases hv
    obtain ⟨k1, k2, k3⟩ := vx_keep h0 e1 hS hA hf hL hF
    obtain ⟨t2, a1, b1⟩ := kk r u t T'.heap (locs ++ L) e1.symm (by rw [← e2]; exact X'.warmed.alike) hp hb k1 k2 k3 T' rfl X'
    exact ⟨t2, st t2 a1, b1⟩
  · obtain ⟨k1, k2, k3⟩ := vx_keep h0 e1 hS hAX hf hL hF
    obtain ⟨t2, a1, b1⟩ := kx E ce q u t T'.heap (locs ++ L) e1.symm (by rw [← e2]; exact X'.warmed.alike) hp hb k1 k2 k3 (by rw [e1]; exact hce) hcv hcl T' rfl X'
    exact ⟨t2, st.trans a1, b1⟩
theorem vx_callv {S SX : Type} {post : S → Prop} {px : SX → Prop} {B : S → State → Prop} {BX : String → SX → State → Prop} {AX : Nat → Prop} (hr : vx_Run p l e R s m args below meth c H locs cells slots mc ms (F0 m pc ls st0) rest (va_Qv post B A1 a) (vx_X px BX AX) free) (hS : va_S A0 H0 H locs) (hA : ∀ q, q < H.size → A1 q → A0 q) (hf : ∀ q, free q → A0 q) (hAX : ∀ q, q < H.size → AX q → A0 q)
    (kx : ∀ (E : String) (ce : Cell) (q9 : Addr) (u : SX) (t : State) (H1 : Heap) (locs1 : List Loc), t.heap = H1 → s.vm.Alike t.vm → px u → BX E u t → H.size ≤ H1.size → (∀ q : Nat, q < H.size → ¬ AX q → H1[q]? = H[q]?) → va_S A0 H0 H1 locs1 → H1[q9]? = some ce → ce.vm = .none → s.vm.findClass E = some ce.cls → vx_W p l e R s m args below meth c H1 locs1 (cells + mc) (slots + ms) Q (F0 m pc ls rest) q9)
    (kk : ∀ (u : S) (t : State) (H1 : Heap) (locs1 : List Loc), t.heap = H1 → s.vm.Alike t.vm → post u → B u t → H.size ≤ H1.size → (∀ q : Nat, q < H.size → ¬ A1 q → H1[q]? = H[q]?) → va_S A0 H0 H1 locs1 → W p l e R s m args below meth c H1 locs1 (cells + mc) (slots + ms) Q (F0 m (pc + 3) ls (rest))) : W p l e R s m args below meth c H locs cells slots Q (F0 m pc ls st0) := by
  intro T hT X
  rcases hr T hT X with ⟨v, st₀, t, T', L, h0, X', hL, e1, e2, ⟨⟨u, hv, hp, hb⟩, hF⟩, st⟩ | ⟨q, st₀, t, T', L, E, ce, h0, X', hL, e1, e2, ⟨u, hp, hb, hF⟩, hce, hcv, hcl, st⟩
  · cases hv
    obtain ⟨k1, k2, k3⟩ := vx_keep h0 e1 hS hA hf hL hF
    obtain ⟨t2, a1, b1⟩ := kk u t T'.heap (locs ++ L) e1.symm (by rw [← e2]; exact X'.warmed.alike) hp hb k1 k2 k3 T' rfl X'
    exact ⟨t2, st t2 a1, b1⟩
  · obtain ⟨k1, k2, k3⟩ := vx_keep h0 e1 hS hAX hf hL hF
    obtain ⟨t2, a1, b1⟩ := kx E ce q u t T'.heap (locs ++ L) e1.symm (by rw [← e2]; exact X'.warmed.alike) hp hb k1 k2 k3 (by rw [e1]; exact hce) hcv hcl T' rfl X'
    exact ⟨t2, st.trans a1, b1⟩
end Rows
section Ends
variable {p : Program} {l : Launch} {e : Env} {R : Room} {s : State} {m : MethodId} {args : Array Value} {below : List Frame} {meth : Method} {c : Code} {H : Heap} {locs : List Loc} {cells slots : Nat} {Q : State → Prop}
variable {mc ms : Nat} {free : Addr → Prop} {A0 A1 : Nat → Prop} {H0 : Heap} {a : Array Value} {ls : Array Slot} {st0 rest : List Value}
variable {Qc : Array Value → State → Outcome → State → Prop} {XC : String → State → State → Prop}
/-- what a body that may throw owes at its end -/
def vx_MQ (below : List Frame) (Qc : Array Value → State → Outcome → State → Prop) (XC : String → State → State → Prop) (a : Array Value) (s : State) (mc ms : Nat) (free : Addr → Prop) : State → Prop := fun t =>
  ∃ o, t.status = .running ∧ Ended t below o ∧ vx_Q Qc XC mc ms free a s o t
theorem vx_ret {g : JFrame} {mc ms : Nat} (k : W p l e R s m args below meth c H locs cells slots (MQ below Qc args s mc ms free) g) : W p l e R s m args below meth c H locs cells slots (vx_MQ below Qc XC args s mc ms free) g := by
  intro T hT X
  obtain ⟨t, a1, o, b1, b2, b3, b4⟩ := k T hT X
  exact ⟨t, a1, o, b1, b2, Or.inl ⟨b3, b4⟩⟩
/-- not caught here: it goes on to the caller -/
theorem vx_widen {g : JFrame} {q : Addr} {k n : Nat} (h1 : cells ≤ k) (h2 : slots ≤ n) (kk : vx_W p l e R s m args below meth c H locs k n Q g q) : vx_W p l e R s m args below meth c H locs cells slots Q g q := fun T hT X => kk T hT (stand_widen X h1 h2)
theorem vx_out {pc : Nat} {E : String} {ce : Cell} {q : Addr} {mc ms : Nat} (hout : ∀ x ∈ c.exceptionTable.toList, covers x pc = false) (hlocks : meth.locks = false) (hcell : H[q]? = some ce) (hv : ce.vm = .none) (hcl : s.vm.findClass E = some ce.cls)
    (hx : ∀ t : State, t.heap = H → s.vm.Alike t.vm → XC E s t) (hf : ∀ z ∈ locs, free z.base) (hc : cells ≤ mc) (hs : slots ≤ ms) :
    vx_W p l e R s m args below meth c H locs cells slots (vx_MQ below Qc XC args s mc ms free) (F0 m pc ls rest) q := by
  intro T hT X
  obtain ⟨st1, hrun, hend, hW, hsm⟩ := X.leaveThrown q (g := F0 m pc ls rest) rfl rfl rfl hout hlocks
  have hcell9 : (T.setFrames (.throwing q :: below)).heap[q]? = some ce := by
    show T.heap[q]? = some ce
    rw [hT]; exact hcell
  exact ⟨_, st1, .threw q, hrun, hend, Or.inr ⟨q, rfl, E, ce, locs, hx _ hT hW.alike, hcell9, hv, hcl, hW, hsm.mono hc hs, hf⟩⟩
theorem vx_frame {U : State} {k n : Nat} (h : s.sameButNew ({ U with vm := s.vm } : State) locs k n) : s.heap.size ≤ U.heap.size ∧ ∀ q : Nat, q < s.heap.size → (∀ z ∈ locs, z.base ≠ q) → U.heap[q]? = s.heap[q]? := by
  obtain ⟨-, h2, -, -, -, h6⟩ := h
  refine ⟨h2, fun q hq hz => ?_⟩
  obtain ⟨c9, e1, e2, e3, e4⟩ := h6 q _ (Array.getElem?_eq_getElem hq)
  have hs : c9.slots = (s.heap[q]).slots := Array.ext_getElem? fun i => e4 i fun hm => hz _ hm rfl
  have h9 : c9 = s.heap[q] := by
    rw [hs] at e2
    exact e2
  have e5 : U.heap[q]? = some c9 := e1
  rw [e5, h9, Array.getElem?_eq_getElem hq]
/-- the words of a throw but the four that speak of the heap -/
def vx_no (w : Cond) : Bool := decide (w ≠ .isRef (.static Bundle.tN "UNASSIGNED_STACK" Bundle.steD)) && decide (w ≠ .isRef (.static Bundle.tN "SUPPRESSED_SENTINEL" Bundle.listD)) && decide (w ≠ .laysStatic Bundle.tN "UNASSIGNED_STACK" Bundle.steD) && decide (w ≠ .laysStatic Bundle.tN "SUPPRESSED_SENTINEL" Bundle.listD)
def vx_at0 (own : String) (ic : Nat) (X : String) (names : List String) : List Cond := (Bundle.ownAtoms0 own ic X names).filter vx_no
def vx_atS (own : String) (ic : Nat) (X : String) (names : List String) : List Cond := (Bundle.ownAtoms own ic X names).filter vx_no
/-- a word that the tables alone decide, or a good one -/
def vx_ot (w : Cond) : Bool := w.onTables || goodWord w
theorem vx_ot_at {args a' : Array Value} {s U : State} {w : Cond} (hW : s.WarmedH U.vm) (hvm : s.vm = U.vm) (hg : vx_ot w = true) (h : w.before args s = true) : w.before a' U = true := by
  simp only [vx_ot, Bool.or_eq_true] at hg
  rcases hg with hg | hg
  · exact va_tabs hg hvm h
  · exact word_at hW (good_of_word hg) h
/-- a list's words: the good ones out of the method's own list, the others by premises of their own -/
theorem vx_hat {args : Array Value} {s : State} {L B : List Cond} (h1 : ∀ w ∈ L.filter goodWord, w.before args s = true) (h2 : ∀ w ∈ L.filter (fun w => !goodWord w), w ∈ B) (h3 : ∀ w ∈ B, w.before args s = true) : ∀ w ∈ L, w.before args s = true := by
  intro w hw
  by_cases g : goodWord w = true
  · exact h1 w (List.mem_filter.mpr ⟨hw, g⟩)
  · refine h3 w (h2 w (List.mem_filter.mpr ⟨hw, ?_⟩))
    show (!goodWord w) = true
    cases hgw : goodWord w
    · rfl
    · exact absurd hgw g
theorem vx_c {args : Array Value} {s : State} {w : Cond} {B : List Cond} (h : w.before args s = true) (t : ∀ w ∈ B, w.before args s = true) : ∀ w' ∈ w :: B, w'.before args s = true := fun w' h' => (List.mem_cons.mp h').elim (fun e => by rw [e]; exact h) (t w')
theorem vx_n {args : Array Value} {s : State} : ∀ w ∈ ([] : List Cond), w.before args s = true := fun _ h => nomatch h
theorem vx_own {args : Array Value} {s : State} {L : List Cond} (h1 : ∀ w ∈ L.filter vx_no, w.before args s = true)
    (hU : (Cond.isRef (.static Bundle.tN "UNASSIGNED_STACK" Bundle.steD)).before args s = true) (hN : (Cond.isRef (.static Bundle.tN "SUPPRESSED_SENTINEL" Bundle.listD)).before args s = true)
    (lU : (Cond.laysStatic Bundle.tN "UNASSIGNED_STACK" Bundle.steD).before args s = true) (lN : (Cond.laysStatic Bundle.tN "SUPPRESSED_SENTINEL" Bundle.listD).before args s = true) : ∀ w ∈ L, w.before args s = true := by
  intro w hw
  by_cases e1 : w = .isRef (.static Bundle.tN "UNASSIGNED_STACK" Bundle.steD)
  · rw [e1]; exact hU
  · by_cases e2 : w = .isRef (.static Bundle.tN "SUPPRESSED_SENTINEL" Bundle.listD)
    · rw [e2]; exact hN
    · by_cases e3 : w = .laysStatic Bundle.tN "UNASSIGNED_STACK" Bundle.steD
      · rw [e3]; exact lU
      · by_cases e4 : w = .laysStatic Bundle.tN "SUPPRESSED_SENTINEL" Bundle.listD
        · rw [e4]; exact lN
        · exact h1 w (List.mem_filter.mpr ⟨hw, by unfold vx_no; rw [decide_eq_true e1, decide_eq_true e2, decide_eq_true e3, decide_eq_true e4]; rfl⟩)
/-- where a static field lies, its class's statics cell in H -/
def vx_L (C n d : String) (A : Nat → Prop) (U : State) (H : Heap) : Prop := ∃ (c : ClassId) (k : Class) (i : Nat) (f : Field) (a : Nat) (cell : Cell), U.vm.findClass C = some c ∧ U.fieldFound? C n d = some (c, k, i, f) ∧ f.isStatic = true ∧ k.statics = some a ∧ H[a]? = some cell ∧ cell.vm.isStatics = true ∧ cell.cls = c ∧ f.slot < cell.slots.size ∧ k.staticTypes[f.slot]? = some f.type ∧ ¬ A a
theorem vx_L.moved {C n d : String} {A : Nat → Prop} {u U : State} {H : Heap} (hvm : u.vm.Alike U.vm) (h : vx_L C n d A u H) : vx_L C n d A U H := by
  obtain ⟨c, k, i, f, a, cell, h1, h2, h3, h4, h5, h6, h7, h8, h9, h10⟩ := h
  obtain ⟨k', hi', he⟩ := State.fieldFound?_setVm hvm h2
  exact ⟨c, k', i, f, a, cell, by rw [hvm.findClass]; exact h1, hi', h3, by rw [he]; exact h4, h5, h6, h7, h8, by rw [he]; exact h9, h10⟩
theorem vx_L.kept {C n d : String} {A : Nat → Prop} {U : State} {H H1 : Heap} (h : vx_L C n d A U H) (hq : ∀ a : Nat, a < H.size → ¬ A a → H1[a]? = H[a]?) : vx_L C n d A U H1 := by
  obtain ⟨c, k, i, f, a, cell, h1, h2, h3, h4, h5, h6, h7, h8, h9, h10⟩ := h
  exact ⟨c, k, i, f, a, cell, h1, h2, h3, h4, by rw [hq a (Array.getElem?_eq_some_iff.mp h5).1 h10]; exact h5, h6, h7, h8, h9, h10⟩
theorem vx_L.narrow {C n d : String} {A B : Nat → Prop} {U : State} {H : Heap} (h : vx_L C n d A U H) (hAB : ∀ q, B q → A q) : vx_L C n d B U H := by
  obtain ⟨c, k, i, f, a, cell, h1, h2, h3, h4, h5, h6, h7, h8, h9, h10⟩ := h
  exact ⟨c, k, i, f, a, cell, h1, h2, h3, h4, h5, h6, h7, h8, h9, fun z => h10 (hAB _ z)⟩
theorem vx_L.word {C n d : String} {A : Nat → Prop} {s : State} {args : Array Value} (h : vx_L C n d A s s.heap) : (Cond.laysStatic C n d).before args s = true := by
  obtain ⟨c, k, i, f, a, cell, h1, h2, h3, h4, h5, h6, h7, h8, h9, -⟩ := h
  show (Cond.laysStatic C n d).holds args s none s [] = true
  exact Cond.laysStatic_of h1 h2 h3 h4 h5 h6 h7 h8 h9
/-- .. and what it holds: null or some reference -/
def vx_Zq (C n d : String) (A : Nat → Prop) (U : State) (H : Heap) : Prop := va_Zq C n d A U H ∧ vx_L C n d A U H
theorem vx_Zq.moved {C n d : String} {A : Nat → Prop} {u U : State} {H : Heap} (hvm : u.vm.Alike U.vm) (h : vx_Zq C n d A u H) : vx_Zq C n d A U H := ⟨va_Zq.moved hvm h.1, vx_L.moved hvm h.2⟩
theorem vx_Zq.kept {C n d : String} {A : Nat → Prop} {U : State} {H H1 : Heap} (h : vx_Zq C n d A U H) (hq : ∀ a : Nat, a < H.size → ¬ A a → H1[a]? = H[a]?) : vx_Zq C n d A U H1 := ⟨va_Zq.kept h.1 hq, vx_L.kept h.2 hq⟩
theorem vx_Zq.narrow {C n d : String} {A B : Nat → Prop} {U : State} {H : Heap} (h : vx_Zq C n d A U H) (hAB : ∀ q, B q → A q) : vx_Zq C n d B U H := ⟨va_Zq.narrow h.1 hAB, vx_L.narrow h.2 hAB⟩
theorem vx_Zqof {args : Array Value} {s : State} {C n d : String} {A : Nat → Prop} (hl : (Cond.laysStatic C n d).before args s = true) (hini : (Cond.initialized C).before args s = true) (h : (Cond.isRef (.static C n d)).before args s = true) (hA : ∀ a : Nat, a < s.heap.size → ¬ A a) : vx_Zq C n d A s s.heap := by
  refine ⟨va_Zqof hl hini h hA, ?_⟩
  obtain ⟨c, k, i, f, a, cell, h1, h2, h3, h4, h5, h6, h7, h8, h9⟩ := Cond.laysStatic_spec hl
  exact ⟨c, k, i, f, a, cell, h1, h2, h3, h4, h5, h6, h7, h8, h9, hA a (Array.getElem?_eq_some_iff.mp h5).1⟩
theorem vx_isRef {C n d : String} {v : Value} {A : Nat → Prop} {s : State} {args : Array Value} (h : va_Z C n d v A s s.heap) (hv : v.isRef = true) : (Cond.isRef (.static C n d)).before args s = true := by
  obtain ⟨cf, kf, fi, f, a, cell, h1, h2, h3, h4, h5, h6, h7, -⟩ := h
  have he : (Term.static C n d).eval args s none [] s = some v := by
    simp [Term.eval, State.fieldNamed?, h1, h2, h4, h5, h6, h7]
  simp only [Cond.before, Cond.holds, Cond.value, he]
  cases v <;> simp_all [Value.isRef]
theorem vx_isRefq {C n d : String} {A : Nat → Prop} {s : State} {args : Array Value} (h : va_Zq C n d A s s.heap) : (Cond.isRef (.static C n d)).before args s = true := by
  rcases h with h | ⟨t, h⟩
  · exact vx_isRef h rfl
  · exact vx_isRef h rfl
/-- the same frame, seen from here: as if the method were called anew in this heap -/
theorem vx_rebase {T : State} (X : Stand p l e R s m args below meth c T locs cells slots) {R' : Room} (hf : R'.frames ≤ R.frames) (hl : R'.locals ≤ R.locals) (hc : cells + R'.cells ≤ R.cells) (hs : slots + R'.slots ≤ R.slots) :
    Stand p l e R' ((T.setVm s.vm).setFrames (.invoking m args :: below)) m args below meth c T [] 0 0 := by
  have htop : (T.setVm s.vm).topJava?.isSome := X.here.top
  have hF : ((T.setVm s.vm).setFrames (.invoking m args :: below)).frames = .invoking m args :: below := State.frames_setFrames _ (State.cur_lt_of_top htop)
  obtain ⟨g₀, hg0⟩ := Option.isSome_iff_exists.mp htop
  obtain ⟨r, hr⟩ := State.topJava?_eq_some.mp hg0
  have hl9 : e.platform.stackLimits (T.setVm s.vm).me = e.platform.stackLimits s.me := X.limits
  have hb9 : (T.setVm s.vm).me.stackBytes = s.me.stackBytes := X.bytes
  refine ⟨X.admits, X.cas, X.clock, hF, ?_, X.hears, X.method, X.code, X.here, X.tail, X.warmed, ?_, ?_, ?_⟩
  · have h := X.room
    have hU : ((T.setVm s.vm).setFrames (.invoking m args :: below)).localsInUse = s.localsInUse := by
      rw [State.localsInUse_invoking hF (meth := meth) (c := c) X.method X.code, State.localsInUse_invoking X.frames X.method X.code]
    simp only [State.hasRoom, Bool.and_eq_true, decide_eq_true_eq] at h ⊢
    obtain ⟨⟨⟨⟨h1, h2, h3, h4, h5, h6⟩, h7⟩, h8⟩, h9⟩ := h
    rw [X.frames, List.length_cons] at h2 h3
    have q1 := X.heapSize
    have q2 := X.used
    simp only [hF, hU, List.length_cons, State.stackLimits_setFrames, State.stackBytes_setFrames, hl9, hb9]
    refine ⟨⟨⟨⟨by omega, by omega, by omega, by omega, by omega, h6⟩, ?_⟩, ?_⟩, X.book⟩
    · show T.heap.size + R'.cells ≤ e.platform.maxCells
      omega
    · show T.slotsUsed + R'.slots ≤ e.platform.maxSlots
      omega
  · rw [State.stackLimits_setFrames]; rfl
  · rw [State.stackBytes_setFrames]; rfl
  · refine ⟨?_, Nat.le_refl _, Nat.le_refl _, ?_, ?_, fun a c9 h9 => ⟨c9, h9, rfl, rfl, fun _ _ => rfl⟩⟩
    · obtain ⟨t, ht, -⟩ := State.frames_cons hr
      show T.setVm s.vm = { ((T.setVm s.vm).setFrames (.invoking m args :: below)).setFrames (T.setVm s.vm).frames with heap := T.heap, slotsUsed := T.slotsUsed }
      rw [State.setFrames_setFrames, State.setFrames_self ht]
      rfl
    · show T.slotsUsed = T.slotsUsed + ((T.heap.toList.drop T.heap.size).map (·.slots.size)).sum
      rw [List.drop_eq_nil_of_le (Nat.le_of_eq Array.length_toList)]
      rfl
    · show ((T.heap.toList.drop T.heap.size).map (·.slots.size)).sum ≤ 0
      rw [List.drop_eq_nil_of_le (Nat.le_of_eq Array.length_toList)]
      exact Nat.le_refl _
/-- 'throw new E()': new; dup; invokespecial; athrow -/
theorem vx_throw0 {cc : ByteArray} {pc : Nat} (hexec : p.tables.exec = Jvm.exec) (hb : c.code = cc) (hl : l.stackTraces = false) {own cls : String} {names : List String} {ik ic mc ms : Nat} {A : Nat → Prop}
    (hown : s.vm.findClass own = some m.cls) (hcls : Bundle.fit cls = true) (hnames : ∀ n ∈ names, Bundle.fit n = true)
    (hk : (Cond.classLink own ik cls).before args s = true) (hini : (Cond.initialized cls).before args s = true) (hat : ∀ w ∈ vx_at0 own ic cls names, w.before args s = true)
    (hgood : ∀ w ∈ Cond.classLink own ik cls :: Cond.initialized cls :: vx_at0 own ic cls names, vx_ot w = true)
    (hU : vx_Zq Bundle.tN "UNASSIGNED_STACK" Bundle.steD A s s.heap) (hN : vx_Zq Bundle.tN "SUPPRESSED_SENTINEL" Bundle.listD A s s.heap) (hS : va_S A s.heap H locs) (hsize : ls.size = c.maxLocals)
    (d0 : decode cc pc = .ok (.new ik, 3)) (d3 : decode cc (pc + 3) = .ok (.dup, 1)) (d4 : decode cc (pc + 4) = .ok (.invokespecial ic, 3)) (d7 : decode cc (pc + 7) = .ok (.athrow, 1))
    (hout : ∀ x ∈ c.exceptionTable.toList, covers x (pc + 7) = false)
    (hRframes : names.length + 3 < R.frames) (hRlocals : (rest.map fun v => v.category).sum + (13 * (names.length + 1) + 42) ≤ R.locals) (hRcells : cells + 1 ≤ R.cells) (hRslots : slots + 6 ≤ R.slots) (hlocks : meth.locks = false)
    (hx : ∀ t : State, s.vm.Alike t.vm → H.size ≤ t.heap.size → (∀ q : Nat, q < H.size → t.heap[q]? = H[q]?) → XC cls s t)
    (hf : ∀ z ∈ locs, free z.base) (hc : cells + 1 ≤ mc) (hs : slots + 6 ≤ ms) :
    W p l e R s m args below meth c H locs cells slots (vx_MQ below Qc XC args s mc ms free) (F0 m pc ls rest) := by
  intro T hT X
  have htr : e.platform.stackTraces = false := (show e.platform.stackTraces = l.stackTraces by rw [X.admits.platform]).trans hl
  have Y := vx_rebase X (R' := { frames := R.frames, locals := R.locals, cells := 1, slots := 6 }) (Nat.le_refl _) (Nat.le_refl _) hRcells hRslots
  obtain ⟨s', hA⟩ : ∃ z, z = (T.setVm s.vm).setFrames (.invoking m args :: below) := ⟨_, rfl⟩
  rw [← hA] at Y
  have hvm : s'.vm = s.vm := by rw [hA]; rfl
  have hhp : s'.heap = H := by rw [hA]; exact hT
  have hW0 : s.WarmedH s'.vm := by rw [hvm]; exact State.WarmedH.refl s
  have hat' : ∀ w ∈ vx_at0 own ic cls names, w.before args s' = true := fun w hw => vx_ot_at hW0 hvm.symm (hgood w (List.mem_cons_of_mem _ (List.mem_cons_of_mem _ hw))) (hat w hw)
  have hk' : (Cond.classLink own ik cls).before args s' = true := vx_ot_at hW0 hvm.symm (hgood _ List.mem_cons_self) hk
  have hini' : (Cond.initialized cls).before args s' = true := vx_ot_at hW0 hvm.symm (hgood _ (List.mem_cons_of_mem _ List.mem_cons_self)) hini
  have hU' : vx_Zq Bundle.tN "UNASSIGNED_STACK" Bundle.steD A s' s'.heap := by rw [hhp]; exact vx_Zq.moved hW0.alike (hU.kept hS.2.1)
  have hN' : vx_Zq Bundle.tN "SUPPRESSED_SENTINEL" Bundle.listD A s' s'.heap := by rw [hhp]; exact vx_Zq.moved hW0.alike (hN.kept hS.2.1)
  have h : ∀ w ∈ Bundle.ownAtoms0 own ic cls names, w.before args s' = true := vx_own hat' (vx_isRefq hU'.1) (vx_isRefq hN'.1) hU'.2.word hN'.2.word
  have hown' : s'.vm.findClass own = some m.cls := by rw [hvm]; exact hown
  have hins : (Cond.instantiable cls 6).before args s' = true := h _ (by simp [Bundle.ownAtoms0])
  obtain ⟨vm₁, cX, kX, hfX, hkX, -, -, X₁, st1⟩ := Y.newCold hexec (own := own) (C := cls) (index := ik) (n := 6) hown' hk' hins hini'
    (g := F0 m pc ls rest) rfl (by rw [hb]; exact d0) (Nat.le_refl _) (Nat.le_refl _)
  generalize hT1 : (T.setVm vm₁).pushCell { cls := cX, slots := kX.instanceTypes.map defaultValue, vm := .none } = T1 at X₁ st1
  have hcat : (Value.ref T.heap.size).category = 1 := rfl
  have hcellA : T1.heap[T.heap.size]? = some (freshCell cX kX) := by rw [← hT1]; exact State.heap_pushCell_size _ _
  have d3' : decode c.code (pc + 3) = .ok (.dup, 1) := by rw [hb]; exact d3
  obtain ⟨U, hsteps, hrun, hend, hW, hsame, ce, hce, hO⟩ := X₁.ctorThrow0 hexec htr (own := own) (cls := cls) (names := names) (ic := ic) hown' hcls hnames h (fun x hx => nomatch hx) hfX hkX hcellA (by rw [hhp, hT]; exact Nat.le_refl _)
    (g := { method := m, pc := pc + 4, locals := ls, stack := .ref T.heap.size :: .ref T.heap.size :: rest, locked := none }) rfl hsize rfl rfl (rest := rest) rfl
    (by rw [hb]; exact d4) (by rw [hb]; exact d7) hout hRframes (by simp only [List.map_cons, List.sum_cons, hcat]; omega) hlocks
  obtain ⟨f1, f2⟩ := vx_frame hsame
  rw [hhp] at f1 f2
  have hWs : s.WarmedH U.vm := State.WarmedH.trans hW0 hW
  have hcl : s.vm.findClass cls = some ce.cls := by
    have h9 := hO.cls
    rw [hvm] at h9
    exact h9
  have hall : s.sameButNew ({ U with vm := s.vm } : State) locs mc ms := by
    subst hA
    obtain ⟨e1, e2⟩ := hsame
    rw [State.setFrames_setFrames] at e1
    have h2 : (T.setVm s.vm).sameButNew ({ U with vm := s.vm } : State) [] (0 + 1) (0 + 6) := ⟨e1, e2⟩
    have h3 := X.same.trans h2
    rw [List.append_nil] at h3
    exact h3.mono hc hs
  refine ⟨U, ?_, .threw T.heap.size, hrun, hend, Or.inr ⟨T.heap.size, rfl, cls, ce, locs, hx U hWs.alike f1 (fun q hq => f2 q hq (fun z hz => nomatch hz)), hce, hO.vm, hcl, hWs, hall, hf⟩⟩
  refine st1 _ ?_
  show Steps p.tables e below (T1.setTop { method := m, pc := pc + 3, locals := ls, stack := .ref T.heap.size :: rest, locked := none }) _
  jvm_step X₁.here [X₁.here.top, hexec, d3', Value.category]
  exact hsteps
/-- 'throw new E("text")': new; dup; ldc; invokespecial; athrow -/
theorem vx_throwS {cc : ByteArray} {pc : Nat} (hexec : p.tables.exec = Jvm.exec) (hb : c.code = cc) (hl : l.stackTraces = false) {own cls text : String} {names : List String} {ik is ic mc ms sa : Nat} {A : Nat → Prop}
    (hown : s.vm.findClass own = some m.cls) (hcls : Bundle.fit cls = true) (hnames : ∀ n ∈ names, Bundle.fit n = true)
    (hk : (Cond.classLink own ik cls).before args s = true) (hini : (Cond.initialized cls).before args s = true) (hstr : vk_R own is text sa s) (hat : ∀ w ∈ vx_atS own ic cls names, w.before args s = true)
    (hgood : ∀ w ∈ Cond.classLink own ik cls :: Cond.initialized cls :: vx_atS own ic cls names, vx_ot w = true)
    (hU : vx_Zq Bundle.tN "UNASSIGNED_STACK" Bundle.steD A s s.heap) (hN : vx_Zq Bundle.tN "SUPPRESSED_SENTINEL" Bundle.listD A s s.heap) (hS : va_S A s.heap H locs) (hsize : ls.size = c.maxLocals)
    (d0 : decode cc pc = .ok (.new ik, 3)) (d3 : decode cc (pc + 3) = .ok (.dup, 1)) (d4 : decode cc (pc + 4) = .ok (.ldc is, 2)) (d6 : decode cc (pc + 6) = .ok (.invokespecial ic, 3)) (d9 : decode cc (pc + 9) = .ok (.athrow, 1))
    (hout : ∀ x ∈ c.exceptionTable.toList, covers x (pc + 9) = false)
    (hRframes : names.length + 3 < R.frames) (hRlocals : (rest.map fun v => v.category).sum + (13 * (names.length + 1) + 43) ≤ R.locals) (hRcells : cells + 1 ≤ R.cells) (hRslots : slots + 6 ≤ R.slots) (hlocks : meth.locks = false)
    (hx : ∀ t : State, s.vm.Alike t.vm → H.size ≤ t.heap.size → (∀ q : Nat, q < H.size → t.heap[q]? = H[q]?) → XC cls s t)
    (hf : ∀ z ∈ locs, free z.base) (hc : cells + 1 ≤ mc) (hs : slots + 6 ≤ ms) :
    W p l e R s m args below meth c H locs cells slots (vx_MQ below Qc XC args s mc ms free) (F0 m pc ls rest) := by
  intro T hT X
  have htr : e.platform.stackTraces = false := (show e.platform.stackTraces = l.stackTraces by rw [X.admits.platform]).trans hl
  have Y := vx_rebase X (R' := { frames := R.frames, locals := R.locals, cells := 1, slots := 6 }) (Nat.le_refl _) (Nat.le_refl _) hRcells hRslots
  obtain ⟨s', hA⟩ : ∃ z, z = (T.setVm s.vm).setFrames (.invoking m args :: below) := ⟨_, rfl⟩
  rw [← hA] at Y
  have hvm : s'.vm = s.vm := by rw [hA]; rfl
  have hhp : s'.heap = H := by rw [hA]; exact hT
  have hW0 : s.WarmedH s'.vm := by rw [hvm]; exact State.WarmedH.refl s
  have hat' : ∀ w ∈ vx_atS own ic cls names, w.before args s' = true := fun w hw => vx_ot_at hW0 hvm.symm (hgood w (List.mem_cons_of_mem _ (List.mem_cons_of_mem _ hw))) (hat w hw)
  have hk' : (Cond.classLink own ik cls).before args s' = true := vx_ot_at hW0 hvm.symm (hgood _ List.mem_cons_self) hk
  have hini' : (Cond.initialized cls).before args s' = true := vx_ot_at hW0 hvm.symm (hgood _ (List.mem_cons_of_mem _ List.mem_cons_self)) hini
  have hU' : vx_Zq Bundle.tN "UNASSIGNED_STACK" Bundle.steD A s' s'.heap := by rw [hhp]; exact vx_Zq.moved hW0.alike (hU.kept hS.2.1)
  have hN' : vx_Zq Bundle.tN "SUPPRESSED_SENTINEL" Bundle.listD A s' s'.heap := by rw [hhp]; exact vx_Zq.moved hW0.alike (hN.kept hS.2.1)
  have h : ∀ w ∈ Bundle.ownAtoms own ic cls names, w.before args s' = true := vx_own hat' (vx_isRefq hU'.1) (vx_isRefq hN'.1) hU'.2.word hN'.2.word
  have hown' : s'.vm.findClass own = some m.cls := by rw [hvm]; exact hown
  have hins : (Cond.instantiable cls 6).before args s' = true := h _ (by simp [Bundle.ownAtoms])
  obtain ⟨vm₁, cX, kX, hfX, hkX, -, -, X₁, st1⟩ := Y.newCold hexec (own := own) (C := cls) (index := ik) (n := 6) hown' hk' hins hini'
    (g := F0 m pc ls rest) rfl (by rw [hb]; exact d0) (Nat.le_refl _) (Nat.le_refl _)
  generalize hT1 : (T.setVm vm₁).pushCell { cls := cX, slots := kX.instanceTypes.map defaultValue, vm := .none } = T1 at X₁ st1
  have hcat : (Value.ref T.heap.size).category = 1 := rfl
  have hcellA : T1.heap[T.heap.size]? = some (freshCell cX kX) := by rw [← hT1]; exact State.heap_pushCell_size _ _
  have d3' : decode c.code (pc + 3) = .ok (.dup, 1) := by rw [hb]; exact d3
  have d4' : decode c.code (pc + 4) = .ok (.ldc is, 2) := by rw [hb]; exact d4
  have hstr' : vk_R own is text sa s' := vk_R.warm hW0 hstr
  obtain ⟨U, hsteps, hrun, hend, hW, hsame, ce, hce, hO⟩ := X₁.ctorThrowS hexec htr (own := own) (cls := cls) (names := names) (ic := ic) hown' hcls hnames h (fun x hx => nomatch hx) hfX hkX hcellA (by rw [hhp, hT]; exact Nat.le_refl _) (msg := .ref sa) rfl
    (g := { method := m, pc := pc + 6, locals := ls, stack := .ref sa :: .ref T.heap.size :: .ref T.heap.size :: rest, locked := none }) rfl hsize rfl rfl (rest := rest) rfl
    (by rw [hb]; exact d6) (by rw [hb]; exact d9) hout hRframes (by simp only [List.map_cons, List.sum_cons, hcat]; omega) hlocks
  obtain ⟨f1, f2⟩ := vx_frame hsame
  rw [hhp] at f1 f2
  have hWs : s.WarmedH U.vm := State.WarmedH.trans hW0 hW
  have hcl : s.vm.findClass cls = some ce.cls := by
    have h9 := hO.cls
    rw [hvm] at h9
    exact h9
  have hall : s.sameButNew ({ U with vm := s.vm } : State) locs mc ms := by
    subst hA
    obtain ⟨e1, e2⟩ := hsame
    rw [State.setFrames_setFrames] at e1
    have h2 : (T.setVm s.vm).sameButNew ({ U with vm := s.vm } : State) [] (0 + 1) (0 + 6) := ⟨e1, e2⟩
    have h3 := X.same.trans h2
    rw [List.append_nil] at h3
    exact h3.mono hc hs
  refine ⟨U, ?_, .threw T.heap.size, hrun, hend, Or.inr ⟨T.heap.size, rfl, cls, ce, locs, hx U hWs.alike f1 (fun q hq => f2 q hq (fun z hz => nomatch hz)), hce, hO.vm, hcl, hWs, hall, hf⟩⟩
  refine st1 _ ?_
  show Steps p.tables e below (T1.setTop { method := m, pc := pc + 3, locals := ls, stack := .ref T.heap.size :: rest, locked := none }) _
  jvm_step X₁.here [X₁.here.top, hexec, d3', Value.category]
  exact X₁.ldcString hexec (own := own) (text := text) (index := is) (a := sa) hown' hstr'.1 hstr'.2
    (g := { method := m, pc := pc + 4, locals := ls, stack := .ref T.heap.size :: .ref T.heap.size :: rest, locked := none }) rfl d4' _ hsteps
/-- 'throw new E("text")', the text by a wide index -/
theorem vx_throwSW {cc : ByteArray} {pc : Nat} (hexec : p.tables.exec = Jvm.exec) (hb : c.code = cc) (hl : l.stackTraces = false) {own cls text : String} {names : List String} {ik is ic mc ms sa : Nat} {A : Nat → Prop}
    (hown : s.vm.findClass own = some m.cls) (hcls : Bundle.fit cls = true) (hnames : ∀ n ∈ names, Bundle.fit n = true)
    (hk : (Cond.classLink own ik cls).before args s = true) (hini : (Cond.initialized cls).before args s = true) (hstr : vk_R own is text sa s) (hat : ∀ w ∈ vx_atS own ic cls names, w.before args s = true)
    (hgood : ∀ w ∈ Cond.classLink own ik cls :: Cond.initialized cls :: vx_atS own ic cls names, vx_ot w = true)
    (hU : vx_Zq Bundle.tN "UNASSIGNED_STACK" Bundle.steD A s s.heap) (hN : vx_Zq Bundle.tN "SUPPRESSED_SENTINEL" Bundle.listD A s s.heap) (hS : va_S A s.heap H locs) (hsize : ls.size = c.maxLocals)
    (d0 : decode cc pc = .ok (.new ik, 3)) (d3 : decode cc (pc + 3) = .ok (.dup, 1)) (d4 : decode cc (pc + 4) = .ok (.ldc_w is, 3)) (d7 : decode cc (pc + 7) = .ok (.invokespecial ic, 3)) (d10 : decode cc (pc + 10) = .ok (.athrow, 1))
    (hout : ∀ x ∈ c.exceptionTable.toList, covers x (pc + 10) = false)
    (hRframes : names.length + 3 < R.frames) (hRlocals : (rest.map fun v => v.category).sum + (13 * (names.length + 1) + 43) ≤ R.locals) (hRcells : cells + 1 ≤ R.cells) (hRslots : slots + 6 ≤ R.slots) (hlocks : meth.locks = false)
    (hx : ∀ t : State, s.vm.Alike t.vm → H.size ≤ t.heap.size → (∀ q : Nat, q < H.size → t.heap[q]? = H[q]?) → XC cls s t)
    (hf : ∀ z ∈ locs, free z.base) (hc : cells + 1 ≤ mc) (hs : slots + 6 ≤ ms) :
    W p l e R s m args below meth c H locs cells slots (vx_MQ below Qc XC args s mc ms free) (F0 m pc ls rest) := by
  intro T hT X
  have htr : e.platform.stackTraces = false := (show e.platform.stackTraces = l.stackTraces by rw [X.admits.platform]).trans hl
  have Y := vx_rebase X (R' := { frames := R.frames, locals := R.locals, cells := 1, slots := 6 }) (Nat.le_refl _) (Nat.le_refl _) hRcells hRslots
  obtain ⟨s', hA⟩ : ∃ z, z = (T.setVm s.vm).setFrames (.invoking m args :: below) := ⟨_, rfl⟩
  rw [← hA] at Y
  have hvm : s'.vm = s.vm := by rw [hA]; rfl
  have hhp : s'.heap = H := by rw [hA]; exact hT
  have hW0 : s.WarmedH s'.vm := by rw [hvm]; exact State.WarmedH.refl s
  have hat' : ∀ w ∈ vx_atS own ic cls names, w.before args s' = true := fun w hw => vx_ot_at hW0 hvm.symm (hgood w (List.mem_cons_of_mem _ (List.mem_cons_of_mem _ hw))) (hat w hw)
  have hk' : (Cond.classLink own ik cls).before args s' = true := vx_ot_at hW0 hvm.symm (hgood _ List.mem_cons_self) hk
  have hini' : (Cond.initialized cls).before args s' = true := vx_ot_at hW0 hvm.symm (hgood _ (List.mem_cons_of_mem _ List.mem_cons_self)) hini
  have hU' : vx_Zq Bundle.tN "UNASSIGNED_STACK" Bundle.steD A s' s'.heap := by rw [hhp]; exact vx_Zq.moved hW0.alike (hU.kept hS.2.1)
  have hN' : vx_Zq Bundle.tN "SUPPRESSED_SENTINEL" Bundle.listD A s' s'.heap := by rw [hhp]; exact vx_Zq.moved hW0.alike (hN.kept hS.2.1)
  have h : ∀ w ∈ Bundle.ownAtoms own ic cls names, w.before args s' = true := vx_own hat' (vx_isRefq hU'.1) (vx_isRefq hN'.1) hU'.2.word hN'.2.word
  have hown' : s'.vm.findClass own = some m.cls := by rw [hvm]; exact hown
  have hins : (Cond.instantiable cls 6).before args s' = true := h _ (by simp [Bundle.ownAtoms])
  obtain ⟨vm₁, cX, kX, hfX, hkX, -, -, X₁, st1⟩ := Y.newCold hexec (own := own) (C := cls) (index := ik) (n := 6) hown' hk' hins hini'
    (g := F0 m pc ls rest) rfl (by rw [hb]; exact d0) (Nat.le_refl _) (Nat.le_refl _)
  generalize hT1 : (T.setVm vm₁).pushCell { cls := cX, slots := kX.instanceTypes.map defaultValue, vm := .none } = T1 at X₁ st1
  have hcat : (Value.ref T.heap.size).category = 1 := rfl
  have hcellA : T1.heap[T.heap.size]? = some (freshCell cX kX) := by rw [← hT1]; exact State.heap_pushCell_size _ _
  have d3' : decode c.code (pc + 3) = .ok (.dup, 1) := by rw [hb]; exact d3
  have d4' : decode c.code (pc + 4) = .ok (.ldc_w is, 3) := by rw [hb]; exact d4
  have hstr' : vk_R own is text sa s' := vk_R.warm hW0 hstr
  obtain ⟨U, hsteps, hrun, hend, hW, hsame, ce, hce, hO⟩ := X₁.ctorThrowS hexec htr (own := own) (cls := cls) (names := names) (ic := ic) hown' hcls hnames h (fun x hx => nomatch hx) hfX hkX hcellA (by rw [hhp, hT]; exact Nat.le_refl _) (msg := .ref sa) rfl
    (g := { method := m, pc := pc + 7, locals := ls, stack := .ref sa :: .ref T.heap.size :: .ref T.heap.size :: rest, locked := none }) rfl hsize rfl rfl (rest := rest) rfl
    (by rw [hb]; exact d7) (by rw [hb]; exact d10) hout hRframes (by simp only [List.map_cons, List.sum_cons, hcat]; omega) hlocks
  obtain ⟨f1, f2⟩ := vx_frame hsame
  rw [hhp] at f1 f2
  have hWs : s.WarmedH U.vm := State.WarmedH.trans hW0 hW
  have hcl : s.vm.findClass cls = some ce.cls := by
    have h9 := hO.cls
    rw [hvm] at h9
    exact h9
  have hall : s.sameButNew ({ U with vm := s.vm } : State) locs mc ms := by
    subst hA
    obtain ⟨e1, e2⟩ := hsame
    rw [State.setFrames_setFrames] at e1
    have h2 : (T.setVm s.vm).sameButNew ({ U with vm := s.vm } : State) [] (0 + 1) (0 + 6) := ⟨e1, e2⟩
    have h3 := X.same.trans h2
    rw [List.append_nil] at h3
    exact h3.mono hc hs
  refine ⟨U, ?_, .threw T.heap.size, hrun, hend, Or.inr ⟨T.heap.size, rfl, cls, ce, locs, hx U hWs.alike f1 (fun q hq => f2 q hq (fun z hz => nomatch hz)), hce, hO.vm, hcl, hWs, hall, hf⟩⟩
  refine st1 _ ?_
  show Steps p.tables e below (T1.setTop { method := m, pc := pc + 3, locals := ls, stack := .ref T.heap.size :: rest, locked := none }) _
  jvm_step X₁.here [X₁.here.top, hexec, d3', Value.category]
  exact X₁.ldcStringW hexec (own := own) (text := text) (index := is) (a := sa) hown' hstr'.1 hstr'.2
    (g := { method := m, pc := pc + 4, locals := ls, stack := .ref T.heap.size :: .ref T.heap.size :: rest, locked := none }) rfl d4' _ hsteps
end Ends
section Bodies
variable {l : Launch}
theorem vx_ofW {y : MethodName} {ws ws' : List Cond} {rm : Room} {Pc : Array Value → State → Prop} {Qc : Array Value → State → Outcome → State → Prop} {XC : String → State → State → Prop} {mc ms : Nat} {free : Addr → Prop} {cc : ByteArray} {maxL : Nat} {ret : Option FieldType}
    (hy : plainName y.cls = true) (hw : ws = Cond.code y cc maxL ret :: ws')
    (body : ∀ p e s m args below meth c s₁, BodyLoose p l y (headSpec ws rm) cc maxL ret e s m args below meth c s₁ → c.maxLocals = maxL → (∀ x ∈ c.exceptionTable.toList, False) → Pc args s →
      W p l e (headSpec ws rm).room s m args below meth c s.heap [] 0 0 (vx_MQ below Qc XC args s mc ms free) (entryFrame m args maxL)) : vx_Met l y ws rm Pc Qc XC mc ms free := by
  refine MetFree.of_bodyS (code := cc) (maxLocals := maxL) (ret := ret) hy ?_ ?_
  · intro args s m h hn
    obtain ⟨meth, c, h1, h2, h3, h4, h5, h6, -, -⟩ := Cond.code_spec hn (atoms_spec (ws := ws) h _ (by rw [hw]; exact List.mem_cons_self))
    exact ⟨meth, c, h1, h2, h3, h4, h5, h6⟩
  · intro p e s m args below meth c s₁ B hml hP _
    have hh0 : s₁.heap = s.heap := by rw [B.state]; rfl
    have ht : ∀ x ∈ c.exceptionTable.toList, False := by
      obtain ⟨meth9, c9, h1, h2, -, -, -, -, h7, -⟩ := Cond.code_spec B.named (atoms_spec (ws := ws) B.pre _ (by rw [hw]; exact List.mem_cons_self))
      cases Option.some.inj (h1.symm.trans B.method)
      cases Option.some.inj (h2.symm.trans (Stand.of_body B).code)
      intro x hx
      rw [Array.isEmpty_iff.mp h7] at hx
      cases hx
    obtain ⟨t, a1, o, b1, b2, b3⟩ := body p e s m args below meth c s₁ B hml ht hP s₁ hh0 (Stand.of_body B)
    exact ⟨t, o, a1, b1, b2, b3⟩
/-- the table of a body with handlers -/
theorem vx_table {p : Program} {x y : MethodName} {S : Spec} {cc bytes : ByteArray} {maxL maxL' : Nat} {ret ret' : Option FieldType} {e : Env} {s s₁ : State} {m : MethodId} {args : Array Value} {below : List Frame} {meth : Method} {c : Code} {hh : List (Nat × Nat × Nat × Nat)}
    (B : BodyLoose p l y S cc maxL ret e s m args below meth c s₁) (h : (Cond.codeWith y bytes maxL' ret' hh).before args s = true) : c.exceptionTable.toList = tableOf hh := by
  obtain ⟨m9, meth9, c9, hn9, h1, h2, -, -, h6, -⟩ := Cond.codeWith_spec h
  cases Option.some.inj (hn9.symm.trans B.named)
  cases Option.some.inj (h1.symm.trans B.method)
  cases Option.some.inj (h2.symm.trans (Stand.of_body B).code)
  rw [← h6, table_eq]
end Bodies
end VXA
/-! ===== END ===== -/
/-! ===== BEGIN a static call of a method with an exception table ===== -/
section VXS
variable {p : Program} {l : Launch} {e : Env} {R : Room} {s : State} {m : MethodId} {args : Array Value} {below : List Frame} {meth : Method} {c : Code} {T : State} {H : Heap} {locs : List Loc} {cells slots : Nat}
abbrev vx_CSW (R : Room) (s : State) (args : Array Value) (own : String) (index : Nat) (y : MethodName) (bytes : ByteArray) (maxL : Nat) (ret : Option FieldType) (hh : List (Nat × Nat × Nat × Nat)) (ws : List Cond) (rm : Room) (mc ms n : Nat) : Prop :=
  (rm.cells = mc ∧ rm.slots = ms ∧ rm.frames + 1 ≤ R.frames ∧ 8 + (maxL + 11) + rm.locals ≤ R.locals ∧ (∀ w ∈ ws, ∀ (a' : Array Value) (U : State), s.WarmedH U.vm → w.before a' U = true) ∧ Cond.codeWith y bytes maxL ret hh ∈ ws) ∧
  (Cond.codeWith y bytes maxL ret hh).before args s = true ∧ (Cond.initialized y.cls).before args s = true ∧ (y.cls ≠ "java/lang/invoke/MethodHandle" ∧ y.cls ≠ "java/lang/invoke/VarHandle") ∧
  (∀ sig, parseMethodDescriptor y.desc = some sig → n = sig.parameters.length) ∧ (Cond.methodLink own index y).before args s = true ∧ (Cond.static y).before args s = true
theorem vx_cwSW {own : String} {index maxL mc ms : Nat} {y : MethodName} {bytes : ByteArray} {ret : Option FieldType} {hh : List (Nat × Nat × Nat × Nat)} {Ts ws ws' : List Cond} {rm : Room} (n : Nat) (ht : ∀ w ∈ Ts, w.before args s = true) (hT : GoodIn Ts (va_wsS own index y ws)) (hw : ws = Cond.codeWith y bytes maxL ret hh :: ws') (hrc : rm.cells = mc) (hrs : rm.slots = ms)
    (hd : y.cls ≠ "java/lang/invoke/MethodHandle" ∧ y.cls ≠ "java/lang/invoke/VarHandle" ∧ (parseMethodDescriptor y.desc).map (fun d => d.parameters.length) = some n) (hR : rm.frames + 1 ≤ R.frames ∧ 8 + (maxL + 11) + rm.locals ≤ R.locals) :
    vx_CSW R s args own index y bytes maxL ret hh ws rm mc ms n := by
  have ok : ∀ w ∈ va_wsS own index y ws, w.before args s = true := fun w h => ht w (hT w h).1
  have hG : GoodIn Ts ws := fun w h => hT w (by unfold va_wsS; exact List.mem_append_right _ h)
  have hc : Cond.codeWith y bytes maxL ret hh ∈ ws := by rw [hw]; exact List.mem_cons_self
  refine ⟨⟨hrc, hrs, hR.1, hR.2, pay_in ht hG, hc⟩, ht _ (hG _ hc).1, ok _ (by simp [va_wsS]), ⟨hd.1, hd.2.1⟩, fun sig h => ?_, ok _ (by simp [va_wsS]), ok _ (by simp [va_wsS])⟩
  have h2 := hd.2.2
  rw [h] at h2
  exact (Option.some.inj h2).symm
theorem vx_callSW (X : Stand p l e R s m args below meth c T locs cells slots) (hexec : p.tables.exec = Jvm.exec) {own : String} {index : Nat} {y : MethodName} {bytes : ByteArray} {maxL : Nat} {ret : Option FieldType} {hh : List (Nat × Nat × Nat × Nat)}
    (hown : s.vm.findClass own = some m.cls) (hlink : (Cond.methodLink own index y).before args s = true) (hstat : (Cond.static y).before args s = true) (hinit : (Cond.initialized y.cls).before args s = true)
    (hcode : (Cond.codeWith y bytes maxL ret hh).before args s = true) (hy : y.cls ≠ "java/lang/invoke/MethodHandle" ∧ y.cls ≠ "java/lang/invoke/VarHandle")
    {W9 : Nat} {Pre : Pt → Array Value → Prop} {Post : Pt → Array Value → Option Value → Pt → Prop} (hK : Back l R p e below s args y 3 W9 Pre Post)
    {g : JFrame} (hg : g.method = m) (hsize : g.locals.size = c.maxLocals) {argsL rest : List Value} (hlen : ∀ sig, parseMethodDescriptor y.desc = some sig → argsL.length = sig.parameters.length)
    (hstack : g.stack = argsL.reverse ++ rest) (hW : 2 * g.monitorRoom + (rest.map fun v => v.category).sum ≤ W9) (hdg : decode c.code g.pc = .ok (.invokestatic index, 3))
    (hpre : ∀ vm₁, s.WarmedH vm₁ → Pre ⟨T.setVm vm₁, locs, cells, slots⟩ argsL.toArray) :
    ∃ (v : Option Value) (vm₁ : Vm) (B : Pt), s.WarmedH vm₁ ∧ Stand p l e R s m args below meth c B.U B.locs B.cells B.slots ∧ Post ⟨T.setVm vm₁, locs, cells, slots⟩ argsL.toArray v B ∧
      ∀ target, Steps p.tables e below (B.U.setTop { g with pc := g.pc + 3, stack := v.toList ++ rest }) target → Steps p.tables e below (T.setTop g) target := by
  obtain ⟨mk, methM, cM, hnamed, hmethM, -, -, -, -, -, -, hsigM⟩ := Cond.codeWith_spec hcode
  have hstatic : methM.isStatic = true := Cond.static_spec hnamed hmethM hstat
  obtain ⟨kP, hkP, -⟩ := className_of_methodNamed hnamed
  have hinitP : kP.init = .initialized := Cond.initialized_spec (findClass_of_methodNamed hnamed) hkP hinit
  obtain ⟨vm₁, X₁, hstep₁⟩ := X.invokestatic hexec hown hlink hnamed hmethM hstatic hkP hinitP hy (g := g) hg (argsL := argsL) (rest := rest) (hlen _ hsigM) hstack hdg
  obtain ⟨v, B, X', hpost, hsteps⟩ := hK m meth c ⟨T.setVm vm₁, locs, cells, slots⟩ { g with stack := rest } (.invokestatic index) mk argsL.toArray X₁ hg hsize hdg hW (X₁.named hnamed) (hpre vm₁ X₁.warmed)
  exact ⟨v, vm₁, B, X₁.warmed, X', hpost, fun target h => hstep₁ _ fun acts => by rw [doInvoke_state]; exact hsteps.trans h⟩
theorem vx_runSW {y : MethodName} {bytes cc : ByteArray} {maxL nL mc ms n index : Nat} {ret : Option FieldType} {hh : List (Nat × Nat × Nat × Nat)} {ws : List Cond} {rm : Room} {Pc : Array Value → State → Prop} {Qc : Array Value → State → Outcome → State → Prop} {free : Addr → Prop} {Ts : List Cond} {own : String} {As rest : List Value} {g : JFrame}
    (S : CallFix p m c cc nL s args Ts own) (hM : Met l y ws rm Pc Qc mc ms free) (cw : vx_CSW R s args own index y bytes maxL ret hh ws rm mc ms n) (hp : PreS s H Pc As)
    (hg : g.method = m) (hn : As.length = n) (hsize : g.locals.size = nL) (hstack : g.stack = As.reverse ++ rest) (hW : 2 * g.monitorRoom + (rest.map fun v => v.category).sum ≤ 8) (hdg : decode cc g.pc = .ok (.invokestatic index, 3)) (hf : cells + mc ≤ R.cells ∧ slots + ms ≤ R.slots) :
    va_Run p l e R s m args below meth c H locs cells slots mc ms g rest (Qc As.toArray) (free) := by
  obtain ⟨⟨hrc, hrs, hfr, hlo, hws, hcw⟩, hcode, hini, hy, hlen, hl, hstt⟩ := cw
  have hK : Back l R p e below s args y 3 8 (PreOf R mc ms Pc) (PostOf Qc mc ms free) := va_backW (hh := hh) (bytes := bytes) (maxL := maxL) (ret := ret) hM hp.1 hrc hrs hfr hlo hws hcw (fun a' U hW => word_at hW (Or.inl (by first | rfl | simp [Cond.onTables, Cond.keeps, Cond.steady])) hini)
  obtain ⟨hx, hb, hml, ho, -⟩ := S
  intro T hT X
  obtain ⟨v, vm₁, ⟨U', l2, c2, s2⟩, hW₁, X', ⟨g', mk, t, L, e1, e2, hq, h1, hL, h2, h3⟩, st⟩ := vx_callSW X hx (hh := hh) (bytes := bytes) (maxL := maxL) (ret := ret) ho hl hstt hini hcode hy hK hg (hsize.trans hml.symm) (argsL := As) (rest := rest) (fun sig h => hn.trans (hlen sig h)) hstack hW (by rw [hb]; exact hdg)
    (fun vm₁ hW₁ => ⟨hf.1, hf.2, hp.2 (T.setVm vm₁) hT hW₁⟩)
  dsimp only [Pt.U, Pt.locs, Pt.cells, Pt.slots] at X' e1 e2 h1 h2 h3 st
  subst h1; subst h2; subst h3
  exact ⟨v, (T.setVm vm₁).calling g' mk As.toArray, t, U', L, hT, X', hL, e1, e2, hq, st⟩
/-- a thing of a world lies in the heap -/
theorem vx_lt {D : va_G} {cl : List vw_C} {ws : va_W} {H1 : Heap} (h : va_P D cl ws H1) {k : Nat} {q : Nat × va_E} (hk : ws[k]? = some q) : q.1 < H1.size := (h k q hk).lt
end VXS
/-! ===== END ===== -/
/-! ===== BEGIN methods with a table of their own: called by a name, returning or throwing ===== -/
section VXH
/-! vx_backW, vx_callVX, vx_callSX, vx_callVW, vx_runVW, vx_runVX, vx_runSX, vx_ofWH follow the same proofs as their sisters above (Free/Laws.lean, Shelf42/LK1.lean); vx_outP calls Shelf42/NT130.lean (outThrough). -/
section
variable {l : Launch} {R : Room} {p : Program} {e : Env} {below : List Frame} {s : State} {sargs : Array Value} {y : MethodName} {len W9 : Nat}
theorem vx_backW {ws : List Cond} {rm : Room} {Pc : Array Value → State → Prop} {Qc : Array Value → State → Outcome → State → Prop} {XC : String → State → State → Prop} {mc ms : Nat} {free : Addr → Prop} {bytes : ByteArray} {maxL : Nat} {ret : Option FieldType} {hh : List (Nat × Nat × Nat × Nat)}
    (hM : vx_Met l y ws rm Pc Qc XC mc ms free) (hblind : FrameBlind Pc) (hrc : rm.cells = mc) (hrs : rm.slots = ms)
    (hframes : rm.frames + 1 ≤ R.frames) (hlocals : W9 + (maxL + 11) + rm.locals ≤ R.locals)
    (hws : ∀ w ∈ ws, ∀ a' U, s.WarmedH U.vm → w.before a' U = true) (hcode : Cond.codeWith y bytes maxL ret hh ∈ ws) (hinit : ∀ a' U, s.WarmedH U.vm → (Cond.initialized y.cls).before a' U = true) :
    vx_Back l R p e below s sargs y len W9 (PreOf R mc ms Pc) (PostOf Qc mc ms free) (vx_Post XC mc ms free) := by
  intro m meth c A g ig mk a X hg hsize hdg hW hn hp
  have h1 : (headSpec ws rm).pre.before a A.U = true := atoms_intro fun w hw => hws w hw _ _ X.warmed
  have h2 : (Cond.codeWith y bytes maxL ret hh).before a A.U = true := hws _ hcode _ _ X.warmed
  have h3 : (Cond.initialized y.cls).before a A.U = true := hinit _ _ X.warmed
  have h4 : A.cells + (headSpec ws rm).room.cells ≤ R.cells := by rw [show (headSpec ws rm).room.cells = mc from hrc]; exact hp.1
  have h5 : A.slots + (headSpec ws rm).room.slots ≤ R.slots := by rw [show (headSpec ws rm).room.slots = ms from hrs]; exact hp.2.1
  have hPc : Pc a (A.U.calling g mk a) := hblind _ _ _ _ hp.2.2
  obtain ⟨U, Ls, c0, s0⟩ := A
  dsimp only [Pt.U, Pt.locs, Pt.cells, Pt.slots] at h1 h2 h3 h4 h5 X hn hPc ⊢
  obtain ⟨m9, methY, cY, hn9, hmY, hcY, -, hlY, -⟩ := Cond.codeWith_spec h2
  cases Option.some.inj (hn9.symm.trans hn)
  obtain ⟨kY, hkY, -⟩ := className_of_methodNamed hn
  have hinitY : kY.init = .initialized := Cond.initialized_spec (findClass_of_methodNamed hn) hkY h3
  have h : At U g.method c below := by rw [hg]; exact X.here
  have hlocals9 : W9 + (maxL + 11) + (headSpec ws rm).room.locals ≤ R.locals := hlocals
  have happ : (headSpec ws rm).appliesLoose y e.platform (U.calling g mk a) = true :=
    Spec.appliesLoose_calling (g := g) h hdg hn hkY hinitY
      (X.room_calling (g := g) (R' := (headSpec ws rm).room) hsize hmY hcY hframes (by rw [hlY]; omega) h4 h5) h1
  obtain ⟨mid, hmid⟩ := h.above
  have hfr : (U.setTop g).frames = (.java g :: mid) ++ below := by rw [State.frames_setTop' g h.top, hmid]; rfl
  obtain ⟨o, s₂, hsteps, -, hend, hq⟩ := Steps.callFree hM p X.admits X.cas X.clock (acts := []) hfr happ hPc trivial
  have hq' : vx_Q Qc XC mc ms free a (U.calling g mk a) o s₂ := hq
  rw [State.frames_setTop' g h.top] at hend
  obtain ⟨g₀, hg0⟩ := Option.isSome_iff_exists.mp h.top
  obtain ⟨r, hr⟩ := State.topJava?_eq_some.mp hg0
  have hr' : (({ U with heap := s₂.heap, slotsUsed := s₂.slotsUsed } : State).setVm s₂.vm).frames = .java g₀ :: r := hr
  rcases hq' with ⟨hqc, L, hfe, hL⟩ | ⟨q, rfl, E, ce, L, hx, hce, hcv, hcl, hW₂, hsm, hL⟩
  · obtain ⟨⟨v, rfl⟩, hW₂, e2, q2, q3, q4, q5, q6⟩ := id hfe
    have e3 : s₂ = ({ (U.calling g mk a).setFrames s₂.frames with heap := s₂.heap, slotsUsed := s₂.slotsUsed } : State).setVm s₂.vm := by
      have : s₂ = ({ s₂ with vm := (U.calling g mk a).vm } : State).setVm s₂.vm := rfl
      rw [e2] at this
      exact this
    obtain ⟨c₂, i₂, len₂, hc₂, hd₂, hf₂⟩ := hend
    have hW' : U.WarmedH s₂.vm := hW₂
    have hcc : c₂ = c := by
      have h1 : s₂.code? g.method = U.code? g.method := by
        rw [State.code?_eq, State.code?_eq, hW'.alike.method?]
      exact Option.some.inj (hc₂.symm.trans (h1.trans h.code))
    subst hcc
    have hlen : len₂ = len := by rw [hdg] at hd₂; cases hd₂; rfl
    subst hlen
    have hs₂ : s₂ = (({ U with heap := s₂.heap, slotsUsed := s₂.slotsUsed } : State).setVm s₂.vm).setTop { g with pc := g.pc + len₂, stack := v.toList ++ g.stack } := by
      refine e3.trans ?_
      rw [hf₂, State.calling_eq h.top, State.setFrames_setFrames, State.setTop_of_frames _ hr', hr]
      rfl
    have hsame : U.sameButNew ({ U with heap := s₂.heap, slotsUsed := s₂.slotsUsed } : State) L mc ms := by
      refine ⟨?_, q2, q3, q4, q5, q6⟩
      obtain ⟨t, ht, -⟩ := State.frames_cons hr
      show ({ U with heap := s₂.heap, slotsUsed := s₂.slotsUsed } : State) = { U.setFrames U.frames with heap := s₂.heap, slotsUsed := s₂.slotsUsed }
      rw [State.setFrames_self ht]
    subst hg
    refine Or.inl ⟨v, ⟨(({ U with heap := s₂.heap, slotsUsed := s₂.slotsUsed } : State).setVm s₂.vm), Ls ++ L, c0 + mc, s0 + ms⟩,
      ⟨X.admits, X.cas, X.clock, X.frames, X.room, X.hears, X.method, X.code, (X.here.setHeapUsed s₂.heap s₂.slotsUsed).setVm hW'.alike, X.tail, State.WarmedH.trans X.warmed hW', X.limits, X.bytes, X.same.trans (hsame.setVm s.vm)⟩,
      ⟨g, mk, s₂, L, rfl, rfl, hqc, rfl, hL, rfl, rfl⟩, ?_⟩
    show Steps p.tables e below _ ((({ U with heap := s₂.heap, slotsUsed := s₂.slotsUsed } : State).setVm s₂.vm).setTop { g with pc := g.pc + len₂, stack := v.toList ++ g.stack })
    rw [← hs₂]
    exact hsteps
  · obtain ⟨e2, q2, q3, q4, q5, q6⟩ := id hsm
    have e3 : s₂ = ({ (U.calling g mk a).setFrames s₂.frames with heap := s₂.heap, slotsUsed := s₂.slotsUsed } : State).setVm s₂.vm := by
      have : s₂ = ({ s₂ with vm := (U.calling g mk a).vm } : State).setVm s₂.vm := rfl
      rw [e2] at this
      exact this
    have hf₂ : s₂.frames = .throwing q :: .java g :: U.frames.tail := hend
    have hW' : U.WarmedH s₂.vm := hW₂
    have hs₂ : s₂ = ((({ U with heap := s₂.heap, slotsUsed := s₂.slotsUsed } : State).setVm s₂.vm).setTop g).pushFrame (.throwing q) := by
      refine e3.trans ?_
      rw [hf₂, State.calling_eq h.top, State.setFrames_setFrames, State.pushFrame, State.frames_setTop _ hr', State.setTop_of_frames _ hr', State.setFrames_setFrames, hr]
      rfl
    have hsame : U.sameButNew ({ U with heap := s₂.heap, slotsUsed := s₂.slotsUsed } : State) L mc ms := by
      refine ⟨?_, q2, q3, q4, q5, q6⟩
      obtain ⟨t, ht, -⟩ := State.frames_cons hr
      show ({ U with heap := s₂.heap, slotsUsed := s₂.slotsUsed } : State) = { U.setFrames U.frames with heap := s₂.heap, slotsUsed := s₂.slotsUsed }
      rw [State.setFrames_self ht]
    subst hg
    refine Or.inr ⟨q, ⟨(({ U with heap := s₂.heap, slotsUsed := s₂.slotsUsed } : State).setVm s₂.vm), Ls ++ L, c0 + mc, s0 + ms⟩,
      ⟨X.admits, X.cas, X.clock, X.frames, X.room, X.hears, X.method, X.code, (X.here.setHeapUsed s₂.heap s₂.slotsUsed).setVm hW'.alike, X.tail, State.WarmedH.trans X.warmed hW', X.limits, X.bytes, X.same.trans (hsame.setVm s.vm)⟩,
      ⟨g, mk, s₂, L, E, ce, rfl, rfl, hx, hce, hcv, hcl, rfl, hL, rfl, rfl⟩, ?_⟩
    show Steps p.tables e below _ (((({ U with heap := s₂.heap, slotsUsed := s₂.slotsUsed } : State).setVm s₂.vm).setTop g).pushFrame (.throwing q))
    rw [← hs₂]
    exact hsteps
end
variable {p : Program} {l : Launch} {e : Env} {R : Room} {s : State} {m : MethodId} {args : Array Value} {below : List Frame} {meth : Method} {c : Code} {T : State} {H : Heap} {locs : List Loc} {cells slots : Nat}
theorem vx_callVX (X : Stand p l e R s m args below meth c T locs cells slots) (hexec : p.tables.exec = Jvm.exec) {own C : String} {index : Nat} {y : MethodName} {bytes : ByteArray} {maxL : Nat} {ret : Option FieldType} {hh : List (Nat × Nat × Nat × Nat)}
    (hown : s.vm.findClass own = some m.cls) (hlink : (Cond.methodLink own index y).before args s = true) (hinst : (Cond.instanceMethod y).before args s = true) (hsel : (Cond.selects C y y).before args s = true)
    (hcode : (Cond.codeWith y bytes maxL ret hh).before args s = true) (hy : y.cls ≠ "java/lang/invoke/MethodHandle" ∧ y.cls ≠ "java/lang/invoke/VarHandle")
    {W9 : Nat} {Pre : Pt → Array Value → Prop} {Post : Pt → Array Value → Option Value → Pt → Prop} {PostX : Pt → Array Value → Addr → Pt → Prop} (hK : vx_Back l R p e below s args y 3 W9 Pre Post PostX)
    {b : Addr} {cellB : Cell} (hcell : T.heap[b]? = some cellB) (hobj : cellB.vm.isStatics = false) (hcls : s.vm.findClass C = some cellB.cls)
    {g : JFrame} (hg : g.method = m) (hsize : g.locals.size = c.maxLocals) {argsL rest : List Value} (hlen : ∀ sig, parseMethodDescriptor y.desc = some sig → argsL.length = sig.parameters.length)
    (hstack : g.stack = argsL.reverse ++ .ref b :: rest) (hW : 2 * g.monitorRoom + (rest.map fun v => v.category).sum ≤ W9) (hdg : decode c.code g.pc = .ok (.invokevirtual index, 3))
    (hpre : ∀ vm₁, s.WarmedH vm₁ → Pre ⟨T.setVm vm₁, locs, cells, slots⟩ (Value.ref b :: argsL).toArray) :
    (∃ (v : Option Value) (vm₁ : Vm) (B : Pt), s.WarmedH vm₁ ∧ Stand p l e R s m args below meth c B.U B.locs B.cells B.slots ∧ Post ⟨T.setVm vm₁, locs, cells, slots⟩ (Value.ref b :: argsL).toArray v B ∧
      ∀ target, Steps p.tables e below (B.U.setTop { g with pc := g.pc + 3, stack := v.toList ++ rest }) target → Steps p.tables e below (T.setTop g) target) ∨
    (∃ (q : Addr) (vm₁ : Vm) (B : Pt), s.WarmedH vm₁ ∧ Stand p l e R s m args below meth c B.U B.locs B.cells B.slots ∧ PostX ⟨T.setVm vm₁, locs, cells, slots⟩ (Value.ref b :: argsL).toArray q B ∧
      Steps p.tables e below (T.setTop g) ((B.U.setTop { g with stack := rest }).pushFrame (.throwing q))) := by
  obtain ⟨mk, methM, hnamed, hmethM, hstM, habM⟩ := Cond.instanceMethod_spec hinst
  obtain ⟨m8, methM', cM, hn8, hmethM', -, -, -, -, -, -, hsigM⟩ := Cond.codeWith_spec hcode
  cases Option.some.inj (hn8.symm.trans hnamed)
  cases hmethM.symm.trans hmethM'
  obtain ⟨c2, r2, m2, q1, q2, q3, q4, kP, hkP, hkPi⟩ := Cond.selects_spec hsel
  cases hcls.symm.trans q1
  cases (State.methodFound?_of_named hnamed hy).symm.trans q2
  cases hnamed.symm.trans q3
  have hselP : selectMethod e.platform s.vm cellB.cls mk = .method mk := by rw [Launch.admits_selectMethod X.admits]; exact q4
  obtain ⟨vm₁, X₁, hstep₁⟩ := X.invokevirtual hexec hown hlink hnamed hmethM hstM hkP hkPi hy (a := b) (cell := cellB) hcell
    (fun z h => by rw [h] at hobj; cases hobj) hselP hmethM habM hkP hkPi (g := g) hg (argsL := argsL) (rest := rest) (hlen _ hsigM) hstack hdg
  rcases hK m meth c ⟨T.setVm vm₁, locs, cells, slots⟩ { g with stack := rest } (.invokevirtual index) mk (Value.ref b :: argsL).toArray X₁ hg hsize hdg hW (X₁.named hnamed) (hpre vm₁ X₁.warmed) with ⟨v, B, X', hpost, hsteps⟩ | ⟨q, B, X', hpost, hsteps⟩
  · exact Or.inl ⟨v, vm₁, B, X₁.warmed, X', hpost, fun target h => hstep₁ _ fun acts => by rw [doInvoke_state]; exact hsteps.trans h⟩
  · exact Or.inr ⟨q, vm₁, B, X₁.warmed, X', hpost, hstep₁ _ fun acts => by rw [doInvoke_state]; exact hsteps⟩
theorem vx_callSX (X : Stand p l e R s m args below meth c T locs cells slots) (hexec : p.tables.exec = Jvm.exec) {own : String} {index : Nat} {y : MethodName} {bytes : ByteArray} {maxL : Nat} {ret : Option FieldType} {hh : List (Nat × Nat × Nat × Nat)}
    (hown : s.vm.findClass own = some m.cls) (hlink : (Cond.methodLink own index y).before args s = true) (hstat : (Cond.static y).before args s = true) (hinit : (Cond.initialized y.cls).before args s = true)
    (hcode : (Cond.codeWith y bytes maxL ret hh).before args s = true) (hy : y.cls ≠ "java/lang/invoke/MethodHandle" ∧ y.cls ≠ "java/lang/invoke/VarHandle")
    {W9 : Nat} {Pre : Pt → Array Value → Prop} {Post : Pt → Array Value → Option Value → Pt → Prop} {PostX : Pt → Array Value → Addr → Pt → Prop} (hK : vx_Back l R p e below s args y 3 W9 Pre Post PostX)
    {g : JFrame} (hg : g.method = m) (hsize : g.locals.size = c.maxLocals) {argsL rest : List Value} (hlen : ∀ sig, parseMethodDescriptor y.desc = some sig → argsL.length = sig.parameters.length)
    (hstack : g.stack = argsL.reverse ++ rest) (hW : 2 * g.monitorRoom + (rest.map fun v => v.category).sum ≤ W9) (hdg : decode c.code g.pc = .ok (.invokestatic index, 3))
    (hpre : ∀ vm₁, s.WarmedH vm₁ → Pre ⟨T.setVm vm₁, locs, cells, slots⟩ argsL.toArray) :
    (∃ (v : Option Value) (vm₁ : Vm) (B : Pt), s.WarmedH vm₁ ∧ Stand p l e R s m args below meth c B.U B.locs B.cells B.slots ∧ Post ⟨T.setVm vm₁, locs, cells, slots⟩ argsL.toArray v B ∧
      ∀ target, Steps p.tables e below (B.U.setTop { g with pc := g.pc + 3, stack := v.toList ++ rest }) target → Steps p.tables e below (T.setTop g) target) ∨
    (∃ (q : Addr) (vm₁ : Vm) (B : Pt), s.WarmedH vm₁ ∧ Stand p l e R s m args below meth c B.U B.locs B.cells B.slots ∧ PostX ⟨T.setVm vm₁, locs, cells, slots⟩ argsL.toArray q B ∧
      Steps p.tables e below (T.setTop g) ((B.U.setTop { g with stack := rest }).pushFrame (.throwing q))) := by
  obtain ⟨mk, methM, cM, hnamed, hmethM, -, -, -, -, -, -, hsigM⟩ := Cond.codeWith_spec hcode
  have hstatic : methM.isStatic = true := Cond.static_spec hnamed hmethM hstat
  obtain ⟨kP, hkP, -⟩ := className_of_methodNamed hnamed
  have hinitP : kP.init = .initialized := Cond.initialized_spec (findClass_of_methodNamed hnamed) hkP hinit
  obtain ⟨vm₁, X₁, hstep₁⟩ := X.invokestatic hexec hown hlink hnamed hmethM hstatic hkP hinitP hy (g := g) hg (argsL := argsL) (rest := rest) (hlen _ hsigM) hstack hdg
  rcases hK m meth c ⟨T.setVm vm₁, locs, cells, slots⟩ { g with stack := rest } (.invokestatic index) mk argsL.toArray X₁ hg hsize hdg hW (X₁.named hnamed) (hpre vm₁ X₁.warmed) with ⟨v, B, X', hpost, hsteps⟩ | ⟨q, B, X', hpost, hsteps⟩
  · exact Or.inl ⟨v, vm₁, B, X₁.warmed, X', hpost, fun target h => hstep₁ _ fun acts => by rw [doInvoke_state]; exact hsteps.trans h⟩
  · exact Or.inr ⟨q, vm₁, B, X₁.warmed, X', hpost, hstep₁ _ fun acts => by rw [doInvoke_state]; exact hsteps⟩
theorem vx_callVW (X : Stand p l e R s m args below meth c T locs cells slots) (hexec : p.tables.exec = Jvm.exec) {own C : String} {index : Nat} {y : MethodName} {bytes : ByteArray} {maxL : Nat} {ret : Option FieldType} {hh : List (Nat × Nat × Nat × Nat)}
    (hown : s.vm.findClass own = some m.cls) (hlink : (Cond.methodLink own index y).before args s = true) (hinst : (Cond.instanceMethod y).before args s = true) (hsel : (Cond.selects C y y).before args s = true)
    (hcode : (Cond.codeWith y bytes maxL ret hh).before args s = true) (hy : y.cls ≠ "java/lang/invoke/MethodHandle" ∧ y.cls ≠ "java/lang/invoke/VarHandle")
    {W9 : Nat} {Pre : Pt → Array Value → Prop} {Post : Pt → Array Value → Option Value → Pt → Prop} (hK : Back l R p e below s args y 3 W9 Pre Post)
    {b : Addr} {cellB : Cell} (hcell : T.heap[b]? = some cellB) (hobj : cellB.vm.isStatics = false) (hcls : s.vm.findClass C = some cellB.cls)
    {g : JFrame} (hg : g.method = m) (hsize : g.locals.size = c.maxLocals) {argsL rest : List Value} (hlen : ∀ sig, parseMethodDescriptor y.desc = some sig → argsL.length = sig.parameters.length)
    (hstack : g.stack = argsL.reverse ++ .ref b :: rest) (hW : 2 * g.monitorRoom + (rest.map fun v => v.category).sum ≤ W9) (hdg : decode c.code g.pc = .ok (.invokevirtual index, 3))
    (hpre : ∀ vm₁, s.WarmedH vm₁ → Pre ⟨T.setVm vm₁, locs, cells, slots⟩ (Value.ref b :: argsL).toArray) :
    ∃ (v : Option Value) (vm₁ : Vm) (B : Pt), s.WarmedH vm₁ ∧ Stand p l e R s m args below meth c B.U B.locs B.cells B.slots ∧ Post ⟨T.setVm vm₁, locs, cells, slots⟩ (Value.ref b :: argsL).toArray v B ∧
      ∀ target, Steps p.tables e below (B.U.setTop { g with pc := g.pc + 3, stack := v.toList ++ rest }) target → Steps p.tables e below (T.setTop g) target := by
  obtain ⟨mk, methM, hnamed, hmethM, hstM, habM⟩ := Cond.instanceMethod_spec hinst
  obtain ⟨m8, methM', cM, hn8, hmethM', -, -, -, -, -, -, hsigM⟩ := Cond.codeWith_spec hcode
  cases Option.some.inj (hn8.symm.trans hnamed)
  cases hmethM.symm.trans hmethM'
  obtain ⟨c2, r2, m2, q1, q2, q3, q4, kP, hkP, hkPi⟩ := Cond.selects_spec hsel
  cases hcls.symm.trans q1
  cases (State.methodFound?_of_named hnamed hy).symm.trans q2
  cases hnamed.symm.trans q3
  have hselP : selectMethod e.platform s.vm cellB.cls mk = .method mk := by rw [Launch.admits_selectMethod X.admits]; exact q4
  obtain ⟨vm₁, X₁, hstep₁⟩ := X.invokevirtual hexec hown hlink hnamed hmethM hstM hkP hkPi hy (a := b) (cell := cellB) hcell
    (fun z h => by rw [h] at hobj; cases hobj) hselP hmethM habM hkP hkPi (g := g) hg (argsL := argsL) (rest := rest) (hlen _ hsigM) hstack hdg
  obtain ⟨v, B, X', hpost, hsteps⟩ := hK m meth c ⟨T.setVm vm₁, locs, cells, slots⟩ { g with stack := rest } (.invokevirtual index) mk (Value.ref b :: argsL).toArray X₁ hg hsize hdg hW (X₁.named hnamed) (hpre vm₁ X₁.warmed)
  exact ⟨v, vm₁, B, X₁.warmed, X', hpost, fun target h => hstep₁ _ fun acts => by rw [doInvoke_state]; exact hsteps.trans h⟩
abbrev vx_CVW (R : Room) (s : State) (args : Array Value) (own C : String) (index : Nat) (y : MethodName) (bytes : ByteArray) (maxL : Nat) (ret : Option FieldType) (hh : List (Nat × Nat × Nat × Nat)) (ws : List Cond) (rm : Room) (mc ms n : Nat) : Prop :=
  (rm.cells = mc ∧ rm.slots = ms ∧ rm.frames + 1 ≤ R.frames ∧ 8 + (maxL + 11) + rm.locals ≤ R.locals ∧ (∀ w ∈ ws, ∀ (a' : Array Value) (U : State), s.WarmedH U.vm → w.before a' U = true) ∧ Cond.codeWith y bytes maxL ret hh ∈ ws) ∧
  (Cond.codeWith y bytes maxL ret hh).before args s = true ∧ (Cond.initialized y.cls).before args s = true ∧ (y.cls ≠ "java/lang/invoke/MethodHandle" ∧ y.cls ≠ "java/lang/invoke/VarHandle") ∧
  (∀ sig, parseMethodDescriptor y.desc = some sig → n = sig.parameters.length) ∧ (Cond.methodLink own index y).before args s = true ∧ (Cond.instanceMethod y).before args s = true ∧ (Cond.selects C y y).before args s = true
theorem vx_cwVW {own C : String} {index maxL mc ms : Nat} {y : MethodName} {bytes : ByteArray} {ret : Option FieldType} {hh : List (Nat × Nat × Nat × Nat)} {Ts ws ws' : List Cond} {rm : Room} (n : Nat) (ht : ∀ w ∈ Ts, w.before args s = true) (hT : GoodIn Ts (wsV own index C y ws)) (hw : ws = Cond.codeWith y bytes maxL ret hh :: ws') (hrc : rm.cells = mc) (hrs : rm.slots = ms)
    (hd : y.cls = C ∧ y.cls ≠ "java/lang/invoke/MethodHandle" ∧ y.cls ≠ "java/lang/invoke/VarHandle" ∧ (parseMethodDescriptor y.desc).map (fun d => d.parameters.length) = some n) (hR : rm.frames + 1 ≤ R.frames ∧ 8 + (maxL + 11) + rm.locals ≤ R.locals) :
    vx_CVW R s args own C index y bytes maxL ret hh ws rm mc ms n := by
  obtain ⟨hC, hd⟩ := hd
  subst hC
  have ok : ∀ w ∈ wsV own index y.cls y ws, w.before args s = true := fun w h => ht w (hT w h).1
  have hG : GoodIn Ts ws := fun w h => hT w (by unfold wsV; exact List.mem_append_right _ h)
  have hc : Cond.codeWith y bytes maxL ret hh ∈ ws := by rw [hw]; exact List.mem_cons_self
  refine ⟨⟨hrc, hrs, hR.1, hR.2, pay_in ht hG, hc⟩, ht _ (hG _ hc).1, ok _ (by simp [wsV]), ⟨hd.1, hd.2.1⟩, fun sig h => ?_, ok _ (by simp [wsV]), ok _ (by simp [wsV]), ok _ (by simp [wsV])⟩
  have h2 := hd.2.2
  rw [h] at h2
  exact (Option.some.inj h2).symm
theorem vx_runVW {y : MethodName} {bytes cc : ByteArray} {maxL nL mc ms n index : Nat} {ret : Option FieldType} {hh : List (Nat × Nat × Nat × Nat)} {ws : List Cond} {rm : Room} {Pc : Array Value → State → Prop} {Qc : Array Value → State → Outcome → State → Prop} {free : Addr → Prop} {Ts : List Cond} {own C : String} {b : Addr} {As rest : List Value} {g : JFrame}
    (S : CallFix p m c cc nL s args Ts own) (hM : Met l y ws rm Pc Qc mc ms free) (cw : vx_CVW R s args own C index y bytes maxL ret hh ws rm mc ms n) (hp : PreV s H C b Pc As)
    (hg : g.method = m) (hn : As.length = n) (hsize : g.locals.size = nL) (hstack : g.stack = As.reverse ++ .ref b :: rest) (hW : 2 * g.monitorRoom + (rest.map fun v => v.category).sum ≤ 8) (hdg : decode cc g.pc = .ok (.invokevirtual index, 3)) (hf : cells + mc ≤ R.cells ∧ slots + ms ≤ R.slots) :
    va_Run p l e R s m args below meth c H locs cells slots mc ms g rest (Qc (Value.ref b :: As).toArray) free := by
  obtain ⟨⟨hrc, hrs, hfr, hlo, hws, hcw⟩, hcode, hini, hy, hlen, hl, hin, hse⟩ := cw
  have hK : Back l R p e below s args y 3 8 (PreOf R mc ms Pc) (PostOf Qc mc ms free) := va_backW (hh := hh) (bytes := bytes) (maxL := maxL) (ret := ret) hM hp.1 hrc hrs hfr hlo hws hcw (fun a' U hW => word_at hW (Or.inl (by first | rfl | simp [Cond.onTables, Cond.keeps, Cond.steady])) hini)
  obtain ⟨hx, hb, hml, ho, -⟩ := S
  obtain ⟨-, ⟨cellB, hcB, hoB, hclB⟩, hPc⟩ := hp
  intro T hT X
  obtain ⟨v, vm₁, ⟨U', l2, c2, s2⟩, hW₁, X', ⟨g', mk, t, L, e1, e2, hq, h1, hL, h2, h3⟩, st⟩ := vx_callVW X hx (C := C) (hh := hh) (bytes := bytes) (maxL := maxL) (ret := ret) ho hl hin hse hcode hy hK (by rw [hT]; exact hcB) hoB hclB hg (hsize.trans hml.symm) (argsL := As) (rest := rest) (fun sig h => hn.trans (hlen sig h)) hstack hW (by rw [hb]; exact hdg)
    (fun vm₁ hW₁ => ⟨hf.1, hf.2, hPc (T.setVm vm₁) hT hW₁⟩)
  dsimp only [Pt.U, Pt.locs, Pt.cells, Pt.slots] at X' e1 e2 h1 h2 h3 st
  subst h1; subst h2; subst h3
  exact ⟨v, (T.setVm vm₁).calling g' mk (Value.ref b :: As).toArray, t, U', L, hT, X', hL, e1, e2, hq, st⟩
section
variable {y : MethodName} {bytes cc : ByteArray} {maxL nL mc ms n index : Nat} {ret : Option FieldType} {ws : List Cond} {rm : Room} {Pc : Array Value → State → Prop} {Qc : Array Value → State → Outcome → State → Prop} {XC : String → State → State → Prop} {free : Addr → Prop} {Ts : List Cond} {own C : String} {b : Addr} {As rest : List Value} {g : JFrame}
theorem vx_runVX {hh : List (Nat × Nat × Nat × Nat)} (S : CallFix p m c cc nL s args Ts own) (hM : vx_Met l y ws rm Pc Qc XC mc ms free) (cw : vx_CVW R s args own C index y bytes maxL ret hh ws rm mc ms n) (hp : PreV s H C b Pc As)
    (hg : g.method = m) (hn : As.length = n) (hsize : g.locals.size = nL) (hstack : g.stack = As.reverse ++ .ref b :: rest) (hW : 2 * g.monitorRoom + (rest.map fun v => v.category).sum ≤ 8) (hdg : decode cc g.pc = .ok (.invokevirtual index, 3)) (hf : cells + mc ≤ R.cells ∧ slots + ms ≤ R.slots) :
    vx_Run p l e R s m args below meth c H locs cells slots mc ms g rest (Qc (Value.ref b :: As).toArray) XC free := by
  obtain ⟨⟨hrc, hrs, hfr, hlo, hws, hcw⟩, hcode, hini, hy, hlen, hl, hin, hse⟩ := cw
  have hK : vx_Back l R p e below s args y 3 8 (PreOf R mc ms Pc) (PostOf Qc mc ms free) (vx_Post XC mc ms free) := vx_backW (hh := hh) (bytes := bytes) (maxL := maxL) (ret := ret) hM hp.1 hrc hrs hfr hlo hws hcw (fun a' U hW => word_at hW (Or.inl (by first | rfl | simp [Cond.onTables, Cond.keeps, Cond.steady])) hini)
  obtain ⟨hx, hb, hml, ho, -⟩ := S
  obtain ⟨-, ⟨cellB, hcB, hoB, hclB⟩, hPc⟩ := hp
  intro T hT X
  rcases vx_callVX X hx (C := C) (hh := hh) (bytes := bytes) (maxL := maxL) (ret := ret) ho hl hin hse hcode hy hK (by rw [hT]; exact hcB) hoB hclB hg (hsize.trans hml.symm) (argsL := As) (rest := rest) (fun sig h => hn.trans (hlen sig h)) hstack hW (by rw [hb]; exact hdg)
    (fun vm₁ hW₁ => ⟨hf.1, hf.2, hPc (T.setVm vm₁) hT hW₁⟩) with ⟨v, vm₁, ⟨U', l2, c2, s2⟩, hW₁, X', ⟨g', mk, t, L, e1, e2, hq, h1, hL, h2, h3⟩, st⟩ | ⟨q, vm₁, ⟨U', l2, c2, s2⟩, hW₁, X', ⟨g', mk, t, L, E, ce, e1, e2, hq, hce, hcv, hcl, h1, hL, h2, h3⟩, st⟩
  · dsimp only [Pt.U, Pt.locs, Pt.cells, Pt.slots] at X' e1 e2 h1 h2 h3 st
    subst h1; subst h2; subst h3
    exact Or.inl ⟨v, (T.setVm vm₁).calling g' mk (Value.ref b :: As).toArray, t, U', L, hT, X', hL, e1, e2, hq, st⟩
  · dsimp only [Pt.U, Pt.locs, Pt.cells, Pt.slots] at X' e1 e2 h1 h2 h3 st hcl
    subst h1; subst h2; subst h3
    exact Or.inr ⟨q, (T.setVm vm₁).calling g' mk (Value.ref b :: As).toArray, t, U', L, E, ce, hT, X', hL, e1, e2, hq, hce, hcv, vx_cls hW₁ hcl, st⟩
theorem vx_runSX {hh : List (Nat × Nat × Nat × Nat)} (S : CallFix p m c cc nL s args Ts own) (hM : vx_Met l y ws rm Pc Qc XC mc ms free) (cw : vx_CSW R s args own index y bytes maxL ret hh ws rm mc ms n) (hp : PreS s H Pc As)
    (hg : g.method = m) (hn : As.length = n) (hsize : g.locals.size = nL) (hstack : g.stack = As.reverse ++ rest) (hW : 2 * g.monitorRoom + (rest.map fun v => v.category).sum ≤ 8) (hdg : decode cc g.pc = .ok (.invokestatic index, 3)) (hf : cells + mc ≤ R.cells ∧ slots + ms ≤ R.slots) :
    vx_Run p l e R s m args below meth c H locs cells slots mc ms g rest (Qc As.toArray) XC free := by
  obtain ⟨⟨hrc, hrs, hfr, hlo, hws, hcw⟩, hcode, hini, hy, hlen, hl, hstt⟩ := cw
  have hK : vx_Back l R p e below s args y 3 8 (PreOf R mc ms Pc) (PostOf Qc mc ms free) (vx_Post XC mc ms free) := vx_backW (hh := hh) (bytes := bytes) (maxL := maxL) (ret := ret) hM hp.1 hrc hrs hfr hlo hws hcw (fun a' U hW => word_at hW (Or.inl (by first | rfl | simp [Cond.onTables, Cond.keeps, Cond.steady])) hini)
  obtain ⟨hx, hb, hml, ho, -⟩ := S
  intro T hT X
  rcases vx_callSX X hx (hh := hh) (bytes := bytes) (maxL := maxL) (ret := ret) ho hl hstt hini hcode hy hK hg (hsize.trans hml.symm) (argsL := As) (rest := rest) (fun sig h => hn.trans (hlen sig h)) hstack hW (by rw [hb]; exact hdg)
    (fun vm₁ hW₁ => ⟨hf.1, hf.2, hp.2 (T.setVm vm₁) hT hW₁⟩) with ⟨v, vm₁, ⟨U', l2, c2, s2⟩, hW₁, X', ⟨g', mk, t, L, e1, e2, hq, h1, hL, h2, h3⟩, st⟩ | ⟨q, vm₁, ⟨U', l2, c2, s2⟩, hW₁, X', ⟨g', mk, t, L, E, ce, e1, e2, hq, hce, hcv, hcl, h1, hL, h2, h3⟩, st⟩
  · dsimp only [Pt.U, Pt.locs, Pt.cells, Pt.slots] at X' e1 e2 h1 h2 h3 st
    subst h1; subst h2; subst h3
    exact Or.inl ⟨v, (T.setVm vm₁).calling g' mk As.toArray, t, U', L, hT, X', hL, e1, e2, hq, st⟩
  · dsimp only [Pt.U, Pt.locs, Pt.cells, Pt.slots] at X' e1 e2 h1 h2 h3 st hcl
    subst h1; subst h2; subst h3
    exact Or.inr ⟨q, (T.setVm vm₁).calling g' mk As.toArray, t, U', L, E, ce, hT, X', hL, e1, e2, hq, hce, hcv, vx_cls hW₁ hcl, st⟩
end
end VXH
theorem vx_ofWH {l : Launch} {y : MethodName} {ws ws' : List Cond} {rm : Room} {Pc : Array Value → State → Prop} {Qc : Array Value → State → Outcome → State → Prop} {XC : String → State → State → Prop} {mc ms : Nat} {free : Addr → Prop} {cc : ByteArray} {maxL : Nat} {ret : Option FieldType} {hh : List (Nat × Nat × Nat × Nat)}
    (hy : plainName y.cls = true) (hw : ws = Cond.codeWith y cc maxL ret hh :: ws')
    (body : ∀ p e s m args below meth c s₁, BodyLoose p l y (headSpec ws rm) cc maxL ret e s m args below meth c s₁ → c.maxLocals = maxL → Pc args s →
      W p l e (headSpec ws rm).room s m args below meth c s.heap [] 0 0 (vx_MQ below Qc XC args s mc ms free) (entryFrame m args maxL)) : vx_Met l y ws rm Pc Qc XC mc ms free := by
  refine MetFree.of_bodyS (code := cc) (maxLocals := maxL) (ret := ret) hy ?_ ?_
  · intro args s m h hn
    obtain ⟨m9, meth, c, hn9, h1, h2, h3, h4, -, h5, h6, -⟩ := Cond.codeWith_spec (atoms_spec (ws := ws) h _ (by rw [hw]; exact List.mem_cons_self))
    cases hn.symm.trans hn9
    exact ⟨meth, c, h1, h2, h3, h4, h5, h6⟩
  · intro p e s m args below meth c s₁ B hml hP _
    have hh0 : s₁.heap = s.heap := by rw [B.state]; rfl
    obtain ⟨t, a1, o, b1, b2, b3⟩ := body p e s m args below meth c s₁ B hml hP s₁ hh0 (Stand.of_body B)
    exact ⟨t, o, a1, b1, b2, b3⟩
/-! ===== END ===== -/
end
section
def RX0 : String := "VeiledFiles$Book"
def TX0 : u_T := fun k => match k with
  | 0 => ("VeiledFiles$Book", "names", "[J", true)
  | 1 => ("VeiledFiles$Book", "lengths", "[I", true)
  | 2 => ("VeiledFiles$Book", "partBlocks", "[I", true)
  | _ => ("VeiledFiles$Book", "taken", "[Z", true)
def tyX0 : Nat → FieldType := fun k => match k with
  | 0 => .array .long
  | 1 => .array .int
  | 2 => .array .int
  | _ => .array .boolean
abbrev wsX00 : List Cond := u_ws RX0 TX0 4
theorem nmX0 : ∀ a, a < 4 → ∀ b, b < 4 → a ≠ b → (TX0 a).2.1 ≠ (TX0 b).2.1 := by decide +kernel
theorem tyX0_ok : ∀ k, k < 4 → parseFieldDescriptor (TX0 k).2.2.1 = some (tyX0 k) := by decide +kernel
abbrev cX0_init : ByteArray := prog_2_method_1_code
def yX0_init : MethodName := ⟨RX0, "<init>", "()V"⟩
abbrev cX0_empty : ByteArray := prog_2_method_2_code
def yX0_empty : MethodName := ⟨RX0, "empty", "()V"⟩
abbrev cX0_add : ByteArray := prog_2_method_3_code
def yX0_add : MethodName := ⟨RX0, "add", "(J)I"⟩
abbrev cX0_numberOf : ByteArray := prog_2_method_4_code
def yX0_numberOf : MethodName := ⟨RX0, "numberOf", "(J)I"⟩
abbrev cX0_drop : ByteArray := prog_2_method_5_code
def yX0_drop : MethodName := ⟨RX0, "drop", "(I)Z"⟩
abbrev cX0_lengthOf : ByteArray := prog_2_method_6_code
def yX0_lengthOf : MethodName := ⟨RX0, "lengthOf", "(I)I"⟩
abbrev cX0_blockToRead : ByteArray := prog_2_method_7_code
def yX0_blockToRead : MethodName := ⟨RX0, "blockToRead", "(II)I"⟩
abbrev cX0_blockToWrite : ByteArray := prog_2_method_8_code
def yX0_blockToWrite : MethodName := ⟨RX0, "blockToWrite", "(II)I"⟩
abbrev cX0_opensPart : ByteArray := prog_2_method_9_code
def yX0_opensPart : MethodName := ⟨RX0, "opensPart", "(II)Z"⟩
abbrev cX0_noteWritten : ByteArray := prog_2_method_10_code
def yX0_noteWritten : MethodName := ⟨RX0, "noteWritten", "(III)V"⟩
abbrev cX0_countFiles : ByteArray := prog_2_method_11_code
def yX0_countFiles : MethodName := ⟨RX0, "countFiles", "()I"⟩
abbrev cX0_countFreeBlocks : ByteArray := prog_2_method_12_code
def yX0_countFreeBlocks : MethodName := ⟨RX0, "countFreeBlocks", "()I"⟩
abbrev cX0_partAt : ByteArray := prog_2_method_13_code
def yX0_partAt : MethodName := ⟨RX0, "partAt", "(II)I"⟩
abbrev cX0_leastFreeNumber : ByteArray := prog_2_method_14_code
def yX0_leastFreeNumber : MethodName := ⟨RX0, "leastFreeNumber", "()I"⟩
abbrev cX0_leastFreeBlock : ByteArray := prog_2_method_15_code
def yX0_leastFreeBlock : MethodName := ⟨RX0, "leastFreeBlock", "()I"⟩
def RX1 : String := "VeiledFiles$Dice"
def TX1 : u_T := fun k => match k with
  | _ => ("VeiledFiles$Dice", "word", "I", false)
def tyX1 : Nat → FieldType := fun k => match k with
  | _ => .int
abbrev wsX10 : List Cond := u_ws RX1 TX1 1
theorem nmX1 : ∀ a, a < 1 → ∀ b, b < 1 → a ≠ b → (TX1 a).2.1 ≠ (TX1 b).2.1 := by decide +kernel
theorem tyX1_ok : ∀ k, k < 1 → parseFieldDescriptor (TX1 k).2.2.1 = some (tyX1 k) := by decide +kernel
abbrev cX1_init : ByteArray := prog_3_method_1_code
def yX1_init : MethodName := ⟨RX1, "<init>", "()V"⟩
abbrev cX1_begin : ByteArray := prog_3_method_2_code
def yX1_begin : MethodName := ⟨RX1, "begin", "(I)V"⟩
abbrev cX1_draw : ByteArray := prog_3_method_3_code
def yX1_draw : MethodName := ⟨RX1, "draw", "(I)I"⟩
def RX2 : String := "VeiledFiles$Trail"
def TX2 : u_T := fun k => match k with
  | 0 => ("VeiledFiles$Trail", "mapLeaf", "[I", true)
  | 1 => ("VeiledFiles$Trail", "dataLeaf", "[I", true)
  | _ => ("VeiledFiles$Trail", "count", "I", false)
def tyX2 : Nat → FieldType := fun k => match k with
  | 0 => .array .int
  | 1 => .array .int
  | _ => .int
abbrev wsX20 : List Cond := u_ws RX2 TX2 3
theorem nmX2 : ∀ a, a < 3 → ∀ b, b < 3 → a ≠ b → (TX2 a).2.1 ≠ (TX2 b).2.1 := by decide +kernel
theorem tyX2_ok : ∀ k, k < 3 → parseFieldDescriptor (TX2 k).2.2.1 = some (tyX2 k) := by decide +kernel
abbrev cX2_init : ByteArray := prog_4_method_1_code
def yX2_init : MethodName := ⟨RX2, "<init>", "()V"⟩
abbrev cX2_empty : ByteArray := prog_4_method_2_code
def yX2_empty : MethodName := ⟨RX2, "empty", "()V"⟩
abbrev cX2_add : ByteArray := prog_4_method_3_code
def yX2_add : MethodName := ⟨RX2, "add", "(I)V"⟩
abbrev cX2_setDataLeaf : ByteArray := prog_4_method_4_code
def yX2_setDataLeaf : MethodName := ⟨RX2, "setDataLeaf", "(I)V"⟩
abbrev cX2_countAll : ByteArray := prog_4_method_5_code
def yX2_countAll : MethodName := ⟨RX2, "countAll", "()I"⟩
abbrev cX2_leafOf : ByteArray := prog_4_method_6_code
def yX2_leafOf : MethodName := ⟨RX2, "leafOf", "(II)I"⟩
def RX3 : String := "VeiledFiles$Tree"
def TX3 : u_T := fun k => match k with
  | 0 => ("VeiledFiles$Tree", "number", "I", true)
  | 1 => ("VeiledFiles$Tree", "leafCount", "I", true)
  | 2 => ("VeiledFiles$Tree", "levels", "I", true)
  | 3 => ("VeiledFiles$Tree", "buckets", "I", true)
  | 4 => ("VeiledFiles$Tree", "blocks", "I", true)
  | 5 => ("VeiledFiles$Tree", "store", "[I", true)
  | 6 => ("VeiledFiles$Tree", "counters", "[I", true)
  | 7 => ("VeiledFiles$Tree", "held", "[Z", true)
  | 8 => ("VeiledFiles$Tree", "leaves", "[I", true)
  | 9 => ("VeiledFiles$Tree", "words", "[I", true)
  | _ => ("VeiledFiles$Tree", "key", "I", false)
def tyX3 : Nat → FieldType := fun k => match k with
  | 0 => .int
  | 1 => .int
  | 2 => .int
  | 3 => .int
  | 4 => .int
  | 5 => .array .int
  | 6 => .array .int
  | 7 => .array .boolean
  | 8 => .array .int
  | 9 => .array .int
  | _ => .int
abbrev wsX30 : List Cond := u_ws RX3 TX3 11
theorem nmX3 : ∀ a, a < 11 → ∀ b, b < 11 → a ≠ b → (TX3 a).2.1 ≠ (TX3 b).2.1 := by decide +kernel
theorem tyX3_ok : ∀ k, k < 11 → parseFieldDescriptor (TX3 k).2.2.1 = some (tyX3 k) := by decide +kernel
abbrev cX3_init : ByteArray := prog_5_method_1_code
def yX3_init : MethodName := ⟨RX3, "<init>", "(III)V"⟩
abbrev cX3_empty : ByteArray := prog_5_method_2_code
def yX3_empty : MethodName := ⟨RX3, "empty", "(I)V"⟩
abbrev cX3_settleAll : ByteArray := prog_5_method_3_code
def yX3_settleAll : MethodName := ⟨RX3, "settleAll", "()V"⟩
abbrev cX3_hasBucket : ByteArray := prog_5_method_4_code
def yX3_hasBucket : MethodName := ⟨RX3, "hasBucket", "(I)Z"⟩
abbrev cX3_hasStored : ByteArray := prog_5_method_5_code
def yX3_hasStored : MethodName := ⟨RX3, "hasStored", "(II)Z"⟩
abbrev cX3_storedWord : ByteArray := prog_5_method_6_code
def yX3_storedWord : MethodName := ⟨RX3, "storedWord", "(II)I"⟩
abbrev cX3_timesSealed : ByteArray := prog_5_method_7_code
def yX3_timesSealed : MethodName := ⟨RX3, "timesSealed", "(I)I"⟩
abbrev cX3_countHeld : ByteArray := prog_5_method_8_code
def yX3_countHeld : MethodName := ⟨RX3, "countHeld", "()I"⟩
abbrev cX3_spoil : ByteArray := prog_5_method_9_code
def yX3_spoil : MethodName := ⟨RX3, "spoil", "(III)Z"⟩
abbrev cX3_moveTo : ByteArray := prog_5_method_10_code
def yX3_moveTo : MethodName := ⟨RX3, "moveTo", "(II)V"⟩
abbrev cX3_wordOf : ByteArray := prog_5_method_11_code
def yX3_wordOf : MethodName := ⟨RX3, "wordOf", "(II)I"⟩
abbrev cX3_setWord : ByteArray := prog_5_method_12_code
def yX3_setWord : MethodName := ⟨RX3, "setWord", "(III)V"⟩
abbrev cX3_clearWords : ByteArray := prog_5_method_13_code
def yX3_clearWords : MethodName := ⟨RX3, "clearWords", "(I)V"⟩
abbrev cX3_take : ByteArray := prog_5_method_14_code
def yX3_take : MethodName := ⟨RX3, "take", "(I)Z"⟩
abbrev cX3_putBack : ByteArray := prog_5_method_15_code
def yX3_putBack : MethodName := ⟨RX3, "putBack", "(I)V"⟩
abbrev cX3_bucketOver : ByteArray := prog_5_method_16_code
def yX3_bucketOver : MethodName := ⟨RX3, "bucketOver", "(II)I"⟩
abbrev cX3_settle : ByteArray := prog_5_method_17_code
def yX3_settle : MethodName := ⟨RX3, "settle", "(I)V"⟩
abbrev cX3_load : ByteArray := prog_5_method_18_code
def yX3_load : MethodName := ⟨RX3, "load", "(II)V"⟩
abbrev cX3_place : ByteArray := prog_5_method_19_code
def yX3_place : MethodName := ⟨RX3, "place", "(III)V"⟩
abbrev cX3_unload : ByteArray := prog_5_method_20_code
def yX3_unload : MethodName := ⟨RX3, "unload", "(I)V"⟩
abbrev cX3_hold : ByteArray := prog_5_method_21_code
def yX3_hold : MethodName := ⟨RX3, "hold", "(I)V"⟩
abbrev cX3_slotStart : ByteArray := prog_5_method_22_code
def yX3_slotStart : MethodName := ⟨RX3, "slotStart", "(II)I"⟩
abbrev cX3_seal : ByteArray := prog_5_method_23_code
def yX3_seal : MethodName := ⟨RX3, "seal", "(I)V"⟩
abbrev cX3_isWhole : ByteArray := prog_5_method_24_code
def yX3_isWhole : MethodName := ⟨RX3, "isWhole", "(I)Z"⟩
abbrev cX3_maskWords : ByteArray := prog_5_method_25_code
def yX3_maskWords : MethodName := ⟨RX3, "maskWords", "(I)V"⟩
abbrev cX3_tagDue : ByteArray := prog_5_method_26_code
def yX3_tagDue : MethodName := ⟨RX3, "tagDue", "(I)I"⟩
abbrev cX3_pad : ByteArray := prog_5_method_27_code
def yX3_pad : MethodName := ⟨RX3, "pad", "(II)I"⟩
def RX4 : String := "VeiledFiles"
def TX4 : u_T := fun k => match k with
  | 0 => ("VeiledFiles", "dice", "LVeiledFiles$Dice;", true)
  | 1 => ("VeiledFiles", "map", "LVeiledFiles$Tree;", true)
  | 2 => ("VeiledFiles", "data", "LVeiledFiles$Tree;", true)
  | 3 => ("VeiledFiles", "mapLeaves", "[I", true)
  | 4 => ("VeiledFiles", "book", "LVeiledFiles$Book;", true)
  | 5 => ("VeiledFiles", "trail", "LVeiledFiles$Trail;", true)
  | _ => ("VeiledFiles", "dead", "Z", false)
def tyX4 : Nat → FieldType := fun k => match k with
  | 0 => .object "VeiledFiles$Dice"
  | 1 => .object "VeiledFiles$Tree"
  | 2 => .object "VeiledFiles$Tree"
  | 3 => .array .int
  | 4 => .object "VeiledFiles$Book"
  | 5 => .object "VeiledFiles$Trail"
  | _ => .boolean
abbrev wsX40 : List Cond := u_ws RX4 TX4 7
theorem nmX4 : ∀ a, a < 7 → ∀ b, b < 7 → a ≠ b → (TX4 a).2.1 ≠ (TX4 b).2.1 := by decide +kernel
theorem tyX4_ok : ∀ k, k < 7 → parseFieldDescriptor (TX4 k).2.2.1 = some (tyX4 k) := by decide +kernel
abbrev cX4_init : ByteArray := prog_1_method_1_code
def yX4_init : MethodName := ⟨RX4, "<init>", "()V"⟩
abbrev cX4_start : ByteArray := prog_1_method_2_code
def yX4_start : MethodName := ⟨RX4, "start", "(II)V"⟩
abbrev cX4_create : ByteArray := prog_1_method_3_code
def yX4_create : MethodName := ⟨RX4, "create", "(J)I"⟩
abbrev cX4_find : ByteArray := prog_1_method_4_code
def yX4_find : MethodName := ⟨RX4, "find", "(J)I"⟩
abbrev cX4_remove : ByteArray := prog_1_method_5_code
def yX4_remove : MethodName := ⟨RX4, "remove", "(I)Z"⟩
abbrev cX4_size : ByteArray := prog_1_method_6_code
def yX4_size : MethodName := ⟨RX4, "size", "(I)I"⟩
abbrev cX4_write : ByteArray := prog_1_method_7_code
def yX4_write : MethodName := ⟨RX4, "write", "(III)V"⟩
abbrev cX4_read : ByteArray := prog_1_method_8_code
def yX4_read : MethodName := ⟨RX4, "read", "(II)I"⟩
abbrev cX4_idle : ByteArray := prog_1_method_9_code
def yX4_idle : MethodName := ⟨RX4, "idle", "()V"⟩
abbrev cX4_sealed : ByteArray := prog_1_method_10_code
def yX4_sealed : MethodName := ⟨RX4, "sealed", "(III)I"⟩
abbrev cX4_alter : ByteArray := prog_1_method_11_code
def yX4_alter : MethodName := ⟨RX4, "alter", "(IIII)Z"⟩
abbrev cX4_counter : ByteArray := prog_1_method_12_code
def yX4_counter : MethodName := ⟨RX4, "counter", "(II)I"⟩
abbrev cX4_trace : ByteArray := prog_1_method_13_code
def yX4_trace : MethodName := ⟨RX4, "trace", "(II)I"⟩
abbrev cX4_stash : ByteArray := prog_1_method_14_code
def yX4_stash : MethodName := ⟨RX4, "stash", "(I)I"⟩
abbrev cX4_state : ByteArray := prog_1_method_15_code
def yX4_state : MethodName := ⟨RX4, "state", "(I)I"⟩
abbrev cX4_treeNumbered : ByteArray := prog_1_method_16_code
def yX4_treeNumbered : MethodName := ⟨RX4, "treeNumbered", "(I)LVeiledFiles$Tree;"⟩
abbrev cX4_beginAnew : ByteArray := prog_1_method_17_code
def yX4_beginAnew : MethodName := ⟨RX4, "beginAnew", "(II)V"⟩
abbrev cX4_drawAllLeaves : ByteArray := prog_1_method_18_code
def yX4_drawAllLeaves : MethodName := ⟨RX4, "drawAllLeaves", "()V"⟩
abbrev cX4_openPathOf : ByteArray := prog_1_method_19_code
def yX4_openPathOf : MethodName := ⟨RX4, "openPathOf", "(I)I"⟩
abbrev cX4_entryOf : ByteArray := prog_1_method_20_code
def yX4_entryOf : MethodName := ⟨RX4, "entryOf", "(I)I"⟩
abbrev cX4_setEntry : ByteArray := prog_1_method_21_code
def yX4_setEntry : MethodName := ⟨RX4, "setEntry", "(II)V"⟩
abbrev cX4_entryShift : ByteArray := prog_1_method_22_code
def yX4_entryShift : MethodName := ⟨RX4, "entryShift", "(I)I"⟩
def RX5 : String := "VeiledFilesModel"
def TX5 : u_T := fun k => match k with
  | 0 => ("VeiledFilesModel", "thrown", "I", false)
  | 1 => ("VeiledFilesModel", "word", "I", false)
  | 2 => ("VeiledFilesModel", "key", "I", false)
  | 3 => ("VeiledFilesModel", "dead", "Z", false)
  | 4 => ("VeiledFilesModel", "accesses", "I", false)
  | 5 => ("VeiledFilesModel", "sealed", "[I", true)
  | 6 => ("VeiledFilesModel", "counters", "[I", true)
  | 7 => ("VeiledFilesModel", "out", "[Z", true)
  | 8 => ("VeiledFilesModel", "leaf", "[I", true)
  | 9 => ("VeiledFilesModel", "words", "[I", true)
  | 10 => ("VeiledFilesModel", "mapLeaf", "[I", true)
  | 11 => ("VeiledFilesModel", "plain", "[I", true)
  | 12 => ("VeiledFilesModel", "traceL", "[I", true)
  | 13 => ("VeiledFilesModel", "traceM", "[I", true)
  | 14 => ("VeiledFilesModel", "there", "[Z", true)
  | 15 => ("VeiledFilesModel", "name", "[J", true)
  | 16 => ("VeiledFilesModel", "size", "[I", true)
  | 17 => ("VeiledFilesModel", "part", "[I", true)
  | 18 => ("VeiledFilesModel", "taken", "[Z", true)
  | _ => ("VeiledFilesModel", "got", "I", false)
def tyX5 : Nat → FieldType := fun k => match k with
  | 0 => .int
  | 1 => .int
  | 2 => .int
  | 3 => .boolean
  | 4 => .int
  | 5 => .array .int
  | 6 => .array .int
  | 7 => .array .boolean
  | 8 => .array .int
  | 9 => .array .int
  | 10 => .array .int
  | 11 => .array .int
  | 12 => .array .int
  | 13 => .array .int
  | 14 => .array .boolean
  | 15 => .array .long
  | 16 => .array .int
  | 17 => .array .int
  | 18 => .array .boolean
  | _ => .int
abbrev wsX50 : List Cond := u_ws RX5 TX5 20
theorem nmX5 : ∀ a, a < 20 → ∀ b, b < 20 → a ≠ b → (TX5 a).2.1 ≠ (TX5 b).2.1 := by decide +kernel
theorem tyX5_ok : ∀ k, k < 20 → parseFieldDescriptor (TX5 k).2.2.1 = some (tyX5 k) := by decide +kernel
abbrev cX5_init : ByteArray := prog_7_method_1_code
def yX5_init : MethodName := ⟨RX5, "<init>", "()V"⟩
abbrev cX5_thrown : ByteArray := prog_7_method_2_code
def yX5_thrown : MethodName := ⟨RX5, "thrown", "()I"⟩
abbrev cX5_raise : ByteArray := prog_7_method_3_code
def yX5_raise : MethodName := ⟨RX5, "raise", "(I)I"⟩
abbrev cX5_draw : ByteArray := prog_7_method_4_code
def yX5_draw : MethodName := ⟨RX5, "draw", "(I)I"⟩
abbrev cX5_buckets : ByteArray := prog_7_method_5_code
def yX5_buckets : MethodName := ⟨RX5, "buckets", "(I)I"⟩
abbrev cX5_levels : ByteArray := prog_7_method_6_code
def yX5_levels : MethodName := ⟨RX5, "levels", "(I)I"⟩
abbrev cX5_place : ByteArray := prog_7_method_7_code
def yX5_place : MethodName := ⟨RX5, "place", "(II)I"⟩
abbrev cX5_first : ByteArray := prog_7_method_8_code
def yX5_first : MethodName := ⟨RX5, "first", "(I)I"⟩
abbrev cX5_blocks : ByteArray := prog_7_method_9_code
def yX5_blocks : MethodName := ⟨RX5, "blocks", "(I)I"⟩
abbrev cX5_onPath : ByteArray := prog_7_method_10_code
def yX5_onPath : MethodName := ⟨RX5, "onPath", "(III)I"⟩
abbrev cX5_passes : ByteArray := prog_7_method_11_code
def yX5_passes : MethodName := ⟨RX5, "passes", "(III)Z"⟩
abbrev cX5_pad : ByteArray := prog_7_method_12_code
def yX5_pad : MethodName := ⟨RX5, "pad", "(III)I"⟩
abbrev cX5_tag : ByteArray := prog_7_method_13_code
def yX5_tag : MethodName := ⟨RX5, "tag", "(II)I"⟩
abbrev cX5_seal : ByteArray := prog_7_method_14_code
def yX5_seal : MethodName := ⟨RX5, "seal", "(II)V"⟩
abbrev cX5_clear : ByteArray := prog_7_method_15_code
def yX5_clear : MethodName := ⟨RX5, "clear", "()V"⟩
abbrev cX5_put : ByteArray := prog_7_method_16_code
def yX5_put : MethodName := ⟨RX5, "put", "(III)V"⟩
abbrev cX5_take : ByteArray := prog_7_method_17_code
def yX5_take : MethodName := ⟨RX5, "take", "(II)Z"⟩
abbrev cX5_plainWord : ByteArray := prog_7_method_18_code
def yX5_plainWord : MethodName := ⟨RX5, "plainWord", "(III)I"⟩
abbrev cX5_open : ByteArray := prog_7_method_19_code
def yX5_open : MethodName := ⟨RX5, "open", "(III)V"⟩
abbrev cX5_putBack : ByteArray := prog_7_method_20_code
def yX5_putBack : MethodName := ⟨RX5, "putBack", "(II)V"⟩
abbrev cX5_access : ByteArray := prog_7_method_21_code
def yX5_access : MethodName := ⟨RX5, "access", "(IIZZI)Z"⟩
abbrev cX5_begin : ByteArray := prog_7_method_22_code
def yX5_begin : MethodName := ⟨RX5, "begin", "(II)V"⟩
abbrev cX5_settle : ByteArray := prog_7_method_23_code
def yX5_settle : MethodName := ⟨RX5, "settle", "(II)V"⟩
abbrev cX5_start : ByteArray := prog_7_method_24_code
def yX5_start : MethodName := ⟨RX5, "start", "(II)V"⟩
abbrev cX5_isFile : ByteArray := prog_7_method_25_code
def yX5_isFile : MethodName := ⟨RX5, "isFile", "(I)Z"⟩
abbrev cX5_named : ByteArray := prog_7_method_26_code
def yX5_named : MethodName := ⟨RX5, "named", "(J)I"⟩
abbrev cX5_create : ByteArray := prog_7_method_27_code
def yX5_create : MethodName := ⟨RX5, "create", "(J)I"⟩
abbrev cX5_find : ByteArray := prog_7_method_28_code
def yX5_find : MethodName := ⟨RX5, "find", "(J)I"⟩
abbrev cX5_remove : ByteArray := prog_7_method_29_code
def yX5_remove : MethodName := ⟨RX5, "remove", "(I)Z"⟩
abbrev cX5_size : ByteArray := prog_7_method_30_code
def yX5_size : MethodName := ⟨RX5, "size", "(I)I"⟩
abbrev cX5_write : ByteArray := prog_7_method_31_code
def yX5_write : MethodName := ⟨RX5, "write", "(III)V"⟩
abbrev cX5_read : ByteArray := prog_7_method_32_code
def yX5_read : MethodName := ⟨RX5, "read", "(II)I"⟩
abbrev cX5_idle : ByteArray := prog_7_method_33_code
def yX5_idle : MethodName := ⟨RX5, "idle", "()V"⟩
abbrev cX5_isBucket : ByteArray := prog_7_method_34_code
def yX5_isBucket : MethodName := ⟨RX5, "isBucket", "(II)Z"⟩
abbrev cX5_sealed : ByteArray := prog_7_method_35_code
def yX5_sealed : MethodName := ⟨RX5, "sealed", "(III)I"⟩
abbrev cX5_alter : ByteArray := prog_7_method_36_code
def yX5_alter : MethodName := ⟨RX5, "alter", "(IIII)Z"⟩
abbrev cX5_counter : ByteArray := prog_7_method_37_code
def yX5_counter : MethodName := ⟨RX5, "counter", "(II)I"⟩
abbrev cX5_trace : ByteArray := prog_7_method_38_code
def yX5_trace : MethodName := ⟨RX5, "trace", "(II)I"⟩
abbrev cX5_stash : ByteArray := prog_7_method_39_code
def yX5_stash : MethodName := ⟨RX5, "stash", "(I)I"⟩
abbrev cX5_state : ByteArray := prog_7_method_40_code
def yX5_state : MethodName := ⟨RX5, "state", "(I)I"⟩
def RJ7 : String := "java/util/Arrays"
def TJ7 : u_T := fun k => match k with
  | _ => ("", "", "", false)
def tyJ7 : Nat → FieldType := fun k => match k with
  | _ => .int
abbrev wsJ70 : List Cond := u_ws RJ7 TJ7 0
theorem nmJ7 : ∀ a, a < 0 → ∀ b, b < 0 → a ≠ b → (TJ7 a).2.1 ≠ (TJ7 b).2.1 := by decide +kernel
theorem tyJ7_ok : ∀ k, k < 0 → parseFieldDescriptor (TJ7 k).2.2.1 = some (tyJ7 k) := by decide +kernel
abbrev cJ7_fill_53178 : ByteArray := prog_13_method_103_code
def yJ7_fill_53178 : MethodName := ⟨RJ7, "fill", "([II)V"⟩
def RL : String := "VeiledFilesLaw"
abbrev cL_write : ByteArray := method_3_code
def yL_write : MethodName := ⟨RL, "write", "(LVeiledFiles;III)I"⟩
abbrev cL_read : ByteArray := method_4_code
def yL_read : MethodName := ⟨RL, "read", "(LVeiledFiles;II[J)I"⟩
abbrev cL_idle : ByteArray := method_5_code
def yL_idle : MethodName := ⟨RL, "idle", "(LVeiledFiles;)I"⟩
abbrev cL_sealed : ByteArray := method_6_code
def yL_sealed : MethodName := ⟨RL, "sealed", "(LVeiledFiles;III[J)I"⟩
abbrev cL_law : ByteArray := code
def yL_law : MethodName := ⟨RL, "law", "([I)Z"⟩
def wsX0_init : List Cond := .code yX0_init cX0_init 1 none :: ([.methodLink RX0 5 objectInit, .instanceMethod objectInit, .code objectInit ⟨#[0xb1]⟩ 1 none, .arrayClass .long, .fieldLink RX0 11 "VeiledFiles$Book" "names" "[J", .arrayClass .int, .fieldLink RX0 15 "VeiledFiles$Book" "lengths" "[I", .fieldLink RX0 19 "VeiledFiles$Book" "partBlocks" "[I", .arrayClass .boolean, .fieldLink RX0 22 "VeiledFiles$Book" "taken" "[Z"] ++ wsX00)
def wsJ7_fill_53178 : List Cond := .code yJ7_fill_53178 cJ7_fill_53178 4 none :: ([])
def wsX0_empty : List Cond := .code yX0_empty cX0_empty 2 none :: ([.fieldLink RX0 15 "VeiledFiles$Book" "lengths" "[I", .fieldLink RX0 22 "VeiledFiles$Book" "taken" "[Z", .methodLink RX0 26 yJ7_fill_53178, .static yJ7_fill_53178, .initialized RJ7, .code yJ7_fill_53178 cJ7_fill_53178 4 none] ++ wsX00)
def wsX0_leastFreeNumber : List Cond := .code yX0_leastFreeNumber cX0_leastFreeNumber 2 (some .int) :: ([.fieldLink RX0 15 "VeiledFiles$Book" "lengths" "[I"] ++ wsX00)
def wsX0_numberOf : List Cond := .code yX0_numberOf cX0_numberOf 4 (some .int) :: ([.fieldLink RX0 15 "VeiledFiles$Book" "lengths" "[I", .fieldLink RX0 11 "VeiledFiles$Book" "names" "[J"] ++ wsX00)
def wsX0_add : List Cond := .code yX0_add cX0_add 4 (some .int) :: ([.fieldLink RX0 11 "VeiledFiles$Book" "names" "[J", .fieldLink RX0 15 "VeiledFiles$Book" "lengths" "[I", .methodLink RX0 32 yX0_leastFreeNumber, .instanceMethod yX0_leastFreeNumber, .selects RX0 yX0_leastFreeNumber yX0_leastFreeNumber, .initialized RX0, .code yX0_leastFreeNumber cX0_leastFreeNumber 2 (some .int), .methodLink RX0 36 yX0_numberOf, .instanceMethod yX0_numberOf, .selects RX0 yX0_numberOf yX0_numberOf, .code yX0_numberOf cX0_numberOf 4 (some .int)] ++ wsX00)
def wsX0_lengthOf : List Cond := .code yX0_lengthOf cX0_lengthOf 2 (some .int) :: ([.fieldLink RX0 15 "VeiledFiles$Book" "lengths" "[I"] ++ wsX00)
def wsX0_partAt : List Cond := .code yX0_partAt cX0_partAt 2 (some .int) :: ([])
def wsX0_drop : List Cond := .code yX0_drop cX0_drop 3 (some .boolean) :: ([.fieldLink RX0 15 "VeiledFiles$Book" "lengths" "[I", .fieldLink RX0 22 "VeiledFiles$Book" "taken" "[Z", .fieldLink RX0 19 "VeiledFiles$Book" "partBlocks" "[I", .methodLink RX0 40 yX0_lengthOf, .instanceMethod yX0_lengthOf, .selects RX0 yX0_lengthOf yX0_lengthOf, .initialized RX0, .code yX0_lengthOf cX0_lengthOf 2 (some .int), .methodLink RX0 44 yX0_partAt, .static yX0_partAt, .code yX0_partAt cX0_partAt 2 (some .int)] ++ wsX00)
def wsX0_blockToRead : List Cond := .code yX0_blockToRead cX0_blockToRead 3 (some .int) :: ([.fieldLink RX0 19 "VeiledFiles$Book" "partBlocks" "[I", .methodLink RX0 40 yX0_lengthOf, .instanceMethod yX0_lengthOf, .selects RX0 yX0_lengthOf yX0_lengthOf, .initialized RX0, .code yX0_lengthOf cX0_lengthOf 2 (some .int), .fieldLink RX0 15 "VeiledFiles$Book" "lengths" "[I", .methodLink RX0 44 yX0_partAt, .static yX0_partAt, .code yX0_partAt cX0_partAt 2 (some .int)] ++ wsX00)
def wsX0_opensPart : List Cond := .code yX0_opensPart cX0_opensPart 3 (some .boolean) :: ([.methodLink RX0 40 yX0_lengthOf, .instanceMethod yX0_lengthOf, .selects RX0 yX0_lengthOf yX0_lengthOf, .initialized RX0, .code yX0_lengthOf cX0_lengthOf 2 (some .int), .fieldLink RX0 15 "VeiledFiles$Book" "lengths" "[I"] ++ wsX00)
def wsX0_leastFreeBlock : List Cond := .code yX0_leastFreeBlock cX0_leastFreeBlock 2 (some .int) :: ([.fieldLink RX0 22 "VeiledFiles$Book" "taken" "[Z"] ++ wsX00)
def wsX0_blockToWrite : List Cond := .code yX0_blockToWrite cX0_blockToWrite 3 (some .int) :: ([.fieldLink RX0 19 "VeiledFiles$Book" "partBlocks" "[I", .methodLink RX0 40 yX0_lengthOf, .instanceMethod yX0_lengthOf, .selects RX0 yX0_lengthOf yX0_lengthOf, .initialized RX0, .code yX0_lengthOf cX0_lengthOf 2 (some .int), .fieldLink RX0 15 "VeiledFiles$Book" "lengths" "[I", .methodLink RX0 48 yX0_opensPart, .instanceMethod yX0_opensPart, .selects RX0 yX0_opensPart yX0_opensPart, .code yX0_opensPart cX0_opensPart 3 (some .boolean), .methodLink RX0 52 yX0_leastFreeBlock, .instanceMethod yX0_leastFreeBlock, .selects RX0 yX0_leastFreeBlock yX0_leastFreeBlock, .code yX0_leastFreeBlock cX0_leastFreeBlock 2 (some .int), .fieldLink RX0 22 "VeiledFiles$Book" "taken" "[Z", .methodLink RX0 44 yX0_partAt, .static yX0_partAt, .code yX0_partAt cX0_partAt 2 (some .int)] ++ wsX00)
def wsX0_noteWritten : List Cond := .code yX0_noteWritten cX0_noteWritten 4 none :: ([.fieldLink RX0 19 "VeiledFiles$Book" "partBlocks" "[I", .fieldLink RX0 22 "VeiledFiles$Book" "taken" "[Z", .fieldLink RX0 15 "VeiledFiles$Book" "lengths" "[I", .methodLink RX0 48 yX0_opensPart, .instanceMethod yX0_opensPart, .selects RX0 yX0_opensPart yX0_opensPart, .initialized RX0, .code yX0_opensPart cX0_opensPart 3 (some .boolean), .methodLink RX0 40 yX0_lengthOf, .instanceMethod yX0_lengthOf, .selects RX0 yX0_lengthOf yX0_lengthOf, .code yX0_lengthOf cX0_lengthOf 2 (some .int), .methodLink RX0 44 yX0_partAt, .static yX0_partAt, .code yX0_partAt cX0_partAt 2 (some .int)] ++ wsX00)
def wsX0_countFiles : List Cond := .code yX0_countFiles cX0_countFiles 3 (some .int) :: ([.fieldLink RX0 15 "VeiledFiles$Book" "lengths" "[I"] ++ wsX00)
def wsX0_countFreeBlocks : List Cond := .code yX0_countFreeBlocks cX0_countFreeBlocks 3 (some .int) :: ([.fieldLink RX0 22 "VeiledFiles$Book" "taken" "[Z"] ++ wsX00)
def wsX1_init : List Cond := .code yX1_init cX1_init 1 none :: ([.methodLink RX1 1 objectInit, .instanceMethod objectInit, .code objectInit ⟨#[0xb1]⟩ 1 none])
def wsX1_begin : List Cond := .code yX1_begin cX1_begin 2 none :: ([.fieldLink RX1 7 "VeiledFiles$Dice" "word" "I"] ++ wsX10)
def wsX1_draw : List Cond := .code yX1_draw cX1_draw 2 (some .int) :: ([.fieldLink RX1 7 "VeiledFiles$Dice" "word" "I"] ++ wsX10)
def wsX2_init : List Cond := .code yX2_init cX2_init 1 none :: ([.methodLink RX2 3 objectInit, .instanceMethod objectInit, .code objectInit ⟨#[0xb1]⟩ 1 none, .arrayClass .int, .fieldLink RX2 11 "VeiledFiles$Trail" "mapLeaf" "[I", .fieldLink RX2 15 "VeiledFiles$Trail" "dataLeaf" "[I"] ++ wsX20)
def wsX2_empty : List Cond := .code yX2_empty cX2_empty 1 none :: ([.fieldLink RX2 18 "VeiledFiles$Trail" "count" "I"] ++ wsX20)
def wsX2_add : List Cond := .code yX2_add cX2_add 2 none :: ([.fieldLink RX2 11 "VeiledFiles$Trail" "mapLeaf" "[I", .fieldLink RX2 18 "VeiledFiles$Trail" "count" "I", .fieldLink RX2 15 "VeiledFiles$Trail" "dataLeaf" "[I"] ++ wsX20)
def wsX2_setDataLeaf : List Cond := .code yX2_setDataLeaf cX2_setDataLeaf 2 none :: ([.fieldLink RX2 18 "VeiledFiles$Trail" "count" "I", .fieldLink RX2 15 "VeiledFiles$Trail" "dataLeaf" "[I"] ++ wsX20)
def wsX2_countAll : List Cond := .code yX2_countAll cX2_countAll 1 (some .int) :: ([.fieldLink RX2 18 "VeiledFiles$Trail" "count" "I"] ++ wsX20)
def wsX2_leafOf : List Cond := .code yX2_leafOf cX2_leafOf 4 (some .int) :: ([.fieldLink RX2 18 "VeiledFiles$Trail" "count" "I", .fieldLink RX2 11 "VeiledFiles$Trail" "mapLeaf" "[I", .fieldLink RX2 15 "VeiledFiles$Trail" "dataLeaf" "[I"] ++ wsX20)
def wsX3_init : List Cond := .code yX3_init cX3_init 4 none :: ([.methodLink RX3 3 objectInit, .instanceMethod objectInit, .code objectInit ⟨#[0xb1]⟩ 1 none, .fieldLink RX3 9 "VeiledFiles$Tree" "number" "I", .fieldLink RX3 15 "VeiledFiles$Tree" "leafCount" "I", .fieldLink RX3 18 "VeiledFiles$Tree" "levels" "I", .fieldLink RX3 21 "VeiledFiles$Tree" "buckets" "I", .fieldLink RX3 24 "VeiledFiles$Tree" "blocks" "I", .arrayClass .int, .fieldLink RX3 27 "VeiledFiles$Tree" "store" "[I", .fieldLink RX3 31 "VeiledFiles$Tree" "counters" "[I", .arrayClass .boolean, .fieldLink RX3 34 "VeiledFiles$Tree" "held" "[Z", .fieldLink RX3 38 "VeiledFiles$Tree" "leaves" "[I", .fieldLink RX3 41 "VeiledFiles$Tree" "words" "[I"] ++ wsX30)
def wsX3_empty : List Cond := .code yX3_empty cX3_empty 3 none :: ([.fieldLink RX3 44 "VeiledFiles$Tree" "key" "I", .fieldLink RX3 27 "VeiledFiles$Tree" "store" "[I", .fieldLink RX3 31 "VeiledFiles$Tree" "counters" "[I", .fieldLink RX3 41 "VeiledFiles$Tree" "words" "[I", .fieldLink RX3 24 "VeiledFiles$Tree" "blocks" "I", .fieldLink RX3 34 "VeiledFiles$Tree" "held" "[Z", .methodLink RX3 47 yJ7_fill_53178, .static yJ7_fill_53178, .initialized RJ7, .code yJ7_fill_53178 cJ7_fill_53178 4 none] ++ wsX30)
def wsX3_bucketOver : List Cond := .code yX3_bucketOver cX3_bucketOver 3 (some .int) :: ([.fieldLink RX3 15 "VeiledFiles$Tree" "leafCount" "I"] ++ wsX30)
def wsX3_slotStart : List Cond := .code yX3_slotStart cX3_slotStart 2 (some .int) :: ([])
def wsX3_wordOf : List Cond := .code yX3_wordOf cX3_wordOf 3 (some .int) :: ([.fieldLink RX3 41 "VeiledFiles$Tree" "words" "[I"] ++ wsX30)
def wsX3_place : List Cond := .code yX3_place cX3_place 6 none :: ([.fieldLink RX3 27 "VeiledFiles$Tree" "store" "[I", .fieldLink RX3 38 "VeiledFiles$Tree" "leaves" "[I", .fieldLink RX3 34 "VeiledFiles$Tree" "held" "[Z", .methodLink RX3 82 yX3_slotStart, .static yX3_slotStart, .initialized RX3, .code yX3_slotStart cX3_slotStart 2 (some .int), .methodLink RX3 88 yX3_wordOf, .instanceMethod yX3_wordOf, .selects RX3 yX3_wordOf yX3_wordOf, .code yX3_wordOf cX3_wordOf 3 (some .int), .fieldLink RX3 41 "VeiledFiles$Tree" "words" "[I"] ++ wsX30)
def wsX3_settle : List Cond := .code yX3_settle cX3_settle 5 none :: ([.fieldLink RX3 18 "VeiledFiles$Tree" "levels" "I", .fieldLink RX3 38 "VeiledFiles$Tree" "leaves" "[I", .fieldLink RX3 27 "VeiledFiles$Tree" "store" "[I", .methodLink RX3 71 yX3_bucketOver, .instanceMethod yX3_bucketOver, .selects RX3 yX3_bucketOver yX3_bucketOver, .initialized RX3, .code yX3_bucketOver cX3_bucketOver 3 (some .int), .fieldLink RX3 15 "VeiledFiles$Tree" "leafCount" "I", .methodLink RX3 82 yX3_slotStart, .static yX3_slotStart, .code yX3_slotStart cX3_slotStart 2 (some .int), .methodLink RX3 85 yX3_place, .instanceMethod yX3_place, .selects RX3 yX3_place yX3_place, .code yX3_place cX3_place 6 none, .fieldLink RX3 34 "VeiledFiles$Tree" "held" "[Z", .methodLink RX3 88 yX3_wordOf, .instanceMethod yX3_wordOf, .selects RX3 yX3_wordOf yX3_wordOf, .code yX3_wordOf cX3_wordOf 3 (some .int), .fieldLink RX3 41 "VeiledFiles$Tree" "words" "[I"] ++ wsX30)
def wsX3_pad : List Cond := .code yX3_pad cX3_pad 4 (some .int) :: ([.fieldLink RX3 44 "VeiledFiles$Tree" "key" "I", .fieldLink RX3 9 "VeiledFiles$Tree" "number" "I", .constant RX3 105 (-1640531535), .fieldLink RX3 31 "VeiledFiles$Tree" "counters" "[I", .constant RX3 106 (-2048144777), .constant RX3 107 (-1028477379), .constant RX3 108 (739982445), .constant RX3 109 (695872825)] ++ wsX30)
def wsX3_maskWords : List Cond := .code yX3_maskWords cX3_maskWords 4 none :: ([.fieldLink RX3 27 "VeiledFiles$Tree" "store" "[I", .methodLink RX3 101 yX3_pad, .instanceMethod yX3_pad, .selects RX3 yX3_pad yX3_pad, .initialized RX3, .code yX3_pad cX3_pad 4 (some .int), .fieldLink RX3 44 "VeiledFiles$Tree" "key" "I", .fieldLink RX3 9 "VeiledFiles$Tree" "number" "I", .constant RX3 105 (-1640531535), .fieldLink RX3 31 "VeiledFiles$Tree" "counters" "[I", .constant RX3 106 (-2048144777), .constant RX3 107 (-1028477379), .constant RX3 108 (739982445), .constant RX3 109 (695872825)] ++ wsX30)
def wsX3_tagDue : List Cond := .code yX3_tagDue cX3_tagDue 5 (some .int) :: ([.fieldLink RX3 27 "VeiledFiles$Tree" "store" "[I", .constant RX3 104 (16777619), .methodLink RX3 101 yX3_pad, .instanceMethod yX3_pad, .selects RX3 yX3_pad yX3_pad, .initialized RX3, .code yX3_pad cX3_pad 4 (some .int), .fieldLink RX3 44 "VeiledFiles$Tree" "key" "I", .fieldLink RX3 9 "VeiledFiles$Tree" "number" "I", .constant RX3 105 (-1640531535), .fieldLink RX3 31 "VeiledFiles$Tree" "counters" "[I", .constant RX3 106 (-2048144777), .constant RX3 107 (-1028477379), .constant RX3 108 (739982445), .constant RX3 109 (695872825)] ++ wsX30)
def wsX3_seal : List Cond := .code yX3_seal cX3_seal 2 none :: ([.fieldLink RX3 27 "VeiledFiles$Tree" "store" "[I", .methodLink RX3 91 yX3_maskWords, .instanceMethod yX3_maskWords, .selects RX3 yX3_maskWords yX3_maskWords, .initialized RX3, .code yX3_maskWords cX3_maskWords 4 none, .methodLink RX3 101 yX3_pad, .instanceMethod yX3_pad, .selects RX3 yX3_pad yX3_pad, .code yX3_pad cX3_pad 4 (some .int), .fieldLink RX3 44 "VeiledFiles$Tree" "key" "I", .fieldLink RX3 9 "VeiledFiles$Tree" "number" "I", .constant RX3 105 (-1640531535), .fieldLink RX3 31 "VeiledFiles$Tree" "counters" "[I", .constant RX3 106 (-2048144777), .constant RX3 107 (-1028477379), .constant RX3 108 (739982445), .constant RX3 109 (695872825), .methodLink RX3 97 yX3_tagDue, .instanceMethod yX3_tagDue, .selects RX3 yX3_tagDue yX3_tagDue, .code yX3_tagDue cX3_tagDue 5 (some .int), .constant RX3 104 (16777619)] ++ wsX30)
def wsX3_settleAll_r1 : List Cond := [Cond.fieldLink RX3 24 "VeiledFiles$Tree" "blocks" "I", Cond.fieldLink RX3 21 "VeiledFiles$Tree" "buckets" "I", Cond.methodLink RX3 53 yX3_settle, Cond.instanceMethod yX3_settle, Cond.selects RX3 yX3_settle yX3_settle, Cond.initialized RX3, Cond.code yX3_settle cX3_settle 5 none, Cond.fieldLink RX3 18 "VeiledFiles$Tree" "levels" "I", Cond.fieldLink RX3 38 "VeiledFiles$Tree" "leaves" "[I", Cond.fieldLink RX3 27 "VeiledFiles$Tree" "store" "[I", Cond.methodLink RX3 71 yX3_bucketOver, Cond.instanceMethod yX3_bucketOver, Cond.selects RX3 yX3_bucketOver yX3_bucketOver, Cond.code yX3_bucketOver cX3_bucketOver 3 (some .int), Cond.fieldLink RX3 15 "VeiledFiles$Tree" "leafCount" "I", Cond.methodLink RX3 82 yX3_slotStart, Cond.static yX3_slotStart, Cond.code yX3_slotStart cX3_slotStart 2 (some .int), Cond.methodLink RX3 85 yX3_place, Cond.instanceMethod yX3_place, Cond.selects RX3 yX3_place yX3_place, Cond.code yX3_place cX3_place 6 none, Cond.fieldLink RX3 34 "VeiledFiles$Tree" "held" "[Z", Cond.methodLink RX3 88 yX3_wordOf]
def wsX3_settleAll_r2 : List Cond := [Cond.instanceMethod yX3_wordOf, Cond.selects RX3 yX3_wordOf yX3_wordOf, Cond.code yX3_wordOf cX3_wordOf 3 (some .int), Cond.fieldLink RX3 41 "VeiledFiles$Tree" "words" "[I", Cond.methodLink RX3 57 yX3_seal, Cond.instanceMethod yX3_seal, Cond.selects RX3 yX3_seal yX3_seal, Cond.code yX3_seal cX3_seal 2 none, Cond.methodLink RX3 91 yX3_maskWords, Cond.instanceMethod yX3_maskWords, Cond.selects RX3 yX3_maskWords yX3_maskWords, Cond.code yX3_maskWords cX3_maskWords 4 none, Cond.methodLink RX3 101 yX3_pad, Cond.instanceMethod yX3_pad, Cond.selects RX3 yX3_pad yX3_pad, Cond.code yX3_pad cX3_pad 4 (some .int), Cond.fieldLink RX3 44 "VeiledFiles$Tree" "key" "I", Cond.fieldLink RX3 9 "VeiledFiles$Tree" "number" "I", Cond.constant RX3 105 (-1640531535), Cond.fieldLink RX3 31 "VeiledFiles$Tree" "counters" "[I", Cond.constant RX3 106 (-2048144777), Cond.constant RX3 107 (-1028477379), Cond.constant RX3 108 (739982445), Cond.constant RX3 109 (695872825)]
def wsX3_settleAll_r3 : List Cond := [Cond.methodLink RX3 97 yX3_tagDue, Cond.instanceMethod yX3_tagDue, Cond.selects RX3 yX3_tagDue yX3_tagDue, Cond.code yX3_tagDue cX3_tagDue 5 (some .int), Cond.constant RX3 104 (16777619)]
def wsX3_settleAll : List Cond := .code yX3_settleAll cX3_settleAll 2 none :: ((wsX3_settleAll_r1 ++ (wsX3_settleAll_r2 ++ wsX3_settleAll_r3)) ++ wsX30)
def wsX3_hasBucket : List Cond := .code yX3_hasBucket cX3_hasBucket 2 (some .boolean) :: ([.fieldLink RX3 21 "VeiledFiles$Tree" "buckets" "I"] ++ wsX30)
def wsX3_hasStored : List Cond := .code yX3_hasStored cX3_hasStored 3 (some .boolean) :: ([.methodLink RX3 60 yX3_hasBucket, .instanceMethod yX3_hasBucket, .selects RX3 yX3_hasBucket yX3_hasBucket, .initialized RX3, .code yX3_hasBucket cX3_hasBucket 2 (some .boolean), .fieldLink RX3 21 "VeiledFiles$Tree" "buckets" "I"] ++ wsX30)
def wsX3_storedWord : List Cond := .code yX3_storedWord cX3_storedWord 3 (some .int) :: ([.fieldLink RX3 27 "VeiledFiles$Tree" "store" "[I"] ++ wsX30)
def wsX3_timesSealed : List Cond := .code yX3_timesSealed cX3_timesSealed 2 (some .int) :: ([.fieldLink RX3 31 "VeiledFiles$Tree" "counters" "[I"] ++ wsX30)
def wsX3_countHeld : List Cond := .code yX3_countHeld cX3_countHeld 3 (some .int) :: ([.fieldLink RX3 24 "VeiledFiles$Tree" "blocks" "I", .fieldLink RX3 34 "VeiledFiles$Tree" "held" "[Z"] ++ wsX30)
def wsX3_isWhole : List Cond := .code yX3_isWhole cX3_isWhole 2 (some .boolean) :: ([.fieldLink RX3 27 "VeiledFiles$Tree" "store" "[I", .methodLink RX3 97 yX3_tagDue, .instanceMethod yX3_tagDue, .selects RX3 yX3_tagDue yX3_tagDue, .initialized RX3, .code yX3_tagDue cX3_tagDue 5 (some .int), .constant RX3 104 (16777619), .methodLink RX3 101 yX3_pad, .instanceMethod yX3_pad, .selects RX3 yX3_pad yX3_pad, .code yX3_pad cX3_pad 4 (some .int), .fieldLink RX3 44 "VeiledFiles$Tree" "key" "I", .fieldLink RX3 9 "VeiledFiles$Tree" "number" "I", .constant RX3 105 (-1640531535), .fieldLink RX3 31 "VeiledFiles$Tree" "counters" "[I", .constant RX3 106 (-2048144777), .constant RX3 107 (-1028477379), .constant RX3 108 (739982445), .constant RX3 109 (695872825)] ++ wsX30)
def wsX3_spoil : List Cond := .code yX3_spoil cX3_spoil 6 (some .boolean) :: ([.fieldLink RX3 27 "VeiledFiles$Tree" "store" "[I", .methodLink RX3 64 yX3_isWhole, .instanceMethod yX3_isWhole, .selects RX3 yX3_isWhole yX3_isWhole, .initialized RX3, .code yX3_isWhole cX3_isWhole 2 (some .boolean), .methodLink RX3 97 yX3_tagDue, .instanceMethod yX3_tagDue, .selects RX3 yX3_tagDue yX3_tagDue, .code yX3_tagDue cX3_tagDue 5 (some .int), .constant RX3 104 (16777619), .methodLink RX3 101 yX3_pad, .instanceMethod yX3_pad, .selects RX3 yX3_pad yX3_pad, .code yX3_pad cX3_pad 4 (some .int), .fieldLink RX3 44 "VeiledFiles$Tree" "key" "I", .fieldLink RX3 9 "VeiledFiles$Tree" "number" "I", .constant RX3 105 (-1640531535), .fieldLink RX3 31 "VeiledFiles$Tree" "counters" "[I", .constant RX3 106 (-2048144777), .constant RX3 107 (-1028477379), .constant RX3 108 (739982445), .constant RX3 109 (695872825)] ++ wsX30)
def wsX3_moveTo : List Cond := .code yX3_moveTo cX3_moveTo 3 none :: ([.fieldLink RX3 38 "VeiledFiles$Tree" "leaves" "[I"] ++ wsX30)
def wsX3_setWord : List Cond := .code yX3_setWord cX3_setWord 4 none :: ([.fieldLink RX3 41 "VeiledFiles$Tree" "words" "[I"] ++ wsX30)
def wsX3_clearWords : List Cond := .code yX3_clearWords cX3_clearWords 3 none :: ([.methodLink RX3 67 yX3_setWord, .instanceMethod yX3_setWord, .selects RX3 yX3_setWord yX3_setWord, .initialized RX3, .code yX3_setWord cX3_setWord 4 none, .fieldLink RX3 41 "VeiledFiles$Tree" "words" "[I"] ++ wsX30)
def wsX3_hold : List Cond := .code yX3_hold cX3_hold 4 none :: ([.fieldLink RX3 27 "VeiledFiles$Tree" "store" "[I", .fieldLink RX3 24 "VeiledFiles$Tree" "blocks" "I", .fieldLink RX3 34 "VeiledFiles$Tree" "held" "[Z", .fieldLink RX3 38 "VeiledFiles$Tree" "leaves" "[I", .methodLink RX3 67 yX3_setWord, .instanceMethod yX3_setWord, .selects RX3 yX3_setWord yX3_setWord, .initialized RX3, .code yX3_setWord cX3_setWord 4 none, .fieldLink RX3 41 "VeiledFiles$Tree" "words" "[I"] ++ wsX30)
def wsX3_unload_r1 : List Cond := [Cond.fieldLink RX3 27 "VeiledFiles$Tree" "store" "[I", Cond.methodLink RX3 91 yX3_maskWords, Cond.instanceMethod yX3_maskWords, Cond.selects RX3 yX3_maskWords yX3_maskWords, Cond.initialized RX3, Cond.code yX3_maskWords cX3_maskWords 4 none, Cond.methodLink RX3 101 yX3_pad, Cond.instanceMethod yX3_pad, Cond.selects RX3 yX3_pad yX3_pad, Cond.code yX3_pad cX3_pad 4 (some .int), Cond.fieldLink RX3 44 "VeiledFiles$Tree" "key" "I", Cond.fieldLink RX3 9 "VeiledFiles$Tree" "number" "I", Cond.constant RX3 105 (-1640531535), Cond.fieldLink RX3 31 "VeiledFiles$Tree" "counters" "[I", Cond.constant RX3 106 (-2048144777), Cond.constant RX3 107 (-1028477379), Cond.constant RX3 108 (739982445), Cond.constant RX3 109 (695872825), Cond.methodLink RX3 82 yX3_slotStart, Cond.static yX3_slotStart, Cond.code yX3_slotStart cX3_slotStart 2 (some .int), Cond.methodLink RX3 94 yX3_hold, Cond.instanceMethod yX3_hold, Cond.selects RX3 yX3_hold yX3_hold]
def wsX3_unload_r2 : List Cond := [Cond.code yX3_hold cX3_hold 4 none, Cond.fieldLink RX3 24 "VeiledFiles$Tree" "blocks" "I", Cond.fieldLink RX3 34 "VeiledFiles$Tree" "held" "[Z", Cond.fieldLink RX3 38 "VeiledFiles$Tree" "leaves" "[I", Cond.methodLink RX3 67 yX3_setWord, Cond.instanceMethod yX3_setWord, Cond.selects RX3 yX3_setWord yX3_setWord, Cond.code yX3_setWord cX3_setWord 4 none, Cond.fieldLink RX3 41 "VeiledFiles$Tree" "words" "[I"]
def wsX3_unload : List Cond := .code yX3_unload cX3_unload 4 none :: ((wsX3_unload_r1 ++ wsX3_unload_r2) ++ wsX30)
def wsX3_take_r1 : List Cond := [Cond.fieldLink RX3 18 "VeiledFiles$Tree" "levels" "I", Cond.methodLink RX3 71 yX3_bucketOver, Cond.instanceMethod yX3_bucketOver, Cond.selects RX3 yX3_bucketOver yX3_bucketOver, Cond.initialized RX3, Cond.code yX3_bucketOver cX3_bucketOver 3 (some .int), Cond.fieldLink RX3 15 "VeiledFiles$Tree" "leafCount" "I", Cond.methodLink RX3 64 yX3_isWhole, Cond.instanceMethod yX3_isWhole, Cond.selects RX3 yX3_isWhole yX3_isWhole, Cond.code yX3_isWhole cX3_isWhole 2 (some .boolean), Cond.fieldLink RX3 27 "VeiledFiles$Tree" "store" "[I", Cond.methodLink RX3 97 yX3_tagDue, Cond.instanceMethod yX3_tagDue, Cond.selects RX3 yX3_tagDue yX3_tagDue, Cond.code yX3_tagDue cX3_tagDue 5 (some .int), Cond.constant RX3 104 (16777619), Cond.methodLink RX3 101 yX3_pad, Cond.instanceMethod yX3_pad, Cond.selects RX3 yX3_pad yX3_pad, Cond.code yX3_pad cX3_pad 4 (some .int), Cond.fieldLink RX3 44 "VeiledFiles$Tree" "key" "I", Cond.fieldLink RX3 9 "VeiledFiles$Tree" "number" "I", Cond.constant RX3 105 (-1640531535)]
def wsX3_take_r2 : List Cond := [Cond.fieldLink RX3 31 "VeiledFiles$Tree" "counters" "[I", Cond.constant RX3 106 (-2048144777), Cond.constant RX3 107 (-1028477379), Cond.constant RX3 108 (739982445), Cond.constant RX3 109 (695872825), Cond.methodLink RX3 75 yX3_unload, Cond.instanceMethod yX3_unload, Cond.selects RX3 yX3_unload yX3_unload, Cond.code yX3_unload cX3_unload 4 none, Cond.methodLink RX3 91 yX3_maskWords, Cond.instanceMethod yX3_maskWords, Cond.selects RX3 yX3_maskWords yX3_maskWords, Cond.code yX3_maskWords cX3_maskWords 4 none, Cond.methodLink RX3 82 yX3_slotStart, Cond.static yX3_slotStart, Cond.code yX3_slotStart cX3_slotStart 2 (some .int), Cond.methodLink RX3 94 yX3_hold, Cond.instanceMethod yX3_hold, Cond.selects RX3 yX3_hold yX3_hold, Cond.code yX3_hold cX3_hold 4 none, Cond.fieldLink RX3 24 "VeiledFiles$Tree" "blocks" "I", Cond.fieldLink RX3 34 "VeiledFiles$Tree" "held" "[Z", Cond.fieldLink RX3 38 "VeiledFiles$Tree" "leaves" "[I", Cond.methodLink RX3 67 yX3_setWord]
def wsX3_take_r3 : List Cond := [Cond.instanceMethod yX3_setWord, Cond.selects RX3 yX3_setWord yX3_setWord, Cond.code yX3_setWord cX3_setWord 4 none, Cond.fieldLink RX3 41 "VeiledFiles$Tree" "words" "[I"]
def wsX3_take : List Cond := .code yX3_take cX3_take 3 (some .boolean) :: ((wsX3_take_r1 ++ (wsX3_take_r2 ++ wsX3_take_r3)) ++ wsX30)
def wsX3_load : List Cond := .code yX3_load cX3_load 5 none :: ([.fieldLink RX3 24 "VeiledFiles$Tree" "blocks" "I", .fieldLink RX3 34 "VeiledFiles$Tree" "held" "[Z", .fieldLink RX3 38 "VeiledFiles$Tree" "leaves" "[I", .methodLink RX3 71 yX3_bucketOver, .instanceMethod yX3_bucketOver, .selects RX3 yX3_bucketOver yX3_bucketOver, .initialized RX3, .code yX3_bucketOver cX3_bucketOver 3 (some .int), .fieldLink RX3 15 "VeiledFiles$Tree" "leafCount" "I", .methodLink RX3 85 yX3_place, .instanceMethod yX3_place, .selects RX3 yX3_place yX3_place, .code yX3_place cX3_place 6 none, .fieldLink RX3 27 "VeiledFiles$Tree" "store" "[I", .methodLink RX3 82 yX3_slotStart, .static yX3_slotStart, .code yX3_slotStart cX3_slotStart 2 (some .int), .methodLink RX3 88 yX3_wordOf, .instanceMethod yX3_wordOf, .selects RX3 yX3_wordOf yX3_wordOf, .code yX3_wordOf cX3_wordOf 3 (some .int), .fieldLink RX3 41 "VeiledFiles$Tree" "words" "[I"] ++ wsX30)
def wsX3_putBack_r1 : List Cond := [Cond.fieldLink RX3 18 "VeiledFiles$Tree" "levels" "I", Cond.fieldLink RX3 31 "VeiledFiles$Tree" "counters" "[I", Cond.methodLink RX3 71 yX3_bucketOver, Cond.instanceMethod yX3_bucketOver, Cond.selects RX3 yX3_bucketOver yX3_bucketOver, Cond.initialized RX3, Cond.code yX3_bucketOver cX3_bucketOver 3 (some .int), Cond.fieldLink RX3 15 "VeiledFiles$Tree" "leafCount" "I", Cond.methodLink RX3 78 yX3_load, Cond.instanceMethod yX3_load, Cond.selects RX3 yX3_load yX3_load, Cond.code yX3_load cX3_load 5 none, Cond.fieldLink RX3 24 "VeiledFiles$Tree" "blocks" "I", Cond.fieldLink RX3 34 "VeiledFiles$Tree" "held" "[Z", Cond.fieldLink RX3 38 "VeiledFiles$Tree" "leaves" "[I", Cond.methodLink RX3 85 yX3_place, Cond.instanceMethod yX3_place, Cond.selects RX3 yX3_place yX3_place, Cond.code yX3_place cX3_place 6 none, Cond.fieldLink RX3 27 "VeiledFiles$Tree" "store" "[I", Cond.methodLink RX3 82 yX3_slotStart, Cond.static yX3_slotStart, Cond.code yX3_slotStart cX3_slotStart 2 (some .int), Cond.methodLink RX3 88 yX3_wordOf]
def wsX3_putBack_r2 : List Cond := [Cond.instanceMethod yX3_wordOf, Cond.selects RX3 yX3_wordOf yX3_wordOf, Cond.code yX3_wordOf cX3_wordOf 3 (some .int), Cond.fieldLink RX3 41 "VeiledFiles$Tree" "words" "[I", Cond.methodLink RX3 57 yX3_seal, Cond.instanceMethod yX3_seal, Cond.selects RX3 yX3_seal yX3_seal, Cond.code yX3_seal cX3_seal 2 none, Cond.methodLink RX3 91 yX3_maskWords, Cond.instanceMethod yX3_maskWords, Cond.selects RX3 yX3_maskWords yX3_maskWords, Cond.code yX3_maskWords cX3_maskWords 4 none, Cond.methodLink RX3 101 yX3_pad, Cond.instanceMethod yX3_pad, Cond.selects RX3 yX3_pad yX3_pad, Cond.code yX3_pad cX3_pad 4 (some .int), Cond.fieldLink RX3 44 "VeiledFiles$Tree" "key" "I", Cond.fieldLink RX3 9 "VeiledFiles$Tree" "number" "I", Cond.constant RX3 105 (-1640531535), Cond.constant RX3 106 (-2048144777), Cond.constant RX3 107 (-1028477379), Cond.constant RX3 108 (739982445), Cond.constant RX3 109 (695872825), Cond.methodLink RX3 97 yX3_tagDue]
def wsX3_putBack_r3 : List Cond := [Cond.instanceMethod yX3_tagDue, Cond.selects RX3 yX3_tagDue yX3_tagDue, Cond.code yX3_tagDue cX3_tagDue 5 (some .int), Cond.constant RX3 104 (16777619)]
def wsX3_putBack : List Cond := .code yX3_putBack cX3_putBack 4 none :: ((wsX3_putBack_r1 ++ (wsX3_putBack_r2 ++ wsX3_putBack_r3)) ++ wsX30)
def wsX4_entryShift : List Cond := .code yX4_entryShift cX4_entryShift 1 (some .int) :: ([])
def wsX4_setEntry : List Cond := .code yX4_setEntry cX4_setEntry 6 none :: ([.fieldLink RX4 21 "VeiledFiles" "map" "LVeiledFiles$Tree;", .methodLink RX4 176 yX4_entryShift, .static yX4_entryShift, .initialized RX4, .code yX4_entryShift cX4_entryShift 1 (some .int), .methodLink RX4 98 yX3_wordOf, .instanceMethod yX3_wordOf, .selects RX3 yX3_wordOf yX3_wordOf, .initialized RX3, .code yX3_wordOf cX3_wordOf 3 (some .int), .fieldLink RX3 41 "VeiledFiles$Tree" "words" "[I", .methodLink RX4 86 yX3_setWord, .instanceMethod yX3_setWord, .selects RX3 yX3_setWord yX3_setWord, .code yX3_setWord cX3_setWord 4 none] ++ wsX40 ++ wsX30)
def wsX4_drawAllLeaves_r1 : List Cond := [Cond.fieldLink RX4 28 "VeiledFiles" "mapLeaves" "[I", Cond.fieldLink RX4 10 "VeiledFiles" "dice" "LVeiledFiles$Dice;", Cond.fieldLink RX4 21 "VeiledFiles" "map" "LVeiledFiles$Tree;", Cond.fieldLink RX4 25 "VeiledFiles" "data" "LVeiledFiles$Tree;", Cond.methodLink RX4 101 yX1_draw, Cond.instanceMethod yX1_draw, Cond.selects RX1 yX1_draw yX1_draw, Cond.initialized RX1, Cond.code yX1_draw cX1_draw 2 (some .int), Cond.fieldLink RX1 7 "VeiledFiles$Dice" "word" "I", Cond.methodLink RX4 159 yX3_moveTo, Cond.instanceMethod yX3_moveTo, Cond.selects RX3 yX3_moveTo yX3_moveTo, Cond.initialized RX3, Cond.code yX3_moveTo cX3_moveTo 3 none, Cond.fieldLink RX3 38 "VeiledFiles$Tree" "leaves" "[I", Cond.methodLink RX4 162 yX4_setEntry, Cond.instanceMethod yX4_setEntry, Cond.selects RX4 yX4_setEntry yX4_setEntry, Cond.initialized RX4, Cond.code yX4_setEntry cX4_setEntry 6 none, Cond.methodLink RX4 176 yX4_entryShift, Cond.static yX4_entryShift, Cond.code yX4_entryShift cX4_entryShift 1 (some .int)]
def wsX4_drawAllLeaves_r2 : List Cond := [Cond.methodLink RX4 98 yX3_wordOf, Cond.instanceMethod yX3_wordOf, Cond.selects RX3 yX3_wordOf yX3_wordOf, Cond.code yX3_wordOf cX3_wordOf 3 (some .int), Cond.fieldLink RX3 41 "VeiledFiles$Tree" "words" "[I", Cond.methodLink RX4 86 yX3_setWord, Cond.instanceMethod yX3_setWord, Cond.selects RX3 yX3_setWord yX3_setWord, Cond.code yX3_setWord cX3_setWord 4 none]
def wsX4_drawAllLeaves : List Cond := .code yX4_drawAllLeaves cX4_drawAllLeaves 3 none :: ((wsX4_drawAllLeaves_r1 ++ wsX4_drawAllLeaves_r2) ++ wsX40 ++ wsX10 ++ wsX30)
def wsX4_beginAnew_r1 : List Cond := [Cond.fieldLink RX4 10 "VeiledFiles" "dice" "LVeiledFiles$Dice;", Cond.fieldLink RX4 21 "VeiledFiles" "map" "LVeiledFiles$Tree;", Cond.fieldLink RX4 25 "VeiledFiles" "data" "LVeiledFiles$Tree;", Cond.fieldLink RX4 35 "VeiledFiles" "book" "LVeiledFiles$Book;", Cond.fieldLink RX4 42 "VeiledFiles" "trail" "LVeiledFiles$Trail;", Cond.fieldLink RX4 140 "VeiledFiles" "dead" "Z", Cond.methodLink RX4 144 yX1_begin, Cond.instanceMethod yX1_begin, Cond.selects RX1 yX1_begin yX1_begin, Cond.initialized RX1, Cond.code yX1_begin cX1_begin 2 none, Cond.fieldLink RX1 7 "VeiledFiles$Dice" "word" "I", Cond.methodLink RX4 147 yX3_empty, Cond.instanceMethod yX3_empty, Cond.selects RX3 yX3_empty yX3_empty, Cond.initialized RX3, Cond.code yX3_empty cX3_empty 3 none, Cond.fieldLink RX3 44 "VeiledFiles$Tree" "key" "I", Cond.fieldLink RX3 27 "VeiledFiles$Tree" "store" "[I", Cond.fieldLink RX3 31 "VeiledFiles$Tree" "counters" "[I", Cond.fieldLink RX3 41 "VeiledFiles$Tree" "words" "[I", Cond.fieldLink RX3 24 "VeiledFiles$Tree" "blocks" "I", Cond.fieldLink RX3 34 "VeiledFiles$Tree" "held" "[Z", Cond.methodLink RX3 47 yJ7_fill_53178]
def wsX4_beginAnew_r2 : List Cond := [Cond.static yJ7_fill_53178, Cond.initialized RJ7, Cond.code yJ7_fill_53178 cJ7_fill_53178 4 none, Cond.methodLink RX4 150 yX0_empty, Cond.instanceMethod yX0_empty, Cond.selects RX0 yX0_empty yX0_empty, Cond.initialized RX0, Cond.code yX0_empty cX0_empty 2 none, Cond.fieldLink RX0 15 "VeiledFiles$Book" "lengths" "[I", Cond.fieldLink RX0 22 "VeiledFiles$Book" "taken" "[Z", Cond.methodLink RX0 26 yJ7_fill_53178, Cond.methodLink RX4 152 yX2_empty, Cond.instanceMethod yX2_empty, Cond.selects RX2 yX2_empty yX2_empty, Cond.initialized RX2, Cond.code yX2_empty cX2_empty 1 none, Cond.fieldLink RX2 18 "VeiledFiles$Trail" "count" "I", Cond.methodLink RX4 153 yX4_drawAllLeaves, Cond.instanceMethod yX4_drawAllLeaves, Cond.selects RX4 yX4_drawAllLeaves yX4_drawAllLeaves, Cond.initialized RX4, Cond.code yX4_drawAllLeaves cX4_drawAllLeaves 3 none, Cond.fieldLink RX4 28 "VeiledFiles" "mapLeaves" "[I", Cond.methodLink RX4 101 yX1_draw]
def wsX4_beginAnew_r3 : List Cond := [Cond.instanceMethod yX1_draw, Cond.selects RX1 yX1_draw yX1_draw, Cond.code yX1_draw cX1_draw 2 (some .int), Cond.methodLink RX4 159 yX3_moveTo, Cond.instanceMethod yX3_moveTo, Cond.selects RX3 yX3_moveTo yX3_moveTo, Cond.code yX3_moveTo cX3_moveTo 3 none, Cond.fieldLink RX3 38 "VeiledFiles$Tree" "leaves" "[I", Cond.methodLink RX4 162 yX4_setEntry, Cond.instanceMethod yX4_setEntry, Cond.selects RX4 yX4_setEntry yX4_setEntry, Cond.code yX4_setEntry cX4_setEntry 6 none, Cond.methodLink RX4 176 yX4_entryShift, Cond.static yX4_entryShift, Cond.code yX4_entryShift cX4_entryShift 1 (some .int), Cond.methodLink RX4 98 yX3_wordOf, Cond.instanceMethod yX3_wordOf, Cond.selects RX3 yX3_wordOf yX3_wordOf, Cond.code yX3_wordOf cX3_wordOf 3 (some .int), Cond.methodLink RX4 86 yX3_setWord, Cond.instanceMethod yX3_setWord, Cond.selects RX3 yX3_setWord yX3_setWord, Cond.code yX3_setWord cX3_setWord 4 none, Cond.methodLink RX4 156 yX3_settleAll]
def wsX4_beginAnew_r4 : List Cond := [Cond.instanceMethod yX3_settleAll, Cond.selects RX3 yX3_settleAll yX3_settleAll, Cond.code yX3_settleAll cX3_settleAll 2 none, Cond.fieldLink RX3 21 "VeiledFiles$Tree" "buckets" "I", Cond.methodLink RX3 53 yX3_settle, Cond.instanceMethod yX3_settle, Cond.selects RX3 yX3_settle yX3_settle, Cond.code yX3_settle cX3_settle 5 none, Cond.fieldLink RX3 18 "VeiledFiles$Tree" "levels" "I", Cond.methodLink RX3 71 yX3_bucketOver, Cond.instanceMethod yX3_bucketOver, Cond.selects RX3 yX3_bucketOver yX3_bucketOver, Cond.code yX3_bucketOver cX3_bucketOver 3 (some .int), Cond.fieldLink RX3 15 "VeiledFiles$Tree" "leafCount" "I", Cond.methodLink RX3 82 yX3_slotStart, Cond.static yX3_slotStart, Cond.code yX3_slotStart cX3_slotStart 2 (some .int), Cond.methodLink RX3 85 yX3_place, Cond.instanceMethod yX3_place, Cond.selects RX3 yX3_place yX3_place, Cond.code yX3_place cX3_place 6 none, Cond.methodLink RX3 88 yX3_wordOf, Cond.methodLink RX3 57 yX3_seal, Cond.instanceMethod yX3_seal]
def wsX4_beginAnew_r5 : List Cond := [Cond.selects RX3 yX3_seal yX3_seal, Cond.code yX3_seal cX3_seal 2 none, Cond.methodLink RX3 91 yX3_maskWords, Cond.instanceMethod yX3_maskWords, Cond.selects RX3 yX3_maskWords yX3_maskWords, Cond.code yX3_maskWords cX3_maskWords 4 none, Cond.methodLink RX3 101 yX3_pad, Cond.instanceMethod yX3_pad, Cond.selects RX3 yX3_pad yX3_pad, Cond.code yX3_pad cX3_pad 4 (some .int), Cond.fieldLink RX3 9 "VeiledFiles$Tree" "number" "I", Cond.constant RX3 105 (-1640531535), Cond.constant RX3 106 (-2048144777), Cond.constant RX3 107 (-1028477379), Cond.constant RX3 108 (739982445), Cond.constant RX3 109 (695872825), Cond.methodLink RX3 97 yX3_tagDue, Cond.instanceMethod yX3_tagDue, Cond.selects RX3 yX3_tagDue yX3_tagDue, Cond.code yX3_tagDue cX3_tagDue 5 (some .int), Cond.constant RX3 104 (16777619)]
def wsX4_beginAnew : List Cond := .code yX4_beginAnew cX4_beginAnew 3 none :: ((wsX4_beginAnew_r1 ++ (wsX4_beginAnew_r2 ++ (wsX4_beginAnew_r3 ++ (wsX4_beginAnew_r4 ++ wsX4_beginAnew_r5)))) ++ wsX40 ++ wsX10 ++ wsX30 ++ wsX00 ++ wsX20)
def wsX4_init_r1 : List Cond := [Cond.methodLink RX4 1 objectInit, Cond.instanceMethod objectInit, Cond.code objectInit ⟨#[0xb1]⟩ 1 none, Cond.classLink RX4 7 RX1, Cond.instantiable RX1 1, Cond.initialized RX1, Cond.fieldLink RX4 10 "VeiledFiles" "dice" "LVeiledFiles$Dice;", Cond.classLink RX4 16 RX3, Cond.instantiable RX3 11, Cond.initialized RX3, Cond.fieldLink RX4 21 "VeiledFiles" "map" "LVeiledFiles$Tree;", Cond.fieldLink RX4 25 "VeiledFiles" "data" "LVeiledFiles$Tree;", Cond.arrayClass .int, Cond.fieldLink RX4 28 "VeiledFiles" "mapLeaves" "[I", Cond.classLink RX4 32 RX0, Cond.instantiable RX0 4, Cond.initialized RX0, Cond.fieldLink RX4 35 "VeiledFiles" "book" "LVeiledFiles$Book;", Cond.classLink RX4 39 RX2, Cond.instantiable RX2 3, Cond.initialized RX2, Cond.fieldLink RX4 42 "VeiledFiles" "trail" "LVeiledFiles$Trail;", Cond.instanceMethod yX1_init, Cond.code yX1_init cX1_init 1 none]
def wsX4_init_r2 : List Cond := [Cond.methodLink RX1 1 objectInit, Cond.methodLink RX4 18 yX3_init, Cond.instanceMethod yX3_init, Cond.code yX3_init cX3_init 4 none, Cond.methodLink RX3 3 objectInit, Cond.fieldLink RX3 9 "VeiledFiles$Tree" "number" "I", Cond.fieldLink RX3 15 "VeiledFiles$Tree" "leafCount" "I", Cond.fieldLink RX3 18 "VeiledFiles$Tree" "levels" "I", Cond.fieldLink RX3 21 "VeiledFiles$Tree" "buckets" "I", Cond.fieldLink RX3 24 "VeiledFiles$Tree" "blocks" "I", Cond.fieldLink RX3 27 "VeiledFiles$Tree" "store" "[I", Cond.fieldLink RX3 31 "VeiledFiles$Tree" "counters" "[I", Cond.arrayClass .boolean, Cond.fieldLink RX3 34 "VeiledFiles$Tree" "held" "[Z", Cond.fieldLink RX3 38 "VeiledFiles$Tree" "leaves" "[I", Cond.fieldLink RX3 41 "VeiledFiles$Tree" "words" "[I", Cond.instanceMethod yX0_init, Cond.code yX0_init cX0_init 1 none, Cond.methodLink RX0 5 objectInit, Cond.arrayClass .long, Cond.fieldLink RX0 11 "VeiledFiles$Book" "names" "[J", Cond.fieldLink RX0 15 "VeiledFiles$Book" "lengths" "[I", Cond.fieldLink RX0 19 "VeiledFiles$Book" "partBlocks" "[I", Cond.fieldLink RX0 22 "VeiledFiles$Book" "taken" "[Z"]
def wsX4_init_r3 : List Cond := [Cond.instanceMethod yX2_init, Cond.code yX2_init cX2_init 1 none, Cond.methodLink RX2 3 objectInit, Cond.fieldLink RX2 11 "VeiledFiles$Trail" "mapLeaf" "[I", Cond.fieldLink RX2 15 "VeiledFiles$Trail" "dataLeaf" "[I", Cond.methodLink RX4 46 yX4_beginAnew, Cond.instanceMethod yX4_beginAnew, Cond.selects RX4 yX4_beginAnew yX4_beginAnew, Cond.initialized RX4, Cond.code yX4_beginAnew cX4_beginAnew 3 none, Cond.fieldLink RX4 140 "VeiledFiles" "dead" "Z", Cond.methodLink RX4 144 yX1_begin, Cond.instanceMethod yX1_begin, Cond.selects RX1 yX1_begin yX1_begin, Cond.code yX1_begin cX1_begin 2 none, Cond.fieldLink RX1 7 "VeiledFiles$Dice" "word" "I", Cond.methodLink RX4 147 yX3_empty, Cond.instanceMethod yX3_empty, Cond.selects RX3 yX3_empty yX3_empty, Cond.code yX3_empty cX3_empty 3 none, Cond.fieldLink RX3 44 "VeiledFiles$Tree" "key" "I", Cond.methodLink RX3 47 yJ7_fill_53178, Cond.static yJ7_fill_53178, Cond.initialized RJ7]
def wsX4_init_r4 : List Cond := [Cond.code yJ7_fill_53178 cJ7_fill_53178 4 none, Cond.methodLink RX4 150 yX0_empty, Cond.instanceMethod yX0_empty, Cond.selects RX0 yX0_empty yX0_empty, Cond.code yX0_empty cX0_empty 2 none, Cond.methodLink RX0 26 yJ7_fill_53178, Cond.methodLink RX4 152 yX2_empty, Cond.instanceMethod yX2_empty, Cond.selects RX2 yX2_empty yX2_empty, Cond.code yX2_empty cX2_empty 1 none, Cond.fieldLink RX2 18 "VeiledFiles$Trail" "count" "I", Cond.methodLink RX4 153 yX4_drawAllLeaves, Cond.instanceMethod yX4_drawAllLeaves, Cond.selects RX4 yX4_drawAllLeaves yX4_drawAllLeaves, Cond.code yX4_drawAllLeaves cX4_drawAllLeaves 3 none, Cond.methodLink RX4 101 yX1_draw, Cond.instanceMethod yX1_draw, Cond.selects RX1 yX1_draw yX1_draw, Cond.code yX1_draw cX1_draw 2 (some .int), Cond.methodLink RX4 159 yX3_moveTo, Cond.instanceMethod yX3_moveTo, Cond.selects RX3 yX3_moveTo yX3_moveTo, Cond.code yX3_moveTo cX3_moveTo 3 none, Cond.methodLink RX4 162 yX4_setEntry]
def wsX4_init_r5 : List Cond := [Cond.instanceMethod yX4_setEntry, Cond.selects RX4 yX4_setEntry yX4_setEntry, Cond.code yX4_setEntry cX4_setEntry 6 none, Cond.methodLink RX4 176 yX4_entryShift, Cond.static yX4_entryShift, Cond.code yX4_entryShift cX4_entryShift 1 (some .int), Cond.methodLink RX4 98 yX3_wordOf, Cond.instanceMethod yX3_wordOf, Cond.selects RX3 yX3_wordOf yX3_wordOf, Cond.code yX3_wordOf cX3_wordOf 3 (some .int), Cond.methodLink RX4 86 yX3_setWord, Cond.instanceMethod yX3_setWord, Cond.selects RX3 yX3_setWord yX3_setWord, Cond.code yX3_setWord cX3_setWord 4 none, Cond.methodLink RX4 156 yX3_settleAll, Cond.instanceMethod yX3_settleAll, Cond.selects RX3 yX3_settleAll yX3_settleAll, Cond.code yX3_settleAll cX3_settleAll 2 none, Cond.methodLink RX3 53 yX3_settle, Cond.instanceMethod yX3_settle, Cond.selects RX3 yX3_settle yX3_settle, Cond.code yX3_settle cX3_settle 5 none, Cond.methodLink RX3 71 yX3_bucketOver, Cond.instanceMethod yX3_bucketOver]
def wsX4_init_r6 : List Cond := [Cond.selects RX3 yX3_bucketOver yX3_bucketOver, Cond.code yX3_bucketOver cX3_bucketOver 3 (some .int), Cond.methodLink RX3 82 yX3_slotStart, Cond.static yX3_slotStart, Cond.code yX3_slotStart cX3_slotStart 2 (some .int), Cond.methodLink RX3 85 yX3_place, Cond.instanceMethod yX3_place, Cond.selects RX3 yX3_place yX3_place, Cond.code yX3_place cX3_place 6 none, Cond.methodLink RX3 88 yX3_wordOf, Cond.methodLink RX3 57 yX3_seal, Cond.instanceMethod yX3_seal, Cond.selects RX3 yX3_seal yX3_seal, Cond.code yX3_seal cX3_seal 2 none, Cond.methodLink RX3 91 yX3_maskWords, Cond.instanceMethod yX3_maskWords, Cond.selects RX3 yX3_maskWords yX3_maskWords, Cond.code yX3_maskWords cX3_maskWords 4 none, Cond.methodLink RX3 101 yX3_pad, Cond.instanceMethod yX3_pad, Cond.selects RX3 yX3_pad yX3_pad, Cond.code yX3_pad cX3_pad 4 (some .int), Cond.constant RX3 105 (-1640531535), Cond.constant RX3 106 (-2048144777)]
def wsX4_init_r7 : List Cond := [Cond.constant RX3 107 (-1028477379), Cond.constant RX3 108 (739982445), Cond.constant RX3 109 (695872825), Cond.methodLink RX3 97 yX3_tagDue, Cond.instanceMethod yX3_tagDue, Cond.selects RX3 yX3_tagDue yX3_tagDue, Cond.code yX3_tagDue cX3_tagDue 5 (some .int), Cond.constant RX3 104 (16777619)]
def wsX4_init : List Cond := .code yX4_init cX4_init 1 none :: ((wsX4_init_r1 ++ (wsX4_init_r2 ++ (wsX4_init_r3 ++ (wsX4_init_r4 ++ (wsX4_init_r5 ++ (wsX4_init_r6 ++ wsX4_init_r7)))))) ++ wsX10 ++ wsX40 ++ wsX30 ++ wsX00 ++ wsX20)
def wsX4_start_r1 : List Cond := [Cond.methodLink RX4 46 yX4_beginAnew, Cond.instanceMethod yX4_beginAnew, Cond.selects RX4 yX4_beginAnew yX4_beginAnew, Cond.initialized RX4, Cond.code yX4_beginAnew cX4_beginAnew 3 none, Cond.fieldLink RX4 10 "VeiledFiles" "dice" "LVeiledFiles$Dice;", Cond.fieldLink RX4 21 "VeiledFiles" "map" "LVeiledFiles$Tree;", Cond.fieldLink RX4 25 "VeiledFiles" "data" "LVeiledFiles$Tree;", Cond.fieldLink RX4 35 "VeiledFiles" "book" "LVeiledFiles$Book;", Cond.fieldLink RX4 42 "VeiledFiles" "trail" "LVeiledFiles$Trail;", Cond.fieldLink RX4 140 "VeiledFiles" "dead" "Z", Cond.methodLink RX4 144 yX1_begin, Cond.instanceMethod yX1_begin, Cond.selects RX1 yX1_begin yX1_begin, Cond.initialized RX1, Cond.code yX1_begin cX1_begin 2 none, Cond.fieldLink RX1 7 "VeiledFiles$Dice" "word" "I", Cond.methodLink RX4 147 yX3_empty, Cond.instanceMethod yX3_empty, Cond.selects RX3 yX3_empty yX3_empty, Cond.initialized RX3, Cond.code yX3_empty cX3_empty 3 none, Cond.fieldLink RX3 44 "VeiledFiles$Tree" "key" "I", Cond.fieldLink RX3 27 "VeiledFiles$Tree" "store" "[I"]
def wsX4_start_r2 : List Cond := [Cond.fieldLink RX3 31 "VeiledFiles$Tree" "counters" "[I", Cond.fieldLink RX3 41 "VeiledFiles$Tree" "words" "[I", Cond.fieldLink RX3 24 "VeiledFiles$Tree" "blocks" "I", Cond.fieldLink RX3 34 "VeiledFiles$Tree" "held" "[Z", Cond.methodLink RX3 47 yJ7_fill_53178, Cond.static yJ7_fill_53178, Cond.initialized RJ7, Cond.code yJ7_fill_53178 cJ7_fill_53178 4 none, Cond.methodLink RX4 150 yX0_empty, Cond.instanceMethod yX0_empty, Cond.selects RX0 yX0_empty yX0_empty, Cond.initialized RX0, Cond.code yX0_empty cX0_empty 2 none, Cond.fieldLink RX0 15 "VeiledFiles$Book" "lengths" "[I", Cond.fieldLink RX0 22 "VeiledFiles$Book" "taken" "[Z", Cond.methodLink RX0 26 yJ7_fill_53178, Cond.methodLink RX4 152 yX2_empty, Cond.instanceMethod yX2_empty, Cond.selects RX2 yX2_empty yX2_empty, Cond.initialized RX2, Cond.code yX2_empty cX2_empty 1 none, Cond.fieldLink RX2 18 "VeiledFiles$Trail" "count" "I", Cond.methodLink RX4 153 yX4_drawAllLeaves, Cond.instanceMethod yX4_drawAllLeaves]
def wsX4_start_r3 : List Cond := [Cond.selects RX4 yX4_drawAllLeaves yX4_drawAllLeaves, Cond.code yX4_drawAllLeaves cX4_drawAllLeaves 3 none, Cond.fieldLink RX4 28 "VeiledFiles" "mapLeaves" "[I", Cond.methodLink RX4 101 yX1_draw, Cond.instanceMethod yX1_draw, Cond.selects RX1 yX1_draw yX1_draw, Cond.code yX1_draw cX1_draw 2 (some .int), Cond.methodLink RX4 159 yX3_moveTo, Cond.instanceMethod yX3_moveTo, Cond.selects RX3 yX3_moveTo yX3_moveTo, Cond.code yX3_moveTo cX3_moveTo 3 none, Cond.fieldLink RX3 38 "VeiledFiles$Tree" "leaves" "[I", Cond.methodLink RX4 162 yX4_setEntry, Cond.instanceMethod yX4_setEntry, Cond.selects RX4 yX4_setEntry yX4_setEntry, Cond.code yX4_setEntry cX4_setEntry 6 none, Cond.methodLink RX4 176 yX4_entryShift, Cond.static yX4_entryShift, Cond.code yX4_entryShift cX4_entryShift 1 (some .int), Cond.methodLink RX4 98 yX3_wordOf, Cond.instanceMethod yX3_wordOf, Cond.selects RX3 yX3_wordOf yX3_wordOf, Cond.code yX3_wordOf cX3_wordOf 3 (some .int), Cond.methodLink RX4 86 yX3_setWord]
def wsX4_start_r4 : List Cond := [Cond.instanceMethod yX3_setWord, Cond.selects RX3 yX3_setWord yX3_setWord, Cond.code yX3_setWord cX3_setWord 4 none, Cond.methodLink RX4 156 yX3_settleAll, Cond.instanceMethod yX3_settleAll, Cond.selects RX3 yX3_settleAll yX3_settleAll, Cond.code yX3_settleAll cX3_settleAll 2 none, Cond.fieldLink RX3 21 "VeiledFiles$Tree" "buckets" "I", Cond.methodLink RX3 53 yX3_settle, Cond.instanceMethod yX3_settle, Cond.selects RX3 yX3_settle yX3_settle, Cond.code yX3_settle cX3_settle 5 none, Cond.fieldLink RX3 18 "VeiledFiles$Tree" "levels" "I", Cond.methodLink RX3 71 yX3_bucketOver, Cond.instanceMethod yX3_bucketOver, Cond.selects RX3 yX3_bucketOver yX3_bucketOver, Cond.code yX3_bucketOver cX3_bucketOver 3 (some .int), Cond.fieldLink RX3 15 "VeiledFiles$Tree" "leafCount" "I", Cond.methodLink RX3 82 yX3_slotStart, Cond.static yX3_slotStart, Cond.code yX3_slotStart cX3_slotStart 2 (some .int), Cond.methodLink RX3 85 yX3_place, Cond.instanceMethod yX3_place, Cond.selects RX3 yX3_place yX3_place]
def wsX4_start_r5 : List Cond := [Cond.code yX3_place cX3_place 6 none, Cond.methodLink RX3 88 yX3_wordOf, Cond.methodLink RX3 57 yX3_seal, Cond.instanceMethod yX3_seal, Cond.selects RX3 yX3_seal yX3_seal, Cond.code yX3_seal cX3_seal 2 none, Cond.methodLink RX3 91 yX3_maskWords, Cond.instanceMethod yX3_maskWords, Cond.selects RX3 yX3_maskWords yX3_maskWords, Cond.code yX3_maskWords cX3_maskWords 4 none, Cond.methodLink RX3 101 yX3_pad, Cond.instanceMethod yX3_pad, Cond.selects RX3 yX3_pad yX3_pad, Cond.code yX3_pad cX3_pad 4 (some .int), Cond.fieldLink RX3 9 "VeiledFiles$Tree" "number" "I", Cond.constant RX3 105 (-1640531535), Cond.constant RX3 106 (-2048144777), Cond.constant RX3 107 (-1028477379), Cond.constant RX3 108 (739982445), Cond.constant RX3 109 (695872825), Cond.methodLink RX3 97 yX3_tagDue, Cond.instanceMethod yX3_tagDue, Cond.selects RX3 yX3_tagDue yX3_tagDue, Cond.code yX3_tagDue cX3_tagDue 5 (some .int)]
def wsX4_start_r6 : List Cond := [Cond.constant RX3 104 (16777619)]
def wsX4_start : List Cond := .code yX4_start cX4_start 3 none :: ((wsX4_start_r1 ++ (wsX4_start_r2 ++ (wsX4_start_r3 ++ (wsX4_start_r4 ++ (wsX4_start_r5 ++ wsX4_start_r6))))) ++ wsX40 ++ wsX10 ++ wsX30 ++ wsX00 ++ wsX20)
def wsX4_create : List Cond := .code yX4_create cX4_create 3 (some .int) :: ([.fieldLink RX4 35 "VeiledFiles" "book" "LVeiledFiles$Book;", .methodLink RX4 50 yX0_add, .instanceMethod yX0_add, .selects RX0 yX0_add yX0_add, .initialized RX0, .code yX0_add cX0_add 4 (some .int), .fieldLink RX0 11 "VeiledFiles$Book" "names" "[J", .fieldLink RX0 15 "VeiledFiles$Book" "lengths" "[I", .methodLink RX0 32 yX0_leastFreeNumber, .instanceMethod yX0_leastFreeNumber, .selects RX0 yX0_leastFreeNumber yX0_leastFreeNumber, .code yX0_leastFreeNumber cX0_leastFreeNumber 2 (some .int), .methodLink RX0 36 yX0_numberOf, .instanceMethod yX0_numberOf, .selects RX0 yX0_numberOf yX0_numberOf, .code yX0_numberOf cX0_numberOf 4 (some .int)] ++ wsX40 ++ wsX00)
def wsX4_find : List Cond := .code yX4_find cX4_find 3 (some .int) :: ([.fieldLink RX4 35 "VeiledFiles" "book" "LVeiledFiles$Book;", .methodLink RX4 54 yX0_numberOf, .instanceMethod yX0_numberOf, .selects RX0 yX0_numberOf yX0_numberOf, .initialized RX0, .code yX0_numberOf cX0_numberOf 4 (some .int), .fieldLink RX0 15 "VeiledFiles$Book" "lengths" "[I", .fieldLink RX0 11 "VeiledFiles$Book" "names" "[J"] ++ wsX40 ++ wsX00)
def wsX4_remove : List Cond := .code yX4_remove cX4_remove 2 (some .boolean) :: ([.fieldLink RX4 35 "VeiledFiles" "book" "LVeiledFiles$Book;", .methodLink RX4 57 yX0_drop, .instanceMethod yX0_drop, .selects RX0 yX0_drop yX0_drop, .initialized RX0, .code yX0_drop cX0_drop 3 (some .boolean), .fieldLink RX0 15 "VeiledFiles$Book" "lengths" "[I", .fieldLink RX0 22 "VeiledFiles$Book" "taken" "[Z", .fieldLink RX0 19 "VeiledFiles$Book" "partBlocks" "[I", .methodLink RX0 40 yX0_lengthOf, .instanceMethod yX0_lengthOf, .selects RX0 yX0_lengthOf yX0_lengthOf, .code yX0_lengthOf cX0_lengthOf 2 (some .int), .methodLink RX0 44 yX0_partAt, .static yX0_partAt, .code yX0_partAt cX0_partAt 2 (some .int)] ++ wsX40 ++ wsX00)
def wsX4_size : List Cond := .code yX4_size cX4_size 2 (some .int) :: ([.fieldLink RX4 35 "VeiledFiles" "book" "LVeiledFiles$Book;", .methodLink RX4 61 yX0_lengthOf, .instanceMethod yX0_lengthOf, .selects RX0 yX0_lengthOf yX0_lengthOf, .initialized RX0, .code yX0_lengthOf cX0_lengthOf 2 (some .int), .fieldLink RX0 15 "VeiledFiles$Book" "lengths" "[I"] ++ wsX40 ++ wsX00)
def wsX4_entryOf : List Cond := .code yX4_entryOf cX4_entryOf 4 (some .int) :: ([.fieldLink RX4 21 "VeiledFiles" "map" "LVeiledFiles$Tree;", .methodLink RX4 98 yX3_wordOf, .instanceMethod yX3_wordOf, .selects RX3 yX3_wordOf yX3_wordOf, .initialized RX3, .code yX3_wordOf cX3_wordOf 3 (some .int), .fieldLink RX3 41 "VeiledFiles$Tree" "words" "[I", .methodLink RX4 176 yX4_entryShift, .static yX4_entryShift, .initialized RX4, .code yX4_entryShift cX4_entryShift 1 (some .int)] ++ wsX40 ++ wsX30)
def wsX4_openPathOf_r1 : List Cond := [Cond.fieldLink RX4 140 "VeiledFiles" "dead" "Z", Cond.fieldLink RX4 28 "VeiledFiles" "mapLeaves" "[I", Cond.fieldLink RX4 10 "VeiledFiles" "dice" "LVeiledFiles$Dice;", Cond.fieldLink RX4 42 "VeiledFiles" "trail" "LVeiledFiles$Trail;", Cond.fieldLink RX4 21 "VeiledFiles" "map" "LVeiledFiles$Tree;", Cond.fieldLink RX4 25 "VeiledFiles" "data" "LVeiledFiles$Tree;", Cond.methodLink RX4 101 yX1_draw, Cond.instanceMethod yX1_draw, Cond.selects RX1 yX1_draw yX1_draw, Cond.initialized RX1, Cond.code yX1_draw cX1_draw 2 (some .int), Cond.fieldLink RX1 7 "VeiledFiles$Dice" "word" "I", Cond.methodLink RX4 165 yX2_add, Cond.instanceMethod yX2_add, Cond.selects RX2 yX2_add yX2_add, Cond.initialized RX2, Cond.code yX2_add cX2_add 2 none, Cond.fieldLink RX2 11 "VeiledFiles$Trail" "mapLeaf" "[I", Cond.fieldLink RX2 18 "VeiledFiles$Trail" "count" "I", Cond.fieldLink RX2 15 "VeiledFiles$Trail" "dataLeaf" "[I", Cond.methodLink RX4 167 yX3_take, Cond.instanceMethod yX3_take, Cond.selects RX3 yX3_take yX3_take, Cond.initialized RX3]
def wsX4_openPathOf_r2 : List Cond := [Cond.code yX3_take cX3_take 3 (some .boolean), Cond.fieldLink RX3 18 "VeiledFiles$Tree" "levels" "I", Cond.methodLink RX3 71 yX3_bucketOver, Cond.instanceMethod yX3_bucketOver, Cond.selects RX3 yX3_bucketOver yX3_bucketOver, Cond.code yX3_bucketOver cX3_bucketOver 3 (some .int), Cond.fieldLink RX3 15 "VeiledFiles$Tree" "leafCount" "I", Cond.methodLink RX3 64 yX3_isWhole, Cond.instanceMethod yX3_isWhole, Cond.selects RX3 yX3_isWhole yX3_isWhole, Cond.code yX3_isWhole cX3_isWhole 2 (some .boolean), Cond.fieldLink RX3 27 "VeiledFiles$Tree" "store" "[I", Cond.methodLink RX3 97 yX3_tagDue, Cond.instanceMethod yX3_tagDue, Cond.selects RX3 yX3_tagDue yX3_tagDue, Cond.code yX3_tagDue cX3_tagDue 5 (some .int), Cond.constant RX3 104 (16777619), Cond.methodLink RX3 101 yX3_pad, Cond.instanceMethod yX3_pad, Cond.selects RX3 yX3_pad yX3_pad, Cond.code yX3_pad cX3_pad 4 (some .int), Cond.fieldLink RX3 44 "VeiledFiles$Tree" "key" "I", Cond.fieldLink RX3 9 "VeiledFiles$Tree" "number" "I", Cond.constant RX3 105 (-1640531535)]
def wsX4_openPathOf_r3 : List Cond := [Cond.fieldLink RX3 31 "VeiledFiles$Tree" "counters" "[I", Cond.constant RX3 106 (-2048144777), Cond.constant RX3 107 (-1028477379), Cond.constant RX3 108 (739982445), Cond.constant RX3 109 (695872825), Cond.methodLink RX3 75 yX3_unload, Cond.instanceMethod yX3_unload, Cond.selects RX3 yX3_unload yX3_unload, Cond.code yX3_unload cX3_unload 4 none, Cond.methodLink RX3 91 yX3_maskWords, Cond.instanceMethod yX3_maskWords, Cond.selects RX3 yX3_maskWords yX3_maskWords, Cond.code yX3_maskWords cX3_maskWords 4 none, Cond.methodLink RX3 82 yX3_slotStart, Cond.static yX3_slotStart, Cond.code yX3_slotStart cX3_slotStart 2 (some .int), Cond.methodLink RX3 94 yX3_hold, Cond.instanceMethod yX3_hold, Cond.selects RX3 yX3_hold yX3_hold, Cond.code yX3_hold cX3_hold 4 none, Cond.fieldLink RX3 24 "VeiledFiles$Tree" "blocks" "I", Cond.fieldLink RX3 34 "VeiledFiles$Tree" "held" "[Z", Cond.fieldLink RX3 38 "VeiledFiles$Tree" "leaves" "[I", Cond.methodLink RX3 67 yX3_setWord]
def wsX4_openPathOf_r4 : List Cond := [Cond.instanceMethod yX3_setWord, Cond.selects RX3 yX3_setWord yX3_setWord, Cond.code yX3_setWord cX3_setWord 4 none, Cond.fieldLink RX3 41 "VeiledFiles$Tree" "words" "[I", Cond.methodLink RX4 159 yX3_moveTo, Cond.instanceMethod yX3_moveTo, Cond.selects RX3 yX3_moveTo yX3_moveTo, Cond.code yX3_moveTo cX3_moveTo 3 none, Cond.methodLink RX4 170 yX4_entryOf, Cond.instanceMethod yX4_entryOf, Cond.selects RX4 yX4_entryOf yX4_entryOf, Cond.initialized RX4, Cond.code yX4_entryOf cX4_entryOf 4 (some .int), Cond.methodLink RX4 98 yX3_wordOf, Cond.instanceMethod yX3_wordOf, Cond.selects RX3 yX3_wordOf yX3_wordOf, Cond.code yX3_wordOf cX3_wordOf 3 (some .int), Cond.methodLink RX4 176 yX4_entryShift, Cond.static yX4_entryShift, Cond.code yX4_entryShift cX4_entryShift 1 (some .int), Cond.methodLink RX4 162 yX4_setEntry, Cond.instanceMethod yX4_setEntry, Cond.selects RX4 yX4_setEntry yX4_setEntry, Cond.code yX4_setEntry cX4_setEntry 6 none]
def wsX4_openPathOf_r5 : List Cond := [Cond.methodLink RX4 86 yX3_setWord, Cond.methodLink RX4 89 yX3_putBack, Cond.instanceMethod yX3_putBack, Cond.selects RX3 yX3_putBack yX3_putBack, Cond.code yX3_putBack cX3_putBack 4 none, Cond.methodLink RX3 78 yX3_load, Cond.instanceMethod yX3_load, Cond.selects RX3 yX3_load yX3_load, Cond.code yX3_load cX3_load 5 none, Cond.methodLink RX3 85 yX3_place, Cond.instanceMethod yX3_place, Cond.selects RX3 yX3_place yX3_place, Cond.code yX3_place cX3_place 6 none, Cond.methodLink RX3 88 yX3_wordOf, Cond.methodLink RX3 57 yX3_seal, Cond.instanceMethod yX3_seal, Cond.selects RX3 yX3_seal yX3_seal, Cond.code yX3_seal cX3_seal 2 none, Cond.methodLink RX4 173 yX2_setDataLeaf, Cond.instanceMethod yX2_setDataLeaf, Cond.selects RX2 yX2_setDataLeaf yX2_setDataLeaf, Cond.code yX2_setDataLeaf cX2_setDataLeaf 2 none]
def wsX4_openPathOf : List Cond := .code yX4_openPathOf cX4_openPathOf 6 (some .int) :: ((wsX4_openPathOf_r1 ++ (wsX4_openPathOf_r2 ++ (wsX4_openPathOf_r3 ++ (wsX4_openPathOf_r4 ++ wsX4_openPathOf_r5)))) ++ wsX40 ++ wsX10 ++ wsX20 ++ wsX30)
def wsX4_write_r1 : List Cond := [Cond.classLink RX4 69 "java/lang/IndexOutOfBoundsException", Cond.initialized "java/lang/IndexOutOfBoundsException", Cond.classLink RX4 75 "java/lang/IllegalStateException", Cond.initialized "java/lang/IllegalStateException", Cond.fieldLink RX4 35 "VeiledFiles" "book" "LVeiledFiles$Book;", Cond.fieldLink RX4 25 "VeiledFiles" "data" "LVeiledFiles$Tree;", Cond.methodLink RX4 65 yX0_blockToWrite, Cond.instanceMethod yX0_blockToWrite, Cond.selects RX0 yX0_blockToWrite yX0_blockToWrite, Cond.initialized RX0, Cond.code yX0_blockToWrite cX0_blockToWrite 3 (some .int), Cond.fieldLink RX0 19 "VeiledFiles$Book" "partBlocks" "[I", Cond.methodLink RX0 40 yX0_lengthOf, Cond.instanceMethod yX0_lengthOf, Cond.selects RX0 yX0_lengthOf yX0_lengthOf, Cond.code yX0_lengthOf cX0_lengthOf 2 (some .int), Cond.fieldLink RX0 15 "VeiledFiles$Book" "lengths" "[I", Cond.methodLink RX0 48 yX0_opensPart, Cond.instanceMethod yX0_opensPart, Cond.selects RX0 yX0_opensPart yX0_opensPart, Cond.code yX0_opensPart cX0_opensPart 3 (some .boolean), Cond.methodLink RX0 52 yX0_leastFreeBlock, Cond.instanceMethod yX0_leastFreeBlock, Cond.selects RX0 yX0_leastFreeBlock yX0_leastFreeBlock]
def wsX4_write_r2 : List Cond := [Cond.code yX0_leastFreeBlock cX0_leastFreeBlock 2 (some .int), Cond.fieldLink RX0 22 "VeiledFiles$Book" "taken" "[Z", Cond.methodLink RX0 44 yX0_partAt, Cond.static yX0_partAt, Cond.code yX0_partAt cX0_partAt 2 (some .int), Cond.methodLink RX4 72 yX4_openPathOf, Cond.instanceMethod yX4_openPathOf, Cond.selects RX4 yX4_openPathOf yX4_openPathOf, Cond.initialized RX4, Cond.code yX4_openPathOf cX4_openPathOf 6 (some .int), Cond.fieldLink RX4 140 "VeiledFiles" "dead" "Z", Cond.fieldLink RX4 28 "VeiledFiles" "mapLeaves" "[I", Cond.fieldLink RX4 10 "VeiledFiles" "dice" "LVeiledFiles$Dice;", Cond.fieldLink RX4 42 "VeiledFiles" "trail" "LVeiledFiles$Trail;", Cond.fieldLink RX4 21 "VeiledFiles" "map" "LVeiledFiles$Tree;", Cond.methodLink RX4 101 yX1_draw, Cond.instanceMethod yX1_draw, Cond.selects RX1 yX1_draw yX1_draw, Cond.initialized RX1, Cond.code yX1_draw cX1_draw 2 (some .int), Cond.fieldLink RX1 7 "VeiledFiles$Dice" "word" "I", Cond.methodLink RX4 165 yX2_add, Cond.instanceMethod yX2_add, Cond.selects RX2 yX2_add yX2_add]
def wsX4_write_r3 : List Cond := [Cond.initialized RX2, Cond.code yX2_add cX2_add 2 none, Cond.fieldLink RX2 11 "VeiledFiles$Trail" "mapLeaf" "[I", Cond.fieldLink RX2 18 "VeiledFiles$Trail" "count" "I", Cond.fieldLink RX2 15 "VeiledFiles$Trail" "dataLeaf" "[I", Cond.methodLink RX4 167 yX3_take, Cond.instanceMethod yX3_take, Cond.selects RX3 yX3_take yX3_take, Cond.initialized RX3, Cond.code yX3_take cX3_take 3 (some .boolean), Cond.fieldLink RX3 18 "VeiledFiles$Tree" "levels" "I", Cond.methodLink RX3 71 yX3_bucketOver, Cond.instanceMethod yX3_bucketOver, Cond.selects RX3 yX3_bucketOver yX3_bucketOver, Cond.code yX3_bucketOver cX3_bucketOver 3 (some .int), Cond.fieldLink RX3 15 "VeiledFiles$Tree" "leafCount" "I", Cond.methodLink RX3 64 yX3_isWhole, Cond.instanceMethod yX3_isWhole, Cond.selects RX3 yX3_isWhole yX3_isWhole, Cond.code yX3_isWhole cX3_isWhole 2 (some .boolean), Cond.fieldLink RX3 27 "VeiledFiles$Tree" "store" "[I", Cond.methodLink RX3 97 yX3_tagDue, Cond.instanceMethod yX3_tagDue, Cond.selects RX3 yX3_tagDue yX3_tagDue]
def wsX4_write_r4 : List Cond := [Cond.code yX3_tagDue cX3_tagDue 5 (some .int), Cond.constant RX3 104 (16777619), Cond.methodLink RX3 101 yX3_pad, Cond.instanceMethod yX3_pad, Cond.selects RX3 yX3_pad yX3_pad, Cond.code yX3_pad cX3_pad 4 (some .int), Cond.fieldLink RX3 44 "VeiledFiles$Tree" "key" "I", Cond.fieldLink RX3 9 "VeiledFiles$Tree" "number" "I", Cond.constant RX3 105 (-1640531535), Cond.fieldLink RX3 31 "VeiledFiles$Tree" "counters" "[I", Cond.constant RX3 106 (-2048144777), Cond.constant RX3 107 (-1028477379), Cond.constant RX3 108 (739982445), Cond.constant RX3 109 (695872825), Cond.methodLink RX3 75 yX3_unload, Cond.instanceMethod yX3_unload, Cond.selects RX3 yX3_unload yX3_unload, Cond.code yX3_unload cX3_unload 4 none, Cond.methodLink RX3 91 yX3_maskWords, Cond.instanceMethod yX3_maskWords, Cond.selects RX3 yX3_maskWords yX3_maskWords, Cond.code yX3_maskWords cX3_maskWords 4 none, Cond.methodLink RX3 82 yX3_slotStart, Cond.static yX3_slotStart]
def wsX4_write_r5 : List Cond := [Cond.code yX3_slotStart cX3_slotStart 2 (some .int), Cond.methodLink RX3 94 yX3_hold, Cond.instanceMethod yX3_hold, Cond.selects RX3 yX3_hold yX3_hold, Cond.code yX3_hold cX3_hold 4 none, Cond.fieldLink RX3 24 "VeiledFiles$Tree" "blocks" "I", Cond.fieldLink RX3 34 "VeiledFiles$Tree" "held" "[Z", Cond.fieldLink RX3 38 "VeiledFiles$Tree" "leaves" "[I", Cond.methodLink RX3 67 yX3_setWord, Cond.instanceMethod yX3_setWord, Cond.selects RX3 yX3_setWord yX3_setWord, Cond.code yX3_setWord cX3_setWord 4 none, Cond.fieldLink RX3 41 "VeiledFiles$Tree" "words" "[I", Cond.methodLink RX4 159 yX3_moveTo, Cond.instanceMethod yX3_moveTo, Cond.selects RX3 yX3_moveTo yX3_moveTo, Cond.code yX3_moveTo cX3_moveTo 3 none, Cond.methodLink RX4 170 yX4_entryOf, Cond.instanceMethod yX4_entryOf, Cond.selects RX4 yX4_entryOf yX4_entryOf, Cond.code yX4_entryOf cX4_entryOf 4 (some .int), Cond.methodLink RX4 98 yX3_wordOf, Cond.instanceMethod yX3_wordOf, Cond.selects RX3 yX3_wordOf yX3_wordOf]
def wsX4_write_r6 : List Cond := [Cond.code yX3_wordOf cX3_wordOf 3 (some .int), Cond.methodLink RX4 176 yX4_entryShift, Cond.static yX4_entryShift, Cond.code yX4_entryShift cX4_entryShift 1 (some .int), Cond.methodLink RX4 162 yX4_setEntry, Cond.instanceMethod yX4_setEntry, Cond.selects RX4 yX4_setEntry yX4_setEntry, Cond.code yX4_setEntry cX4_setEntry 6 none, Cond.methodLink RX4 86 yX3_setWord, Cond.methodLink RX4 89 yX3_putBack, Cond.instanceMethod yX3_putBack, Cond.selects RX3 yX3_putBack yX3_putBack, Cond.code yX3_putBack cX3_putBack 4 none, Cond.methodLink RX3 78 yX3_load, Cond.instanceMethod yX3_load, Cond.selects RX3 yX3_load yX3_load, Cond.code yX3_load cX3_load 5 none, Cond.methodLink RX3 85 yX3_place, Cond.instanceMethod yX3_place, Cond.selects RX3 yX3_place yX3_place, Cond.code yX3_place cX3_place 6 none, Cond.methodLink RX3 88 yX3_wordOf, Cond.methodLink RX3 57 yX3_seal, Cond.instanceMethod yX3_seal]
def wsX4_write_r7 : List Cond := [Cond.selects RX3 yX3_seal yX3_seal, Cond.code yX3_seal cX3_seal 2 none, Cond.methodLink RX4 173 yX2_setDataLeaf, Cond.instanceMethod yX2_setDataLeaf, Cond.selects RX2 yX2_setDataLeaf yX2_setDataLeaf, Cond.code yX2_setDataLeaf cX2_setDataLeaf 2 none, Cond.methodLink RX4 78 yX0_opensPart, Cond.methodLink RX4 82 yX3_clearWords, Cond.instanceMethod yX3_clearWords, Cond.selects RX3 yX3_clearWords yX3_clearWords, Cond.code yX3_clearWords cX3_clearWords 3 none, Cond.methodLink RX4 92 yX0_noteWritten, Cond.instanceMethod yX0_noteWritten, Cond.selects RX0 yX0_noteWritten yX0_noteWritten, Cond.code yX0_noteWritten cX0_noteWritten 4 none]
def wsX4_write : List Cond := .code yX4_write cX4_write 6 none :: ((wsX4_write_r1 ++ (wsX4_write_r2 ++ (wsX4_write_r3 ++ (wsX4_write_r4 ++ (wsX4_write_r5 ++ (wsX4_write_r6 ++ wsX4_write_r7)))))) ++ wsX40 ++ wsX00 ++ wsX10 ++ wsX20 ++ wsX30 ++ (vx_at0 RX4 71 "java/lang/IndexOutOfBoundsException" ["java/lang/RuntimeException", "java/lang/Exception"]).filter goodWord ++ (vx_at0 RX4 77 "java/lang/IllegalStateException" ["java/lang/RuntimeException", "java/lang/Exception"]).filter goodWord)
def wsX4_read_r1 : List Cond := [Cond.classLink RX4 69 "java/lang/IndexOutOfBoundsException", Cond.initialized "java/lang/IndexOutOfBoundsException", Cond.classLink RX4 75 "java/lang/IllegalStateException", Cond.initialized "java/lang/IllegalStateException", Cond.fieldLink RX4 35 "VeiledFiles" "book" "LVeiledFiles$Book;", Cond.fieldLink RX4 25 "VeiledFiles" "data" "LVeiledFiles$Tree;", Cond.methodLink RX4 95 yX0_blockToRead, Cond.instanceMethod yX0_blockToRead, Cond.selects RX0 yX0_blockToRead yX0_blockToRead, Cond.initialized RX0, Cond.code yX0_blockToRead cX0_blockToRead 3 (some .int), Cond.fieldLink RX0 19 "VeiledFiles$Book" "partBlocks" "[I", Cond.methodLink RX0 40 yX0_lengthOf, Cond.instanceMethod yX0_lengthOf, Cond.selects RX0 yX0_lengthOf yX0_lengthOf, Cond.code yX0_lengthOf cX0_lengthOf 2 (some .int), Cond.fieldLink RX0 15 "VeiledFiles$Book" "lengths" "[I", Cond.methodLink RX0 44 yX0_partAt, Cond.static yX0_partAt, Cond.code yX0_partAt cX0_partAt 2 (some .int), Cond.methodLink RX4 72 yX4_openPathOf, Cond.instanceMethod yX4_openPathOf, Cond.selects RX4 yX4_openPathOf yX4_openPathOf, Cond.initialized RX4]
def wsX4_read_r2 : List Cond := [Cond.code yX4_openPathOf cX4_openPathOf 6 (some .int), Cond.fieldLink RX4 140 "VeiledFiles" "dead" "Z", Cond.fieldLink RX4 28 "VeiledFiles" "mapLeaves" "[I", Cond.fieldLink RX4 10 "VeiledFiles" "dice" "LVeiledFiles$Dice;", Cond.fieldLink RX4 42 "VeiledFiles" "trail" "LVeiledFiles$Trail;", Cond.fieldLink RX4 21 "VeiledFiles" "map" "LVeiledFiles$Tree;", Cond.methodLink RX4 101 yX1_draw, Cond.instanceMethod yX1_draw, Cond.selects RX1 yX1_draw yX1_draw, Cond.initialized RX1, Cond.code yX1_draw cX1_draw 2 (some .int), Cond.fieldLink RX1 7 "VeiledFiles$Dice" "word" "I", Cond.methodLink RX4 165 yX2_add, Cond.instanceMethod yX2_add, Cond.selects RX2 yX2_add yX2_add, Cond.initialized RX2, Cond.code yX2_add cX2_add 2 none, Cond.fieldLink RX2 11 "VeiledFiles$Trail" "mapLeaf" "[I", Cond.fieldLink RX2 18 "VeiledFiles$Trail" "count" "I", Cond.fieldLink RX2 15 "VeiledFiles$Trail" "dataLeaf" "[I", Cond.methodLink RX4 167 yX3_take, Cond.instanceMethod yX3_take, Cond.selects RX3 yX3_take yX3_take, Cond.initialized RX3]
def wsX4_read_r3 : List Cond := [Cond.code yX3_take cX3_take 3 (some .boolean), Cond.fieldLink RX3 18 "VeiledFiles$Tree" "levels" "I", Cond.methodLink RX3 71 yX3_bucketOver, Cond.instanceMethod yX3_bucketOver, Cond.selects RX3 yX3_bucketOver yX3_bucketOver, Cond.code yX3_bucketOver cX3_bucketOver 3 (some .int), Cond.fieldLink RX3 15 "VeiledFiles$Tree" "leafCount" "I", Cond.methodLink RX3 64 yX3_isWhole, Cond.instanceMethod yX3_isWhole, Cond.selects RX3 yX3_isWhole yX3_isWhole, Cond.code yX3_isWhole cX3_isWhole 2 (some .boolean), Cond.fieldLink RX3 27 "VeiledFiles$Tree" "store" "[I", Cond.methodLink RX3 97 yX3_tagDue, Cond.instanceMethod yX3_tagDue, Cond.selects RX3 yX3_tagDue yX3_tagDue, Cond.code yX3_tagDue cX3_tagDue 5 (some .int), Cond.constant RX3 104 (16777619), Cond.methodLink RX3 101 yX3_pad, Cond.instanceMethod yX3_pad, Cond.selects RX3 yX3_pad yX3_pad, Cond.code yX3_pad cX3_pad 4 (some .int), Cond.fieldLink RX3 44 "VeiledFiles$Tree" "key" "I", Cond.fieldLink RX3 9 "VeiledFiles$Tree" "number" "I", Cond.constant RX3 105 (-1640531535)]
def wsX4_read_r4 : List Cond := [Cond.fieldLink RX3 31 "VeiledFiles$Tree" "counters" "[I", Cond.constant RX3 106 (-2048144777), Cond.constant RX3 107 (-1028477379), Cond.constant RX3 108 (739982445), Cond.constant RX3 109 (695872825), Cond.methodLink RX3 75 yX3_unload, Cond.instanceMethod yX3_unload, Cond.selects RX3 yX3_unload yX3_unload, Cond.code yX3_unload cX3_unload 4 none, Cond.methodLink RX3 91 yX3_maskWords, Cond.instanceMethod yX3_maskWords, Cond.selects RX3 yX3_maskWords yX3_maskWords, Cond.code yX3_maskWords cX3_maskWords 4 none, Cond.methodLink RX3 82 yX3_slotStart, Cond.static yX3_slotStart, Cond.code yX3_slotStart cX3_slotStart 2 (some .int), Cond.methodLink RX3 94 yX3_hold, Cond.instanceMethod yX3_hold, Cond.selects RX3 yX3_hold yX3_hold, Cond.code yX3_hold cX3_hold 4 none, Cond.fieldLink RX3 24 "VeiledFiles$Tree" "blocks" "I", Cond.fieldLink RX3 34 "VeiledFiles$Tree" "held" "[Z", Cond.fieldLink RX3 38 "VeiledFiles$Tree" "leaves" "[I", Cond.methodLink RX3 67 yX3_setWord]
def wsX4_read_r5 : List Cond := [Cond.instanceMethod yX3_setWord, Cond.selects RX3 yX3_setWord yX3_setWord, Cond.code yX3_setWord cX3_setWord 4 none, Cond.fieldLink RX3 41 "VeiledFiles$Tree" "words" "[I", Cond.methodLink RX4 159 yX3_moveTo, Cond.instanceMethod yX3_moveTo, Cond.selects RX3 yX3_moveTo yX3_moveTo, Cond.code yX3_moveTo cX3_moveTo 3 none, Cond.methodLink RX4 170 yX4_entryOf, Cond.instanceMethod yX4_entryOf, Cond.selects RX4 yX4_entryOf yX4_entryOf, Cond.code yX4_entryOf cX4_entryOf 4 (some .int), Cond.methodLink RX4 98 yX3_wordOf, Cond.instanceMethod yX3_wordOf, Cond.selects RX3 yX3_wordOf yX3_wordOf, Cond.code yX3_wordOf cX3_wordOf 3 (some .int), Cond.methodLink RX4 176 yX4_entryShift, Cond.static yX4_entryShift, Cond.code yX4_entryShift cX4_entryShift 1 (some .int), Cond.methodLink RX4 162 yX4_setEntry, Cond.instanceMethod yX4_setEntry, Cond.selects RX4 yX4_setEntry yX4_setEntry, Cond.code yX4_setEntry cX4_setEntry 6 none, Cond.methodLink RX4 86 yX3_setWord]
def wsX4_read_r6 : List Cond := [Cond.methodLink RX4 89 yX3_putBack, Cond.instanceMethod yX3_putBack, Cond.selects RX3 yX3_putBack yX3_putBack, Cond.code yX3_putBack cX3_putBack 4 none, Cond.methodLink RX3 78 yX3_load, Cond.instanceMethod yX3_load, Cond.selects RX3 yX3_load yX3_load, Cond.code yX3_load cX3_load 5 none, Cond.methodLink RX3 85 yX3_place, Cond.instanceMethod yX3_place, Cond.selects RX3 yX3_place yX3_place, Cond.code yX3_place cX3_place 6 none, Cond.methodLink RX3 88 yX3_wordOf, Cond.methodLink RX3 57 yX3_seal, Cond.instanceMethod yX3_seal, Cond.selects RX3 yX3_seal yX3_seal, Cond.code yX3_seal cX3_seal 2 none, Cond.methodLink RX4 173 yX2_setDataLeaf, Cond.instanceMethod yX2_setDataLeaf, Cond.selects RX2 yX2_setDataLeaf yX2_setDataLeaf, Cond.code yX2_setDataLeaf cX2_setDataLeaf 2 none]
def wsX4_read : List Cond := .code yX4_read cX4_read 6 (some .int) :: ((wsX4_read_r1 ++ (wsX4_read_r2 ++ (wsX4_read_r3 ++ (wsX4_read_r4 ++ (wsX4_read_r5 ++ wsX4_read_r6))))) ++ wsX40 ++ wsX00 ++ wsX10 ++ wsX20 ++ wsX30 ++ (vx_at0 RX4 71 "java/lang/IndexOutOfBoundsException" ["java/lang/RuntimeException", "java/lang/Exception"]).filter goodWord ++ (vx_at0 RX4 77 "java/lang/IllegalStateException" ["java/lang/RuntimeException", "java/lang/Exception"]).filter goodWord)
def wsX4_idle_r1 : List Cond := [Cond.classLink RX4 75 "java/lang/IllegalStateException", Cond.initialized "java/lang/IllegalStateException", Cond.fieldLink RX4 10 "VeiledFiles" "dice" "LVeiledFiles$Dice;", Cond.fieldLink RX4 25 "VeiledFiles" "data" "LVeiledFiles$Tree;", Cond.methodLink RX4 101 yX1_draw, Cond.instanceMethod yX1_draw, Cond.selects RX1 yX1_draw yX1_draw, Cond.initialized RX1, Cond.code yX1_draw cX1_draw 2 (some .int), Cond.fieldLink RX1 7 "VeiledFiles$Dice" "word" "I", Cond.methodLink RX4 72 yX4_openPathOf, Cond.instanceMethod yX4_openPathOf, Cond.selects RX4 yX4_openPathOf yX4_openPathOf, Cond.initialized RX4, Cond.code yX4_openPathOf cX4_openPathOf 6 (some .int), Cond.fieldLink RX4 140 "VeiledFiles" "dead" "Z", Cond.fieldLink RX4 28 "VeiledFiles" "mapLeaves" "[I", Cond.fieldLink RX4 42 "VeiledFiles" "trail" "LVeiledFiles$Trail;", Cond.fieldLink RX4 21 "VeiledFiles" "map" "LVeiledFiles$Tree;", Cond.methodLink RX4 165 yX2_add, Cond.instanceMethod yX2_add, Cond.selects RX2 yX2_add yX2_add, Cond.initialized RX2, Cond.code yX2_add cX2_add 2 none]
def wsX4_idle_r2 : List Cond := [Cond.fieldLink RX2 11 "VeiledFiles$Trail" "mapLeaf" "[I", Cond.fieldLink RX2 18 "VeiledFiles$Trail" "count" "I", Cond.fieldLink RX2 15 "VeiledFiles$Trail" "dataLeaf" "[I", Cond.methodLink RX4 167 yX3_take, Cond.instanceMethod yX3_take, Cond.selects RX3 yX3_take yX3_take, Cond.initialized RX3, Cond.code yX3_take cX3_take 3 (some .boolean), Cond.fieldLink RX3 18 "VeiledFiles$Tree" "levels" "I", Cond.methodLink RX3 71 yX3_bucketOver, Cond.instanceMethod yX3_bucketOver, Cond.selects RX3 yX3_bucketOver yX3_bucketOver, Cond.code yX3_bucketOver cX3_bucketOver 3 (some .int), Cond.fieldLink RX3 15 "VeiledFiles$Tree" "leafCount" "I", Cond.methodLink RX3 64 yX3_isWhole, Cond.instanceMethod yX3_isWhole, Cond.selects RX3 yX3_isWhole yX3_isWhole, Cond.code yX3_isWhole cX3_isWhole 2 (some .boolean), Cond.fieldLink RX3 27 "VeiledFiles$Tree" "store" "[I", Cond.methodLink RX3 97 yX3_tagDue, Cond.instanceMethod yX3_tagDue, Cond.selects RX3 yX3_tagDue yX3_tagDue, Cond.code yX3_tagDue cX3_tagDue 5 (some .int), Cond.constant RX3 104 (16777619)]
def wsX4_idle_r3 : List Cond := [Cond.methodLink RX3 101 yX3_pad, Cond.instanceMethod yX3_pad, Cond.selects RX3 yX3_pad yX3_pad, Cond.code yX3_pad cX3_pad 4 (some .int), Cond.fieldLink RX3 44 "VeiledFiles$Tree" "key" "I", Cond.fieldLink RX3 9 "VeiledFiles$Tree" "number" "I", Cond.constant RX3 105 (-1640531535), Cond.fieldLink RX3 31 "VeiledFiles$Tree" "counters" "[I", Cond.constant RX3 106 (-2048144777), Cond.constant RX3 107 (-1028477379), Cond.constant RX3 108 (739982445), Cond.constant RX3 109 (695872825), Cond.methodLink RX3 75 yX3_unload, Cond.instanceMethod yX3_unload, Cond.selects RX3 yX3_unload yX3_unload, Cond.code yX3_unload cX3_unload 4 none, Cond.methodLink RX3 91 yX3_maskWords, Cond.instanceMethod yX3_maskWords, Cond.selects RX3 yX3_maskWords yX3_maskWords, Cond.code yX3_maskWords cX3_maskWords 4 none, Cond.methodLink RX3 82 yX3_slotStart, Cond.static yX3_slotStart, Cond.code yX3_slotStart cX3_slotStart 2 (some .int), Cond.methodLink RX3 94 yX3_hold]
def wsX4_idle_r4 : List Cond := [Cond.instanceMethod yX3_hold, Cond.selects RX3 yX3_hold yX3_hold, Cond.code yX3_hold cX3_hold 4 none, Cond.fieldLink RX3 24 "VeiledFiles$Tree" "blocks" "I", Cond.fieldLink RX3 34 "VeiledFiles$Tree" "held" "[Z", Cond.fieldLink RX3 38 "VeiledFiles$Tree" "leaves" "[I", Cond.methodLink RX3 67 yX3_setWord, Cond.instanceMethod yX3_setWord, Cond.selects RX3 yX3_setWord yX3_setWord, Cond.code yX3_setWord cX3_setWord 4 none, Cond.fieldLink RX3 41 "VeiledFiles$Tree" "words" "[I", Cond.methodLink RX4 159 yX3_moveTo, Cond.instanceMethod yX3_moveTo, Cond.selects RX3 yX3_moveTo yX3_moveTo, Cond.code yX3_moveTo cX3_moveTo 3 none, Cond.methodLink RX4 170 yX4_entryOf, Cond.instanceMethod yX4_entryOf, Cond.selects RX4 yX4_entryOf yX4_entryOf, Cond.code yX4_entryOf cX4_entryOf 4 (some .int), Cond.methodLink RX4 98 yX3_wordOf, Cond.instanceMethod yX3_wordOf, Cond.selects RX3 yX3_wordOf yX3_wordOf, Cond.code yX3_wordOf cX3_wordOf 3 (some .int), Cond.methodLink RX4 176 yX4_entryShift]
def wsX4_idle_r5 : List Cond := [Cond.static yX4_entryShift, Cond.code yX4_entryShift cX4_entryShift 1 (some .int), Cond.methodLink RX4 162 yX4_setEntry, Cond.instanceMethod yX4_setEntry, Cond.selects RX4 yX4_setEntry yX4_setEntry, Cond.code yX4_setEntry cX4_setEntry 6 none, Cond.methodLink RX4 86 yX3_setWord, Cond.methodLink RX4 89 yX3_putBack, Cond.instanceMethod yX3_putBack, Cond.selects RX3 yX3_putBack yX3_putBack, Cond.code yX3_putBack cX3_putBack 4 none, Cond.methodLink RX3 78 yX3_load, Cond.instanceMethod yX3_load, Cond.selects RX3 yX3_load yX3_load, Cond.code yX3_load cX3_load 5 none, Cond.methodLink RX3 85 yX3_place, Cond.instanceMethod yX3_place, Cond.selects RX3 yX3_place yX3_place, Cond.code yX3_place cX3_place 6 none, Cond.methodLink RX3 88 yX3_wordOf, Cond.methodLink RX3 57 yX3_seal, Cond.instanceMethod yX3_seal, Cond.selects RX3 yX3_seal yX3_seal, Cond.code yX3_seal cX3_seal 2 none]
def wsX4_idle_r6 : List Cond := [Cond.methodLink RX4 173 yX2_setDataLeaf, Cond.instanceMethod yX2_setDataLeaf, Cond.selects RX2 yX2_setDataLeaf yX2_setDataLeaf, Cond.code yX2_setDataLeaf cX2_setDataLeaf 2 none]
def wsX4_idle : List Cond := .code yX4_idle cX4_idle 2 none :: ((wsX4_idle_r1 ++ (wsX4_idle_r2 ++ (wsX4_idle_r3 ++ (wsX4_idle_r4 ++ (wsX4_idle_r5 ++ wsX4_idle_r6))))) ++ wsX40 ++ wsX10 ++ wsX20 ++ wsX30 ++ (vx_at0 RX4 77 "java/lang/IllegalStateException" ["java/lang/RuntimeException", "java/lang/Exception"]).filter goodWord)
def wsX4_treeNumbered : List Cond := .code yX4_treeNumbered cX4_treeNumbered 2 (some (.object "VeiledFiles$Tree")) :: ([.fieldLink RX4 21 "VeiledFiles" "map" "LVeiledFiles$Tree;", .fieldLink RX4 25 "VeiledFiles" "data" "LVeiledFiles$Tree;"] ++ wsX40)
def wsX4_sealed : List Cond := .code yX4_sealed cX4_sealed 5 (some .int) :: ([.classLink RX4 69 "java/lang/IndexOutOfBoundsException", .initialized "java/lang/IndexOutOfBoundsException", .methodLink RX4 104 yX4_treeNumbered, .instanceMethod yX4_treeNumbered, .selects RX4 yX4_treeNumbered yX4_treeNumbered, .initialized RX4, .code yX4_treeNumbered cX4_treeNumbered 2 (some (.object "VeiledFiles$Tree")), .fieldLink RX4 21 "VeiledFiles" "map" "LVeiledFiles$Tree;", .fieldLink RX4 25 "VeiledFiles" "data" "LVeiledFiles$Tree;", .methodLink RX4 108 yX3_hasStored, .instanceMethod yX3_hasStored, .selects RX3 yX3_hasStored yX3_hasStored, .initialized RX3, .code yX3_hasStored cX3_hasStored 3 (some .boolean), .methodLink RX3 60 yX3_hasBucket, .instanceMethod yX3_hasBucket, .selects RX3 yX3_hasBucket yX3_hasBucket, .code yX3_hasBucket cX3_hasBucket 2 (some .boolean), .fieldLink RX3 21 "VeiledFiles$Tree" "buckets" "I", .methodLink RX4 111 yX3_storedWord, .instanceMethod yX3_storedWord, .selects RX3 yX3_storedWord yX3_storedWord, .code yX3_storedWord cX3_storedWord 3 (some .int), .fieldLink RX3 27 "VeiledFiles$Tree" "store" "[I"] ++ wsX40 ++ wsX30 ++ (vx_at0 RX4 71 "java/lang/IndexOutOfBoundsException" ["java/lang/RuntimeException", "java/lang/Exception"]).filter goodWord)
def wsX4_alter_r1 : List Cond := [Cond.methodLink RX4 104 yX4_treeNumbered, Cond.instanceMethod yX4_treeNumbered, Cond.selects RX4 yX4_treeNumbered yX4_treeNumbered, Cond.initialized RX4, Cond.code yX4_treeNumbered cX4_treeNumbered 2 (some (.object "VeiledFiles$Tree")), Cond.fieldLink RX4 21 "VeiledFiles" "map" "LVeiledFiles$Tree;", Cond.fieldLink RX4 25 "VeiledFiles" "data" "LVeiledFiles$Tree;", Cond.methodLink RX4 108 yX3_hasStored, Cond.instanceMethod yX3_hasStored, Cond.selects RX3 yX3_hasStored yX3_hasStored, Cond.initialized RX3, Cond.code yX3_hasStored cX3_hasStored 3 (some .boolean), Cond.methodLink RX3 60 yX3_hasBucket, Cond.instanceMethod yX3_hasBucket, Cond.selects RX3 yX3_hasBucket yX3_hasBucket, Cond.code yX3_hasBucket cX3_hasBucket 2 (some .boolean), Cond.fieldLink RX3 21 "VeiledFiles$Tree" "buckets" "I", Cond.methodLink RX4 114 yX3_spoil, Cond.instanceMethod yX3_spoil, Cond.selects RX3 yX3_spoil yX3_spoil, Cond.code yX3_spoil cX3_spoil 6 (some .boolean), Cond.fieldLink RX3 27 "VeiledFiles$Tree" "store" "[I", Cond.methodLink RX3 64 yX3_isWhole, Cond.instanceMethod yX3_isWhole]
def wsX4_alter_r2 : List Cond := [Cond.selects RX3 yX3_isWhole yX3_isWhole, Cond.code yX3_isWhole cX3_isWhole 2 (some .boolean), Cond.methodLink RX3 97 yX3_tagDue, Cond.instanceMethod yX3_tagDue, Cond.selects RX3 yX3_tagDue yX3_tagDue, Cond.code yX3_tagDue cX3_tagDue 5 (some .int), Cond.constant RX3 104 (16777619), Cond.methodLink RX3 101 yX3_pad, Cond.instanceMethod yX3_pad, Cond.selects RX3 yX3_pad yX3_pad, Cond.code yX3_pad cX3_pad 4 (some .int), Cond.fieldLink RX3 44 "VeiledFiles$Tree" "key" "I", Cond.fieldLink RX3 9 "VeiledFiles$Tree" "number" "I", Cond.constant RX3 105 (-1640531535), Cond.fieldLink RX3 31 "VeiledFiles$Tree" "counters" "[I", Cond.constant RX3 106 (-2048144777), Cond.constant RX3 107 (-1028477379), Cond.constant RX3 108 (739982445), Cond.constant RX3 109 (695872825)]
def wsX4_alter : List Cond := .code yX4_alter cX4_alter 6 (some .boolean) :: ((wsX4_alter_r1 ++ wsX4_alter_r2) ++ wsX40 ++ wsX30)
def wsX4_counter : List Cond := .code yX4_counter cX4_counter 4 (some .int) :: ([.methodLink RX4 104 yX4_treeNumbered, .instanceMethod yX4_treeNumbered, .selects RX4 yX4_treeNumbered yX4_treeNumbered, .initialized RX4, .code yX4_treeNumbered cX4_treeNumbered 2 (some (.object "VeiledFiles$Tree")), .fieldLink RX4 21 "VeiledFiles" "map" "LVeiledFiles$Tree;", .fieldLink RX4 25 "VeiledFiles" "data" "LVeiledFiles$Tree;", .methodLink RX4 118 yX3_hasBucket, .instanceMethod yX3_hasBucket, .selects RX3 yX3_hasBucket yX3_hasBucket, .initialized RX3, .code yX3_hasBucket cX3_hasBucket 2 (some .boolean), .fieldLink RX3 21 "VeiledFiles$Tree" "buckets" "I", .methodLink RX4 121 yX3_timesSealed, .instanceMethod yX3_timesSealed, .selects RX3 yX3_timesSealed yX3_timesSealed, .code yX3_timesSealed cX3_timesSealed 2 (some .int), .fieldLink RX3 31 "VeiledFiles$Tree" "counters" "[I"] ++ wsX40 ++ wsX30)
def wsX4_trace : List Cond := .code yX4_trace cX4_trace 3 (some .int) :: ([.fieldLink RX4 42 "VeiledFiles" "trail" "LVeiledFiles$Trail;", .methodLink RX4 124 yX2_leafOf, .instanceMethod yX2_leafOf, .selects RX2 yX2_leafOf yX2_leafOf, .initialized RX2, .code yX2_leafOf cX2_leafOf 4 (some .int), .fieldLink RX2 18 "VeiledFiles$Trail" "count" "I", .fieldLink RX2 11 "VeiledFiles$Trail" "mapLeaf" "[I", .fieldLink RX2 15 "VeiledFiles$Trail" "dataLeaf" "[I"] ++ wsX40 ++ wsX20)
def wsX4_stash : List Cond := .code yX4_stash cX4_stash 3 (some .int) :: ([.methodLink RX4 104 yX4_treeNumbered, .instanceMethod yX4_treeNumbered, .selects RX4 yX4_treeNumbered yX4_treeNumbered, .initialized RX4, .code yX4_treeNumbered cX4_treeNumbered 2 (some (.object "VeiledFiles$Tree")), .fieldLink RX4 21 "VeiledFiles" "map" "LVeiledFiles$Tree;", .fieldLink RX4 25 "VeiledFiles" "data" "LVeiledFiles$Tree;", .methodLink RX4 127 yX3_countHeld, .instanceMethod yX3_countHeld, .selects RX3 yX3_countHeld yX3_countHeld, .initialized RX3, .code yX3_countHeld cX3_countHeld 3 (some .int), .fieldLink RX3 24 "VeiledFiles$Tree" "blocks" "I", .fieldLink RX3 34 "VeiledFiles$Tree" "held" "[Z"] ++ wsX40 ++ wsX30)
def wsX4_state : List Cond := .code yX4_state cX4_state 2 (some .int) :: ([.fieldLink RX4 42 "VeiledFiles" "trail" "LVeiledFiles$Trail;", .fieldLink RX4 35 "VeiledFiles" "book" "LVeiledFiles$Book;", .fieldLink RX4 140 "VeiledFiles" "dead" "Z", .methodLink RX4 131 yX2_countAll, .instanceMethod yX2_countAll, .selects RX2 yX2_countAll yX2_countAll, .initialized RX2, .code yX2_countAll cX2_countAll 1 (some .int), .fieldLink RX2 18 "VeiledFiles$Trail" "count" "I", .methodLink RX4 134 yX0_countFiles, .instanceMethod yX0_countFiles, .selects RX0 yX0_countFiles yX0_countFiles, .initialized RX0, .code yX0_countFiles cX0_countFiles 3 (some .int), .fieldLink RX0 15 "VeiledFiles$Book" "lengths" "[I", .methodLink RX4 137 yX0_countFreeBlocks, .instanceMethod yX0_countFreeBlocks, .selects RX0 yX0_countFreeBlocks yX0_countFreeBlocks, .code yX0_countFreeBlocks cX0_countFreeBlocks 3 (some .int), .fieldLink RX0 22 "VeiledFiles$Book" "taken" "[Z"] ++ wsX40 ++ wsX20 ++ wsX00)
def wsX5_draw : List Cond := .code yX5_draw cX5_draw 2 (some .int) :: ([.fieldLink RX5 62 "VeiledFilesModel" "word" "I"] ++ wsX50)
def wsX5_blocks : List Cond := .code yX5_blocks cX5_blocks 1 (some .int) :: ([])
def wsX5_first : List Cond := .code yX5_first cX5_first 1 (some .int) :: ([])
def wsX5_levels : List Cond := .code yX5_levels cX5_levels 1 (some .int) :: ([])
def wsX5_buckets : List Cond := .code yX5_buckets cX5_buckets 1 (some .int) :: ([])
def wsX5_onPath : List Cond := .code yX5_onPath cX5_onPath 5 (some .int) :: ([.methodLink RX5 65 yX5_buckets, .static yX5_buckets, .initialized RX5, .code yX5_buckets cX5_buckets 1 (some .int)])
def wsX5_place : List Cond := .code yX5_place cX5_place 2 (some .int) :: ([])
def wsX5_settle : List Cond := .code yX5_settle cX5_settle 8 none :: ([.fieldLink RX5 16 "VeiledFilesModel" "out" "[Z", .fieldLink RX5 20 "VeiledFilesModel" "leaf" "[I", .fieldLink RX5 7 "VeiledFilesModel" "sealed" "[I", .fieldLink RX5 23 "VeiledFilesModel" "words" "[I", .methodLink RX5 95 yX5_first, .static yX5_first, .initialized RX5, .code yX5_first cX5_first 1 (some .int), .methodLink RX5 69 yX5_levels, .static yX5_levels, .code yX5_levels cX5_levels 1 (some .int), .methodLink RX5 72 yX5_onPath, .static yX5_onPath, .code yX5_onPath cX5_onPath 5 (some .int), .methodLink RX5 65 yX5_buckets, .static yX5_buckets, .code yX5_buckets cX5_buckets 1 (some .int), .methodLink RX5 80 yX5_place, .static yX5_place, .code yX5_place cX5_place 2 (some .int)] ++ wsX50)
def wsX5_pad : List Cond := .code yX5_pad cX5_pad 5 (some .int) :: ([.fieldLink RX5 76 "VeiledFilesModel" "key" "I", .constant RX5 79 (-1640531535), .fieldLink RX5 13 "VeiledFilesModel" "counters" "[I", .constant RX5 84 (-2048144777), .constant RX5 85 (-1028477379), .constant RX5 86 (739982445), .constant RX5 87 (695872825), .methodLink RX5 80 yX5_place, .static yX5_place, .initialized RX5, .code yX5_place cX5_place 2 (some .int)] ++ wsX50)
def wsX5_tag : List Cond := .code yX5_tag cX5_tag 5 (some .int) :: ([.fieldLink RX5 7 "VeiledFilesModel" "sealed" "[I", .constant RX5 91 (16777619), .methodLink RX5 88 yX5_pad, .instanceMethod yX5_pad, .selects RX5 yX5_pad yX5_pad, .initialized RX5, .code yX5_pad cX5_pad 5 (some .int), .fieldLink RX5 76 "VeiledFilesModel" "key" "I", .constant RX5 79 (-1640531535), .fieldLink RX5 13 "VeiledFilesModel" "counters" "[I", .constant RX5 84 (-2048144777), .constant RX5 85 (-1028477379), .constant RX5 86 (739982445), .constant RX5 87 (695872825), .methodLink RX5 80 yX5_place, .static yX5_place, .code yX5_place cX5_place 2 (some .int)] ++ wsX50)
def wsX5_seal : List Cond := .code yX5_seal cX5_seal 5 none :: ([.fieldLink RX5 7 "VeiledFilesModel" "sealed" "[I", .fieldLink RX5 29 "VeiledFilesModel" "plain" "[I", .methodLink RX5 80 yX5_place, .static yX5_place, .initialized RX5, .code yX5_place cX5_place 2 (some .int), .methodLink RX5 88 yX5_pad, .instanceMethod yX5_pad, .selects RX5 yX5_pad yX5_pad, .code yX5_pad cX5_pad 5 (some .int), .fieldLink RX5 76 "VeiledFilesModel" "key" "I", .constant RX5 79 (-1640531535), .fieldLink RX5 13 "VeiledFilesModel" "counters" "[I", .constant RX5 84 (-2048144777), .constant RX5 85 (-1028477379), .constant RX5 86 (739982445), .constant RX5 87 (695872825), .methodLink RX5 92 yX5_tag, .instanceMethod yX5_tag, .selects RX5 yX5_tag yX5_tag, .code yX5_tag cX5_tag 5 (some .int), .constant RX5 91 (16777619)] ++ wsX50)
def wsX5_begin_r1 : List Cond := [Cond.fieldLink RX5 62 "VeiledFilesModel" "word" "I", Cond.fieldLink RX5 76 "VeiledFilesModel" "key" "I", Cond.fieldLink RX5 131 "VeiledFilesModel" "dead" "Z", Cond.fieldLink RX5 124 "VeiledFilesModel" "accesses" "I", Cond.fieldLink RX5 38 "VeiledFilesModel" "there" "[Z", Cond.fieldLink RX5 51 "VeiledFilesModel" "taken" "[Z", Cond.fieldLink RX5 13 "VeiledFilesModel" "counters" "[I", Cond.fieldLink RX5 23 "VeiledFilesModel" "words" "[I", Cond.fieldLink RX5 20 "VeiledFilesModel" "leaf" "[I", Cond.fieldLink RX5 26 "VeiledFilesModel" "mapLeaf" "[I", Cond.fieldLink RX5 16 "VeiledFilesModel" "out" "[Z", Cond.fieldLink RX5 7 "VeiledFilesModel" "sealed" "[I", Cond.fieldLink RX5 29 "VeiledFilesModel" "plain" "[I", Cond.methodLink RX5 121 yX5_draw, Cond.instanceMethod yX5_draw, Cond.selects RX5 yX5_draw yX5_draw, Cond.initialized RX5, Cond.code yX5_draw cX5_draw 2 (some .int), Cond.methodLink RX5 105 yX5_blocks, Cond.static yX5_blocks, Cond.code yX5_blocks cX5_blocks 1 (some .int), Cond.methodLink RX5 141 yX5_settle, Cond.instanceMethod yX5_settle, Cond.selects RX5 yX5_settle yX5_settle]
def wsX5_begin_r2 : List Cond := [Cond.code yX5_settle cX5_settle 8 none, Cond.methodLink RX5 95 yX5_first, Cond.static yX5_first, Cond.code yX5_first cX5_first 1 (some .int), Cond.methodLink RX5 69 yX5_levels, Cond.static yX5_levels, Cond.code yX5_levels cX5_levels 1 (some .int), Cond.methodLink RX5 72 yX5_onPath, Cond.static yX5_onPath, Cond.code yX5_onPath cX5_onPath 5 (some .int), Cond.methodLink RX5 65 yX5_buckets, Cond.static yX5_buckets, Cond.code yX5_buckets cX5_buckets 1 (some .int), Cond.methodLink RX5 80 yX5_place, Cond.static yX5_place, Cond.code yX5_place cX5_place 2 (some .int), Cond.methodLink RX5 118 yX5_seal, Cond.instanceMethod yX5_seal, Cond.selects RX5 yX5_seal yX5_seal, Cond.code yX5_seal cX5_seal 5 none, Cond.methodLink RX5 88 yX5_pad, Cond.instanceMethod yX5_pad, Cond.selects RX5 yX5_pad yX5_pad, Cond.code yX5_pad cX5_pad 5 (some .int)]
def wsX5_begin_r3 : List Cond := [Cond.constant RX5 79 (-1640531535), Cond.constant RX5 84 (-2048144777), Cond.constant RX5 85 (-1028477379), Cond.constant RX5 86 (739982445), Cond.constant RX5 87 (695872825), Cond.methodLink RX5 92 yX5_tag, Cond.instanceMethod yX5_tag, Cond.selects RX5 yX5_tag yX5_tag, Cond.code yX5_tag cX5_tag 5 (some .int), Cond.constant RX5 91 (16777619)]
def wsX5_begin : List Cond := .code yX5_begin cX5_begin 6 none :: ((wsX5_begin_r1 ++ (wsX5_begin_r2 ++ wsX5_begin_r3)) ++ wsX50)
def wsX5_init_r1 : List Cond := [Cond.methodLink RX5 1 objectInit, Cond.instanceMethod objectInit, Cond.code objectInit ⟨#[0xb1]⟩ 1 none, Cond.arrayClass .int, Cond.fieldLink RX5 7 "VeiledFilesModel" "sealed" "[I", Cond.fieldLink RX5 13 "VeiledFilesModel" "counters" "[I", Cond.arrayClass .boolean, Cond.fieldLink RX5 16 "VeiledFilesModel" "out" "[Z", Cond.fieldLink RX5 20 "VeiledFilesModel" "leaf" "[I", Cond.fieldLink RX5 23 "VeiledFilesModel" "words" "[I", Cond.fieldLink RX5 26 "VeiledFilesModel" "mapLeaf" "[I", Cond.fieldLink RX5 29 "VeiledFilesModel" "plain" "[I", Cond.fieldLink RX5 32 "VeiledFilesModel" "traceL" "[I", Cond.fieldLink RX5 35 "VeiledFilesModel" "traceM" "[I", Cond.fieldLink RX5 38 "VeiledFilesModel" "there" "[Z", Cond.arrayClass .long, Cond.fieldLink RX5 41 "VeiledFilesModel" "name" "[J", Cond.fieldLink RX5 45 "VeiledFilesModel" "size" "[I", Cond.fieldLink RX5 48 "VeiledFilesModel" "part" "[I", Cond.fieldLink RX5 51 "VeiledFilesModel" "taken" "[Z", Cond.methodLink RX5 54 yX5_begin, Cond.instanceMethod yX5_begin, Cond.selects RX5 yX5_begin yX5_begin, Cond.initialized RX5]
def wsX5_init_r2 : List Cond := [Cond.code yX5_begin cX5_begin 6 none, Cond.fieldLink RX5 62 "VeiledFilesModel" "word" "I", Cond.fieldLink RX5 76 "VeiledFilesModel" "key" "I", Cond.fieldLink RX5 131 "VeiledFilesModel" "dead" "Z", Cond.fieldLink RX5 124 "VeiledFilesModel" "accesses" "I", Cond.methodLink RX5 121 yX5_draw, Cond.instanceMethod yX5_draw, Cond.selects RX5 yX5_draw yX5_draw, Cond.code yX5_draw cX5_draw 2 (some .int), Cond.methodLink RX5 105 yX5_blocks, Cond.static yX5_blocks, Cond.code yX5_blocks cX5_blocks 1 (some .int), Cond.methodLink RX5 141 yX5_settle, Cond.instanceMethod yX5_settle, Cond.selects RX5 yX5_settle yX5_settle, Cond.code yX5_settle cX5_settle 8 none, Cond.methodLink RX5 95 yX5_first, Cond.static yX5_first, Cond.code yX5_first cX5_first 1 (some .int), Cond.methodLink RX5 69 yX5_levels, Cond.static yX5_levels, Cond.code yX5_levels cX5_levels 1 (some .int), Cond.methodLink RX5 72 yX5_onPath, Cond.static yX5_onPath]
def wsX5_init_r3 : List Cond := [Cond.code yX5_onPath cX5_onPath 5 (some .int), Cond.methodLink RX5 65 yX5_buckets, Cond.static yX5_buckets, Cond.code yX5_buckets cX5_buckets 1 (some .int), Cond.methodLink RX5 80 yX5_place, Cond.static yX5_place, Cond.code yX5_place cX5_place 2 (some .int), Cond.methodLink RX5 118 yX5_seal, Cond.instanceMethod yX5_seal, Cond.selects RX5 yX5_seal yX5_seal, Cond.code yX5_seal cX5_seal 5 none, Cond.methodLink RX5 88 yX5_pad, Cond.instanceMethod yX5_pad, Cond.selects RX5 yX5_pad yX5_pad, Cond.code yX5_pad cX5_pad 5 (some .int), Cond.constant RX5 79 (-1640531535), Cond.constant RX5 84 (-2048144777), Cond.constant RX5 85 (-1028477379), Cond.constant RX5 86 (739982445), Cond.constant RX5 87 (695872825), Cond.methodLink RX5 92 yX5_tag, Cond.instanceMethod yX5_tag, Cond.selects RX5 yX5_tag yX5_tag, Cond.code yX5_tag cX5_tag 5 (some .int)]
def wsX5_init_r4 : List Cond := [Cond.constant RX5 91 (16777619)]
def wsX5_init : List Cond := .code yX5_init cX5_init 1 none :: ((wsX5_init_r1 ++ (wsX5_init_r2 ++ (wsX5_init_r3 ++ wsX5_init_r4))) ++ wsX50)
def wsX5_thrown : List Cond := .code yX5_thrown cX5_thrown 1 (some .int) :: ([.fieldLink RX5 58 "VeiledFilesModel" "thrown" "I"] ++ wsX50)
def wsX5_raise : List Cond := .code yX5_raise cX5_raise 2 (some .int) :: ([.fieldLink RX5 58 "VeiledFilesModel" "thrown" "I"] ++ wsX50)
def wsX5_passes : List Cond := .code yX5_passes cX5_passes 4 (some .boolean) :: ([.methodLink RX5 69 yX5_levels, .static yX5_levels, .initialized RX5, .code yX5_levels cX5_levels 1 (some .int), .methodLink RX5 72 yX5_onPath, .static yX5_onPath, .code yX5_onPath cX5_onPath 5 (some .int), .methodLink RX5 65 yX5_buckets, .static yX5_buckets, .code yX5_buckets cX5_buckets 1 (some .int)])
def wsX5_clear : List Cond := .code yX5_clear cX5_clear 2 none :: ([.fieldLink RX5 29 "VeiledFilesModel" "plain" "[I"] ++ wsX50)
def wsX5_put : List Cond := .code yX5_put cX5_put 6 none :: ([.fieldLink RX5 29 "VeiledFilesModel" "plain" "[I", .fieldLink RX5 20 "VeiledFilesModel" "leaf" "[I", .fieldLink RX5 23 "VeiledFilesModel" "words" "[I", .fieldLink RX5 16 "VeiledFilesModel" "out" "[Z", .methodLink RX5 95 yX5_first, .static yX5_first, .initialized RX5, .code yX5_first cX5_first 1 (some .int)] ++ wsX50)
def wsX5_plainWord : List Cond := .code yX5_plainWord cX5_plainWord 4 (some .int) :: ([.fieldLink RX5 7 "VeiledFilesModel" "sealed" "[I", .methodLink RX5 80 yX5_place, .static yX5_place, .initialized RX5, .code yX5_place cX5_place 2 (some .int), .methodLink RX5 88 yX5_pad, .instanceMethod yX5_pad, .selects RX5 yX5_pad yX5_pad, .code yX5_pad cX5_pad 5 (some .int), .fieldLink RX5 76 "VeiledFilesModel" "key" "I", .constant RX5 79 (-1640531535), .fieldLink RX5 13 "VeiledFilesModel" "counters" "[I", .constant RX5 84 (-2048144777), .constant RX5 85 (-1028477379), .constant RX5 86 (739982445), .constant RX5 87 (695872825)] ++ wsX50)
def wsX5_open_r1 : List Cond := [Cond.fieldLink RX5 16 "VeiledFilesModel" "out" "[Z", Cond.fieldLink RX5 20 "VeiledFilesModel" "leaf" "[I", Cond.fieldLink RX5 23 "VeiledFilesModel" "words" "[I", Cond.methodLink RX5 102 yX5_plainWord, Cond.instanceMethod yX5_plainWord, Cond.selects RX5 yX5_plainWord yX5_plainWord, Cond.initialized RX5, Cond.code yX5_plainWord cX5_plainWord 4 (some .int), Cond.fieldLink RX5 7 "VeiledFilesModel" "sealed" "[I", Cond.methodLink RX5 80 yX5_place, Cond.static yX5_place, Cond.code yX5_place cX5_place 2 (some .int), Cond.methodLink RX5 88 yX5_pad, Cond.instanceMethod yX5_pad, Cond.selects RX5 yX5_pad yX5_pad, Cond.code yX5_pad cX5_pad 5 (some .int), Cond.fieldLink RX5 76 "VeiledFilesModel" "key" "I", Cond.constant RX5 79 (-1640531535), Cond.fieldLink RX5 13 "VeiledFilesModel" "counters" "[I", Cond.constant RX5 84 (-2048144777), Cond.constant RX5 85 (-1028477379), Cond.constant RX5 86 (739982445), Cond.constant RX5 87 (695872825), Cond.methodLink RX5 105 yX5_blocks]
def wsX5_open_r2 : List Cond := [Cond.static yX5_blocks, Cond.code yX5_blocks cX5_blocks 1 (some .int), Cond.methodLink RX5 95 yX5_first, Cond.static yX5_first, Cond.code yX5_first cX5_first 1 (some .int)]
def wsX5_open : List Cond := .code yX5_open cX5_open 7 none :: ((wsX5_open_r1 ++ wsX5_open_r2) ++ wsX50)
def wsX5_take_r1 : List Cond := [Cond.fieldLink RX5 7 "VeiledFilesModel" "sealed" "[I", Cond.methodLink RX5 69 yX5_levels, Cond.static yX5_levels, Cond.initialized RX5, Cond.code yX5_levels cX5_levels 1 (some .int), Cond.methodLink RX5 72 yX5_onPath, Cond.static yX5_onPath, Cond.code yX5_onPath cX5_onPath 5 (some .int), Cond.methodLink RX5 65 yX5_buckets, Cond.static yX5_buckets, Cond.code yX5_buckets cX5_buckets 1 (some .int), Cond.methodLink RX5 80 yX5_place, Cond.static yX5_place, Cond.code yX5_place cX5_place 2 (some .int), Cond.methodLink RX5 92 yX5_tag, Cond.instanceMethod yX5_tag, Cond.selects RX5 yX5_tag yX5_tag, Cond.code yX5_tag cX5_tag 5 (some .int), Cond.constant RX5 91 (16777619), Cond.methodLink RX5 88 yX5_pad, Cond.instanceMethod yX5_pad, Cond.selects RX5 yX5_pad yX5_pad, Cond.code yX5_pad cX5_pad 5 (some .int), Cond.fieldLink RX5 76 "VeiledFilesModel" "key" "I"]
def wsX5_take_r2 : List Cond := [Cond.constant RX5 79 (-1640531535), Cond.fieldLink RX5 13 "VeiledFilesModel" "counters" "[I", Cond.constant RX5 84 (-2048144777), Cond.constant RX5 85 (-1028477379), Cond.constant RX5 86 (739982445), Cond.constant RX5 87 (695872825), Cond.methodLink RX5 98 yX5_open, Cond.instanceMethod yX5_open, Cond.selects RX5 yX5_open yX5_open, Cond.code yX5_open cX5_open 7 none, Cond.fieldLink RX5 16 "VeiledFilesModel" "out" "[Z", Cond.fieldLink RX5 20 "VeiledFilesModel" "leaf" "[I", Cond.fieldLink RX5 23 "VeiledFilesModel" "words" "[I", Cond.methodLink RX5 102 yX5_plainWord, Cond.instanceMethod yX5_plainWord, Cond.selects RX5 yX5_plainWord yX5_plainWord, Cond.code yX5_plainWord cX5_plainWord 4 (some .int), Cond.methodLink RX5 105 yX5_blocks, Cond.static yX5_blocks, Cond.code yX5_blocks cX5_blocks 1 (some .int), Cond.methodLink RX5 95 yX5_first, Cond.static yX5_first, Cond.code yX5_first cX5_first 1 (some .int)]
def wsX5_take : List Cond := .code yX5_take cX5_take 6 (some .boolean) :: ((wsX5_take_r1 ++ wsX5_take_r2) ++ wsX50)
def wsX5_putBack_r1 : List Cond := [Cond.fieldLink RX5 16 "VeiledFilesModel" "out" "[Z", Cond.fieldLink RX5 20 "VeiledFilesModel" "leaf" "[I", Cond.fieldLink RX5 13 "VeiledFilesModel" "counters" "[I", Cond.methodLink RX5 69 yX5_levels, Cond.static yX5_levels, Cond.initialized RX5, Cond.code yX5_levels cX5_levels 1 (some .int), Cond.methodLink RX5 72 yX5_onPath, Cond.static yX5_onPath, Cond.code yX5_onPath cX5_onPath 5 (some .int), Cond.methodLink RX5 65 yX5_buckets, Cond.static yX5_buckets, Cond.code yX5_buckets cX5_buckets 1 (some .int), Cond.methodLink RX5 108 yX5_clear, Cond.instanceMethod yX5_clear, Cond.selects RX5 yX5_clear yX5_clear, Cond.code yX5_clear cX5_clear 2 none, Cond.fieldLink RX5 29 "VeiledFilesModel" "plain" "[I", Cond.methodLink RX5 105 yX5_blocks, Cond.static yX5_blocks, Cond.code yX5_blocks cX5_blocks 1 (some .int), Cond.methodLink RX5 95 yX5_first, Cond.static yX5_first, Cond.code yX5_first cX5_first 1 (some .int)]
def wsX5_putBack_r2 : List Cond := [Cond.methodLink RX5 111 yX5_passes, Cond.static yX5_passes, Cond.code yX5_passes cX5_passes 4 (some .boolean), Cond.methodLink RX5 115 yX5_put, Cond.instanceMethod yX5_put, Cond.selects RX5 yX5_put yX5_put, Cond.code yX5_put cX5_put 6 none, Cond.fieldLink RX5 23 "VeiledFilesModel" "words" "[I", Cond.methodLink RX5 80 yX5_place, Cond.static yX5_place, Cond.code yX5_place cX5_place 2 (some .int), Cond.methodLink RX5 118 yX5_seal, Cond.instanceMethod yX5_seal, Cond.selects RX5 yX5_seal yX5_seal, Cond.code yX5_seal cX5_seal 5 none, Cond.fieldLink RX5 7 "VeiledFilesModel" "sealed" "[I", Cond.methodLink RX5 88 yX5_pad, Cond.instanceMethod yX5_pad, Cond.selects RX5 yX5_pad yX5_pad, Cond.code yX5_pad cX5_pad 5 (some .int), Cond.fieldLink RX5 76 "VeiledFilesModel" "key" "I", Cond.constant RX5 79 (-1640531535), Cond.constant RX5 84 (-2048144777), Cond.constant RX5 85 (-1028477379)]
def wsX5_putBack_r3 : List Cond := [Cond.constant RX5 86 (739982445), Cond.constant RX5 87 (695872825), Cond.methodLink RX5 92 yX5_tag, Cond.instanceMethod yX5_tag, Cond.selects RX5 yX5_tag yX5_tag, Cond.code yX5_tag cX5_tag 5 (some .int), Cond.constant RX5 91 (16777619)]
def wsX5_putBack : List Cond := .code yX5_putBack cX5_putBack 8 none :: ((wsX5_putBack_r1 ++ (wsX5_putBack_r2 ++ wsX5_putBack_r3)) ++ wsX50)
def wsX5_access_r1 : List Cond := [Cond.fieldLink RX5 26 "VeiledFilesModel" "mapLeaf" "[I", Cond.fieldLink RX5 32 "VeiledFilesModel" "traceL" "[I", Cond.fieldLink RX5 124 "VeiledFilesModel" "accesses" "I", Cond.fieldLink RX5 35 "VeiledFilesModel" "traceM" "[I", Cond.fieldLink RX5 131 "VeiledFilesModel" "dead" "Z", Cond.fieldLink RX5 20 "VeiledFilesModel" "leaf" "[I", Cond.fieldLink RX5 23 "VeiledFilesModel" "words" "[I", Cond.fieldLink RX5 138 "VeiledFilesModel" "got" "I", Cond.methodLink RX5 121 yX5_draw, Cond.instanceMethod yX5_draw, Cond.selects RX5 yX5_draw yX5_draw, Cond.initialized RX5, Cond.code yX5_draw cX5_draw 2 (some .int), Cond.fieldLink RX5 62 "VeiledFilesModel" "word" "I", Cond.methodLink RX5 127 yX5_take, Cond.instanceMethod yX5_take, Cond.selects RX5 yX5_take yX5_take, Cond.code yX5_take cX5_take 6 (some .boolean), Cond.fieldLink RX5 7 "VeiledFilesModel" "sealed" "[I", Cond.methodLink RX5 69 yX5_levels, Cond.static yX5_levels, Cond.code yX5_levels cX5_levels 1 (some .int), Cond.methodLink RX5 72 yX5_onPath, Cond.static yX5_onPath]
def wsX5_access_r2 : List Cond := [Cond.code yX5_onPath cX5_onPath 5 (some .int), Cond.methodLink RX5 65 yX5_buckets, Cond.static yX5_buckets, Cond.code yX5_buckets cX5_buckets 1 (some .int), Cond.methodLink RX5 80 yX5_place, Cond.static yX5_place, Cond.code yX5_place cX5_place 2 (some .int), Cond.methodLink RX5 92 yX5_tag, Cond.instanceMethod yX5_tag, Cond.selects RX5 yX5_tag yX5_tag, Cond.code yX5_tag cX5_tag 5 (some .int), Cond.constant RX5 91 (16777619), Cond.methodLink RX5 88 yX5_pad, Cond.instanceMethod yX5_pad, Cond.selects RX5 yX5_pad yX5_pad, Cond.code yX5_pad cX5_pad 5 (some .int), Cond.fieldLink RX5 76 "VeiledFilesModel" "key" "I", Cond.constant RX5 79 (-1640531535), Cond.fieldLink RX5 13 "VeiledFilesModel" "counters" "[I", Cond.constant RX5 84 (-2048144777), Cond.constant RX5 85 (-1028477379), Cond.constant RX5 86 (739982445), Cond.constant RX5 87 (695872825), Cond.methodLink RX5 98 yX5_open]
def wsX5_access_r3 : List Cond := [Cond.instanceMethod yX5_open, Cond.selects RX5 yX5_open yX5_open, Cond.code yX5_open cX5_open 7 none, Cond.fieldLink RX5 16 "VeiledFilesModel" "out" "[Z", Cond.methodLink RX5 102 yX5_plainWord, Cond.instanceMethod yX5_plainWord, Cond.selects RX5 yX5_plainWord yX5_plainWord, Cond.code yX5_plainWord cX5_plainWord 4 (some .int), Cond.methodLink RX5 105 yX5_blocks, Cond.static yX5_blocks, Cond.code yX5_blocks cX5_blocks 1 (some .int), Cond.methodLink RX5 95 yX5_first, Cond.static yX5_first, Cond.code yX5_first cX5_first 1 (some .int), Cond.methodLink RX5 135 yX5_putBack, Cond.instanceMethod yX5_putBack, Cond.selects RX5 yX5_putBack yX5_putBack, Cond.code yX5_putBack cX5_putBack 8 none, Cond.methodLink RX5 108 yX5_clear, Cond.instanceMethod yX5_clear, Cond.selects RX5 yX5_clear yX5_clear, Cond.code yX5_clear cX5_clear 2 none, Cond.fieldLink RX5 29 "VeiledFilesModel" "plain" "[I", Cond.methodLink RX5 111 yX5_passes]
def wsX5_access_r4 : List Cond := [Cond.static yX5_passes, Cond.code yX5_passes cX5_passes 4 (some .boolean), Cond.methodLink RX5 115 yX5_put, Cond.instanceMethod yX5_put, Cond.selects RX5 yX5_put yX5_put, Cond.code yX5_put cX5_put 6 none, Cond.methodLink RX5 118 yX5_seal, Cond.instanceMethod yX5_seal, Cond.selects RX5 yX5_seal yX5_seal, Cond.code yX5_seal cX5_seal 5 none]
def wsX5_access : List Cond := .code yX5_access cX5_access 14 (some .boolean) :: ((wsX5_access_r1 ++ (wsX5_access_r2 ++ (wsX5_access_r3 ++ wsX5_access_r4))) ++ wsX50)
def wsX5_start_r1 : List Cond := [Cond.fieldLink RX5 58 "VeiledFilesModel" "thrown" "I", Cond.methodLink RX5 54 yX5_begin, Cond.instanceMethod yX5_begin, Cond.selects RX5 yX5_begin yX5_begin, Cond.initialized RX5, Cond.code yX5_begin cX5_begin 6 none, Cond.fieldLink RX5 62 "VeiledFilesModel" "word" "I", Cond.fieldLink RX5 76 "VeiledFilesModel" "key" "I", Cond.fieldLink RX5 131 "VeiledFilesModel" "dead" "Z", Cond.fieldLink RX5 124 "VeiledFilesModel" "accesses" "I", Cond.fieldLink RX5 38 "VeiledFilesModel" "there" "[Z", Cond.fieldLink RX5 51 "VeiledFilesModel" "taken" "[Z", Cond.fieldLink RX5 13 "VeiledFilesModel" "counters" "[I", Cond.fieldLink RX5 23 "VeiledFilesModel" "words" "[I", Cond.fieldLink RX5 20 "VeiledFilesModel" "leaf" "[I", Cond.fieldLink RX5 26 "VeiledFilesModel" "mapLeaf" "[I", Cond.fieldLink RX5 16 "VeiledFilesModel" "out" "[Z", Cond.fieldLink RX5 7 "VeiledFilesModel" "sealed" "[I", Cond.fieldLink RX5 29 "VeiledFilesModel" "plain" "[I", Cond.methodLink RX5 121 yX5_draw, Cond.instanceMethod yX5_draw, Cond.selects RX5 yX5_draw yX5_draw, Cond.code yX5_draw cX5_draw 2 (some .int), Cond.methodLink RX5 105 yX5_blocks]
def wsX5_start_r2 : List Cond := [Cond.static yX5_blocks, Cond.code yX5_blocks cX5_blocks 1 (some .int), Cond.methodLink RX5 141 yX5_settle, Cond.instanceMethod yX5_settle, Cond.selects RX5 yX5_settle yX5_settle, Cond.code yX5_settle cX5_settle 8 none, Cond.methodLink RX5 95 yX5_first, Cond.static yX5_first, Cond.code yX5_first cX5_first 1 (some .int), Cond.methodLink RX5 69 yX5_levels, Cond.static yX5_levels, Cond.code yX5_levels cX5_levels 1 (some .int), Cond.methodLink RX5 72 yX5_onPath, Cond.static yX5_onPath, Cond.code yX5_onPath cX5_onPath 5 (some .int), Cond.methodLink RX5 65 yX5_buckets, Cond.static yX5_buckets, Cond.code yX5_buckets cX5_buckets 1 (some .int), Cond.methodLink RX5 80 yX5_place, Cond.static yX5_place, Cond.code yX5_place cX5_place 2 (some .int), Cond.methodLink RX5 118 yX5_seal, Cond.instanceMethod yX5_seal, Cond.selects RX5 yX5_seal yX5_seal]
def wsX5_start_r3 : List Cond := [Cond.code yX5_seal cX5_seal 5 none, Cond.methodLink RX5 88 yX5_pad, Cond.instanceMethod yX5_pad, Cond.selects RX5 yX5_pad yX5_pad, Cond.code yX5_pad cX5_pad 5 (some .int), Cond.constant RX5 79 (-1640531535), Cond.constant RX5 84 (-2048144777), Cond.constant RX5 85 (-1028477379), Cond.constant RX5 86 (739982445), Cond.constant RX5 87 (695872825), Cond.methodLink RX5 92 yX5_tag, Cond.instanceMethod yX5_tag, Cond.selects RX5 yX5_tag yX5_tag, Cond.code yX5_tag cX5_tag 5 (some .int), Cond.constant RX5 91 (16777619)]
def wsX5_start : List Cond := .code yX5_start cX5_start 3 none :: ((wsX5_start_r1 ++ (wsX5_start_r2 ++ wsX5_start_r3)) ++ wsX50)
def wsX5_isFile : List Cond := .code yX5_isFile cX5_isFile 2 (some .boolean) :: ([.fieldLink RX5 38 "VeiledFilesModel" "there" "[Z"] ++ wsX50)
def wsX5_named : List Cond := .code yX5_named cX5_named 4 (some .int) :: ([.fieldLink RX5 38 "VeiledFilesModel" "there" "[Z", .fieldLink RX5 41 "VeiledFilesModel" "name" "[J"] ++ wsX50)
def wsX5_create : List Cond := .code yX5_create cX5_create 4 (some .int) :: ([.fieldLink RX5 58 "VeiledFilesModel" "thrown" "I", .fieldLink RX5 38 "VeiledFilesModel" "there" "[Z", .fieldLink RX5 41 "VeiledFilesModel" "name" "[J", .fieldLink RX5 45 "VeiledFilesModel" "size" "[I", .methodLink RX5 144 yX5_named, .instanceMethod yX5_named, .selects RX5 yX5_named yX5_named, .initialized RX5, .code yX5_named cX5_named 4 (some .int)] ++ wsX50)
def wsX5_find : List Cond := .code yX5_find cX5_find 3 (some .int) :: ([.fieldLink RX5 58 "VeiledFilesModel" "thrown" "I", .methodLink RX5 144 yX5_named, .instanceMethod yX5_named, .selects RX5 yX5_named yX5_named, .initialized RX5, .code yX5_named cX5_named 4 (some .int), .fieldLink RX5 38 "VeiledFilesModel" "there" "[Z", .fieldLink RX5 41 "VeiledFilesModel" "name" "[J"] ++ wsX50)
def wsX5_remove : List Cond := .code yX5_remove cX5_remove 3 (some .boolean) :: ([.fieldLink RX5 58 "VeiledFilesModel" "thrown" "I", .fieldLink RX5 45 "VeiledFilesModel" "size" "[I", .fieldLink RX5 51 "VeiledFilesModel" "taken" "[Z", .fieldLink RX5 48 "VeiledFilesModel" "part" "[I", .fieldLink RX5 38 "VeiledFilesModel" "there" "[Z", .methodLink RX5 148 yX5_isFile, .instanceMethod yX5_isFile, .selects RX5 yX5_isFile yX5_isFile, .initialized RX5, .code yX5_isFile cX5_isFile 2 (some .boolean)] ++ wsX50)
def wsX5_size : List Cond := .code yX5_size cX5_size 2 (some .int) :: ([.fieldLink RX5 58 "VeiledFilesModel" "thrown" "I", .fieldLink RX5 45 "VeiledFilesModel" "size" "[I", .methodLink RX5 148 yX5_isFile, .instanceMethod yX5_isFile, .selects RX5 yX5_isFile yX5_isFile, .initialized RX5, .code yX5_isFile cX5_isFile 2 (some .boolean), .fieldLink RX5 38 "VeiledFilesModel" "there" "[Z"] ++ wsX50)
def wsX5_write_r1 : List Cond := [Cond.fieldLink RX5 45 "VeiledFilesModel" "size" "[I", Cond.fieldLink RX5 131 "VeiledFilesModel" "dead" "Z", Cond.fieldLink RX5 58 "VeiledFilesModel" "thrown" "I", Cond.fieldLink RX5 51 "VeiledFilesModel" "taken" "[Z", Cond.fieldLink RX5 48 "VeiledFilesModel" "part" "[I", Cond.methodLink RX5 148 yX5_isFile, Cond.instanceMethod yX5_isFile, Cond.selects RX5 yX5_isFile yX5_isFile, Cond.initialized RX5, Cond.code yX5_isFile cX5_isFile 2 (some .boolean), Cond.fieldLink RX5 38 "VeiledFilesModel" "there" "[Z", Cond.methodLink RX5 152 yX5_access, Cond.instanceMethod yX5_access, Cond.selects RX5 yX5_access yX5_access, Cond.code yX5_access cX5_access 14 (some .boolean), Cond.fieldLink RX5 26 "VeiledFilesModel" "mapLeaf" "[I", Cond.fieldLink RX5 32 "VeiledFilesModel" "traceL" "[I", Cond.fieldLink RX5 124 "VeiledFilesModel" "accesses" "I", Cond.fieldLink RX5 35 "VeiledFilesModel" "traceM" "[I", Cond.fieldLink RX5 20 "VeiledFilesModel" "leaf" "[I", Cond.fieldLink RX5 23 "VeiledFilesModel" "words" "[I", Cond.fieldLink RX5 138 "VeiledFilesModel" "got" "I", Cond.methodLink RX5 121 yX5_draw, Cond.instanceMethod yX5_draw]
def wsX5_write_r2 : List Cond := [Cond.selects RX5 yX5_draw yX5_draw, Cond.code yX5_draw cX5_draw 2 (some .int), Cond.fieldLink RX5 62 "VeiledFilesModel" "word" "I", Cond.methodLink RX5 127 yX5_take, Cond.instanceMethod yX5_take, Cond.selects RX5 yX5_take yX5_take, Cond.code yX5_take cX5_take 6 (some .boolean), Cond.fieldLink RX5 7 "VeiledFilesModel" "sealed" "[I", Cond.methodLink RX5 69 yX5_levels, Cond.static yX5_levels, Cond.code yX5_levels cX5_levels 1 (some .int), Cond.methodLink RX5 72 yX5_onPath, Cond.static yX5_onPath, Cond.code yX5_onPath cX5_onPath 5 (some .int), Cond.methodLink RX5 65 yX5_buckets, Cond.static yX5_buckets, Cond.code yX5_buckets cX5_buckets 1 (some .int), Cond.methodLink RX5 80 yX5_place, Cond.static yX5_place, Cond.code yX5_place cX5_place 2 (some .int), Cond.methodLink RX5 92 yX5_tag, Cond.instanceMethod yX5_tag, Cond.selects RX5 yX5_tag yX5_tag, Cond.code yX5_tag cX5_tag 5 (some .int)]
def wsX5_write_r3 : List Cond := [Cond.constant RX5 91 (16777619), Cond.methodLink RX5 88 yX5_pad, Cond.instanceMethod yX5_pad, Cond.selects RX5 yX5_pad yX5_pad, Cond.code yX5_pad cX5_pad 5 (some .int), Cond.fieldLink RX5 76 "VeiledFilesModel" "key" "I", Cond.constant RX5 79 (-1640531535), Cond.fieldLink RX5 13 "VeiledFilesModel" "counters" "[I", Cond.constant RX5 84 (-2048144777), Cond.constant RX5 85 (-1028477379), Cond.constant RX5 86 (739982445), Cond.constant RX5 87 (695872825), Cond.methodLink RX5 98 yX5_open, Cond.instanceMethod yX5_open, Cond.selects RX5 yX5_open yX5_open, Cond.code yX5_open cX5_open 7 none, Cond.fieldLink RX5 16 "VeiledFilesModel" "out" "[Z", Cond.methodLink RX5 102 yX5_plainWord, Cond.instanceMethod yX5_plainWord, Cond.selects RX5 yX5_plainWord yX5_plainWord, Cond.code yX5_plainWord cX5_plainWord 4 (some .int), Cond.methodLink RX5 105 yX5_blocks, Cond.static yX5_blocks, Cond.code yX5_blocks cX5_blocks 1 (some .int)]
def wsX5_write_r4 : List Cond := [Cond.methodLink RX5 95 yX5_first, Cond.static yX5_first, Cond.code yX5_first cX5_first 1 (some .int), Cond.methodLink RX5 135 yX5_putBack, Cond.instanceMethod yX5_putBack, Cond.selects RX5 yX5_putBack yX5_putBack, Cond.code yX5_putBack cX5_putBack 8 none, Cond.methodLink RX5 108 yX5_clear, Cond.instanceMethod yX5_clear, Cond.selects RX5 yX5_clear yX5_clear, Cond.code yX5_clear cX5_clear 2 none, Cond.fieldLink RX5 29 "VeiledFilesModel" "plain" "[I", Cond.methodLink RX5 111 yX5_passes, Cond.static yX5_passes, Cond.code yX5_passes cX5_passes 4 (some .boolean), Cond.methodLink RX5 115 yX5_put, Cond.instanceMethod yX5_put, Cond.selects RX5 yX5_put yX5_put, Cond.code yX5_put cX5_put 6 none, Cond.methodLink RX5 118 yX5_seal, Cond.instanceMethod yX5_seal, Cond.selects RX5 yX5_seal yX5_seal, Cond.code yX5_seal cX5_seal 5 none]
def wsX5_write : List Cond := .code yX5_write cX5_write 7 none :: ((wsX5_write_r1 ++ (wsX5_write_r2 ++ (wsX5_write_r3 ++ wsX5_write_r4))) ++ wsX50)
def wsX5_read_r1 : List Cond := [Cond.fieldLink RX5 45 "VeiledFilesModel" "size" "[I", Cond.fieldLink RX5 131 "VeiledFilesModel" "dead" "Z", Cond.fieldLink RX5 48 "VeiledFilesModel" "part" "[I", Cond.fieldLink RX5 58 "VeiledFilesModel" "thrown" "I", Cond.fieldLink RX5 138 "VeiledFilesModel" "got" "I", Cond.methodLink RX5 148 yX5_isFile, Cond.instanceMethod yX5_isFile, Cond.selects RX5 yX5_isFile yX5_isFile, Cond.initialized RX5, Cond.code yX5_isFile cX5_isFile 2 (some .boolean), Cond.fieldLink RX5 38 "VeiledFilesModel" "there" "[Z", Cond.methodLink RX5 156 yX5_raise, Cond.instanceMethod yX5_raise, Cond.selects RX5 yX5_raise yX5_raise, Cond.code yX5_raise cX5_raise 2 (some .int), Cond.methodLink RX5 152 yX5_access, Cond.instanceMethod yX5_access, Cond.selects RX5 yX5_access yX5_access, Cond.code yX5_access cX5_access 14 (some .boolean), Cond.fieldLink RX5 26 "VeiledFilesModel" "mapLeaf" "[I", Cond.fieldLink RX5 32 "VeiledFilesModel" "traceL" "[I", Cond.fieldLink RX5 124 "VeiledFilesModel" "accesses" "I", Cond.fieldLink RX5 35 "VeiledFilesModel" "traceM" "[I", Cond.fieldLink RX5 20 "VeiledFilesModel" "leaf" "[I"]
def wsX5_read_r2 : List Cond := [Cond.fieldLink RX5 23 "VeiledFilesModel" "words" "[I", Cond.methodLink RX5 121 yX5_draw, Cond.instanceMethod yX5_draw, Cond.selects RX5 yX5_draw yX5_draw, Cond.code yX5_draw cX5_draw 2 (some .int), Cond.fieldLink RX5 62 "VeiledFilesModel" "word" "I", Cond.methodLink RX5 127 yX5_take, Cond.instanceMethod yX5_take, Cond.selects RX5 yX5_take yX5_take, Cond.code yX5_take cX5_take 6 (some .boolean), Cond.fieldLink RX5 7 "VeiledFilesModel" "sealed" "[I", Cond.methodLink RX5 69 yX5_levels, Cond.static yX5_levels, Cond.code yX5_levels cX5_levels 1 (some .int), Cond.methodLink RX5 72 yX5_onPath, Cond.static yX5_onPath, Cond.code yX5_onPath cX5_onPath 5 (some .int), Cond.methodLink RX5 65 yX5_buckets, Cond.static yX5_buckets, Cond.code yX5_buckets cX5_buckets 1 (some .int), Cond.methodLink RX5 80 yX5_place, Cond.static yX5_place, Cond.code yX5_place cX5_place 2 (some .int), Cond.methodLink RX5 92 yX5_tag]
def wsX5_read_r3 : List Cond := [Cond.instanceMethod yX5_tag, Cond.selects RX5 yX5_tag yX5_tag, Cond.code yX5_tag cX5_tag 5 (some .int), Cond.constant RX5 91 (16777619), Cond.methodLink RX5 88 yX5_pad, Cond.instanceMethod yX5_pad, Cond.selects RX5 yX5_pad yX5_pad, Cond.code yX5_pad cX5_pad 5 (some .int), Cond.fieldLink RX5 76 "VeiledFilesModel" "key" "I", Cond.constant RX5 79 (-1640531535), Cond.fieldLink RX5 13 "VeiledFilesModel" "counters" "[I", Cond.constant RX5 84 (-2048144777), Cond.constant RX5 85 (-1028477379), Cond.constant RX5 86 (739982445), Cond.constant RX5 87 (695872825), Cond.methodLink RX5 98 yX5_open, Cond.instanceMethod yX5_open, Cond.selects RX5 yX5_open yX5_open, Cond.code yX5_open cX5_open 7 none, Cond.fieldLink RX5 16 "VeiledFilesModel" "out" "[Z", Cond.methodLink RX5 102 yX5_plainWord, Cond.instanceMethod yX5_plainWord, Cond.selects RX5 yX5_plainWord yX5_plainWord, Cond.code yX5_plainWord cX5_plainWord 4 (some .int)]
def wsX5_read_r4 : List Cond := [Cond.methodLink RX5 105 yX5_blocks, Cond.static yX5_blocks, Cond.code yX5_blocks cX5_blocks 1 (some .int), Cond.methodLink RX5 95 yX5_first, Cond.static yX5_first, Cond.code yX5_first cX5_first 1 (some .int), Cond.methodLink RX5 135 yX5_putBack, Cond.instanceMethod yX5_putBack, Cond.selects RX5 yX5_putBack yX5_putBack, Cond.code yX5_putBack cX5_putBack 8 none, Cond.methodLink RX5 108 yX5_clear, Cond.instanceMethod yX5_clear, Cond.selects RX5 yX5_clear yX5_clear, Cond.code yX5_clear cX5_clear 2 none, Cond.fieldLink RX5 29 "VeiledFilesModel" "plain" "[I", Cond.methodLink RX5 111 yX5_passes, Cond.static yX5_passes, Cond.code yX5_passes cX5_passes 4 (some .boolean), Cond.methodLink RX5 115 yX5_put, Cond.instanceMethod yX5_put, Cond.selects RX5 yX5_put yX5_put, Cond.code yX5_put cX5_put 6 none, Cond.methodLink RX5 118 yX5_seal, Cond.instanceMethod yX5_seal]
def wsX5_read_r5 : List Cond := [Cond.selects RX5 yX5_seal yX5_seal, Cond.code yX5_seal cX5_seal 5 none]
def wsX5_read : List Cond := .code yX5_read cX5_read 4 (some .int) :: ((wsX5_read_r1 ++ (wsX5_read_r2 ++ (wsX5_read_r3 ++ (wsX5_read_r4 ++ wsX5_read_r5)))) ++ wsX50)
def wsX5_idle_r1 : List Cond := [Cond.fieldLink RX5 131 "VeiledFilesModel" "dead" "Z", Cond.fieldLink RX5 58 "VeiledFilesModel" "thrown" "I", Cond.methodLink RX5 121 yX5_draw, Cond.instanceMethod yX5_draw, Cond.selects RX5 yX5_draw yX5_draw, Cond.initialized RX5, Cond.code yX5_draw cX5_draw 2 (some .int), Cond.fieldLink RX5 62 "VeiledFilesModel" "word" "I", Cond.methodLink RX5 152 yX5_access, Cond.instanceMethod yX5_access, Cond.selects RX5 yX5_access yX5_access, Cond.code yX5_access cX5_access 14 (some .boolean), Cond.fieldLink RX5 26 "VeiledFilesModel" "mapLeaf" "[I", Cond.fieldLink RX5 32 "VeiledFilesModel" "traceL" "[I", Cond.fieldLink RX5 124 "VeiledFilesModel" "accesses" "I", Cond.fieldLink RX5 35 "VeiledFilesModel" "traceM" "[I", Cond.fieldLink RX5 20 "VeiledFilesModel" "leaf" "[I", Cond.fieldLink RX5 23 "VeiledFilesModel" "words" "[I", Cond.fieldLink RX5 138 "VeiledFilesModel" "got" "I", Cond.methodLink RX5 127 yX5_take, Cond.instanceMethod yX5_take, Cond.selects RX5 yX5_take yX5_take, Cond.code yX5_take cX5_take 6 (some .boolean), Cond.fieldLink RX5 7 "VeiledFilesModel" "sealed" "[I"]
def wsX5_idle_r2 : List Cond := [Cond.methodLink RX5 69 yX5_levels, Cond.static yX5_levels, Cond.code yX5_levels cX5_levels 1 (some .int), Cond.methodLink RX5 72 yX5_onPath, Cond.static yX5_onPath, Cond.code yX5_onPath cX5_onPath 5 (some .int), Cond.methodLink RX5 65 yX5_buckets, Cond.static yX5_buckets, Cond.code yX5_buckets cX5_buckets 1 (some .int), Cond.methodLink RX5 80 yX5_place, Cond.static yX5_place, Cond.code yX5_place cX5_place 2 (some .int), Cond.methodLink RX5 92 yX5_tag, Cond.instanceMethod yX5_tag, Cond.selects RX5 yX5_tag yX5_tag, Cond.code yX5_tag cX5_tag 5 (some .int), Cond.constant RX5 91 (16777619), Cond.methodLink RX5 88 yX5_pad, Cond.instanceMethod yX5_pad, Cond.selects RX5 yX5_pad yX5_pad, Cond.code yX5_pad cX5_pad 5 (some .int), Cond.fieldLink RX5 76 "VeiledFilesModel" "key" "I", Cond.constant RX5 79 (-1640531535), Cond.fieldLink RX5 13 "VeiledFilesModel" "counters" "[I"]
def wsX5_idle_r3 : List Cond := [Cond.constant RX5 84 (-2048144777), Cond.constant RX5 85 (-1028477379), Cond.constant RX5 86 (739982445), Cond.constant RX5 87 (695872825), Cond.methodLink RX5 98 yX5_open, Cond.instanceMethod yX5_open, Cond.selects RX5 yX5_open yX5_open, Cond.code yX5_open cX5_open 7 none, Cond.fieldLink RX5 16 "VeiledFilesModel" "out" "[Z", Cond.methodLink RX5 102 yX5_plainWord, Cond.instanceMethod yX5_plainWord, Cond.selects RX5 yX5_plainWord yX5_plainWord, Cond.code yX5_plainWord cX5_plainWord 4 (some .int), Cond.methodLink RX5 105 yX5_blocks, Cond.static yX5_blocks, Cond.code yX5_blocks cX5_blocks 1 (some .int), Cond.methodLink RX5 95 yX5_first, Cond.static yX5_first, Cond.code yX5_first cX5_first 1 (some .int), Cond.methodLink RX5 135 yX5_putBack, Cond.instanceMethod yX5_putBack, Cond.selects RX5 yX5_putBack yX5_putBack, Cond.code yX5_putBack cX5_putBack 8 none, Cond.methodLink RX5 108 yX5_clear]
def wsX5_idle_r4 : List Cond := [Cond.instanceMethod yX5_clear, Cond.selects RX5 yX5_clear yX5_clear, Cond.code yX5_clear cX5_clear 2 none, Cond.fieldLink RX5 29 "VeiledFilesModel" "plain" "[I", Cond.methodLink RX5 111 yX5_passes, Cond.static yX5_passes, Cond.code yX5_passes cX5_passes 4 (some .boolean), Cond.methodLink RX5 115 yX5_put, Cond.instanceMethod yX5_put, Cond.selects RX5 yX5_put yX5_put, Cond.code yX5_put cX5_put 6 none, Cond.methodLink RX5 118 yX5_seal, Cond.instanceMethod yX5_seal, Cond.selects RX5 yX5_seal yX5_seal, Cond.code yX5_seal cX5_seal 5 none]
def wsX5_idle : List Cond := .code yX5_idle cX5_idle 2 none :: ((wsX5_idle_r1 ++ (wsX5_idle_r2 ++ (wsX5_idle_r3 ++ wsX5_idle_r4))) ++ wsX50)
def wsX5_isBucket : List Cond := .code yX5_isBucket cX5_isBucket 2 (some .boolean) :: ([.methodLink RX5 65 yX5_buckets, .static yX5_buckets, .initialized RX5, .code yX5_buckets cX5_buckets 1 (some .int)])
def wsX5_sealed : List Cond := .code yX5_sealed cX5_sealed 4 (some .int) :: ([.fieldLink RX5 58 "VeiledFilesModel" "thrown" "I", .fieldLink RX5 7 "VeiledFilesModel" "sealed" "[I", .methodLink RX5 159 yX5_isBucket, .static yX5_isBucket, .initialized RX5, .code yX5_isBucket cX5_isBucket 2 (some .boolean), .methodLink RX5 65 yX5_buckets, .static yX5_buckets, .code yX5_buckets cX5_buckets 1 (some .int), .methodLink RX5 156 yX5_raise, .instanceMethod yX5_raise, .selects RX5 yX5_raise yX5_raise, .code yX5_raise cX5_raise 2 (some .int), .methodLink RX5 80 yX5_place, .static yX5_place, .code yX5_place cX5_place 2 (some .int)] ++ wsX50)
def wsX5_alter_r1 : List Cond := [Cond.fieldLink RX5 58 "VeiledFilesModel" "thrown" "I", Cond.fieldLink RX5 7 "VeiledFilesModel" "sealed" "[I", Cond.methodLink RX5 159 yX5_isBucket, Cond.static yX5_isBucket, Cond.initialized RX5, Cond.code yX5_isBucket cX5_isBucket 2 (some .boolean), Cond.methodLink RX5 65 yX5_buckets, Cond.static yX5_buckets, Cond.code yX5_buckets cX5_buckets 1 (some .int), Cond.methodLink RX5 80 yX5_place, Cond.static yX5_place, Cond.code yX5_place cX5_place 2 (some .int), Cond.methodLink RX5 92 yX5_tag, Cond.instanceMethod yX5_tag, Cond.selects RX5 yX5_tag yX5_tag, Cond.code yX5_tag cX5_tag 5 (some .int), Cond.constant RX5 91 (16777619), Cond.methodLink RX5 88 yX5_pad, Cond.instanceMethod yX5_pad, Cond.selects RX5 yX5_pad yX5_pad, Cond.code yX5_pad cX5_pad 5 (some .int), Cond.fieldLink RX5 76 "VeiledFilesModel" "key" "I", Cond.constant RX5 79 (-1640531535), Cond.fieldLink RX5 13 "VeiledFilesModel" "counters" "[I"]
def wsX5_alter_r2 : List Cond := [Cond.constant RX5 84 (-2048144777), Cond.constant RX5 85 (-1028477379), Cond.constant RX5 86 (739982445), Cond.constant RX5 87 (695872825)]
def wsX5_alter : List Cond := .code yX5_alter cX5_alter 8 (some .boolean) :: ((wsX5_alter_r1 ++ wsX5_alter_r2) ++ wsX50)
def wsX5_counter : List Cond := .code yX5_counter cX5_counter 3 (some .int) :: ([.fieldLink RX5 58 "VeiledFilesModel" "thrown" "I", .fieldLink RX5 13 "VeiledFilesModel" "counters" "[I", .methodLink RX5 159 yX5_isBucket, .static yX5_isBucket, .initialized RX5, .code yX5_isBucket cX5_isBucket 2 (some .boolean), .methodLink RX5 65 yX5_buckets, .static yX5_buckets, .code yX5_buckets cX5_buckets 1 (some .int), .methodLink RX5 80 yX5_place, .static yX5_place, .code yX5_place cX5_place 2 (some .int)] ++ wsX50)
def wsX5_trace : List Cond := .code yX5_trace cX5_trace 4 (some .int) :: ([.fieldLink RX5 58 "VeiledFilesModel" "thrown" "I", .fieldLink RX5 124 "VeiledFilesModel" "accesses" "I", .fieldLink RX5 32 "VeiledFilesModel" "traceL" "[I", .fieldLink RX5 35 "VeiledFilesModel" "traceM" "[I"] ++ wsX50)
def wsX5_stash : List Cond := .code yX5_stash cX5_stash 4 (some .int) :: ([.fieldLink RX5 58 "VeiledFilesModel" "thrown" "I", .fieldLink RX5 16 "VeiledFilesModel" "out" "[Z", .methodLink RX5 105 yX5_blocks, .static yX5_blocks, .initialized RX5, .code yX5_blocks cX5_blocks 1 (some .int), .methodLink RX5 95 yX5_first, .static yX5_first, .code yX5_first cX5_first 1 (some .int)] ++ wsX50)
def wsX5_state : List Cond := .code yX5_state cX5_state 5 (some .int) :: ([.fieldLink RX5 58 "VeiledFilesModel" "thrown" "I", .fieldLink RX5 38 "VeiledFilesModel" "there" "[Z", .fieldLink RX5 51 "VeiledFilesModel" "taken" "[Z", .fieldLink RX5 124 "VeiledFilesModel" "accesses" "I", .fieldLink RX5 131 "VeiledFilesModel" "dead" "Z"] ++ wsX50)
def wsL_write_r1 : List Cond := [Cond.classLink RL 13 "java/lang/IndexOutOfBoundsException", Cond.classLink RL 15 "java/lang/IllegalStateException", Cond.methodLink RL 7 yX4_write, Cond.instanceMethod yX4_write, Cond.selects RX4 yX4_write yX4_write, Cond.initialized RX4, Cond.code yX4_write cX4_write 6 none, Cond.classLink RX4 69 "java/lang/IndexOutOfBoundsException", Cond.initialized "java/lang/IndexOutOfBoundsException", Cond.classLink RX4 75 "java/lang/IllegalStateException", Cond.initialized "java/lang/IllegalStateException", Cond.fieldLink RX4 35 "VeiledFiles" "book" "LVeiledFiles$Book;", Cond.fieldLink RX4 25 "VeiledFiles" "data" "LVeiledFiles$Tree;", Cond.methodLink RX4 65 yX0_blockToWrite, Cond.instanceMethod yX0_blockToWrite, Cond.selects RX0 yX0_blockToWrite yX0_blockToWrite, Cond.initialized RX0, Cond.code yX0_blockToWrite cX0_blockToWrite 3 (some .int), Cond.fieldLink RX0 19 "VeiledFiles$Book" "partBlocks" "[I", Cond.methodLink RX0 40 yX0_lengthOf, Cond.instanceMethod yX0_lengthOf, Cond.selects RX0 yX0_lengthOf yX0_lengthOf, Cond.code yX0_lengthOf cX0_lengthOf 2 (some .int), Cond.fieldLink RX0 15 "VeiledFiles$Book" "lengths" "[I"]
def wsL_write_r2 : List Cond := [Cond.methodLink RX0 48 yX0_opensPart, Cond.instanceMethod yX0_opensPart, Cond.selects RX0 yX0_opensPart yX0_opensPart, Cond.code yX0_opensPart cX0_opensPart 3 (some .boolean), Cond.methodLink RX0 52 yX0_leastFreeBlock, Cond.instanceMethod yX0_leastFreeBlock, Cond.selects RX0 yX0_leastFreeBlock yX0_leastFreeBlock, Cond.code yX0_leastFreeBlock cX0_leastFreeBlock 2 (some .int), Cond.fieldLink RX0 22 "VeiledFiles$Book" "taken" "[Z", Cond.methodLink RX0 44 yX0_partAt, Cond.static yX0_partAt, Cond.code yX0_partAt cX0_partAt 2 (some .int), Cond.methodLink RX4 72 yX4_openPathOf, Cond.instanceMethod yX4_openPathOf, Cond.selects RX4 yX4_openPathOf yX4_openPathOf, Cond.code yX4_openPathOf cX4_openPathOf 6 (some .int), Cond.fieldLink RX4 140 "VeiledFiles" "dead" "Z", Cond.fieldLink RX4 28 "VeiledFiles" "mapLeaves" "[I", Cond.fieldLink RX4 10 "VeiledFiles" "dice" "LVeiledFiles$Dice;", Cond.fieldLink RX4 42 "VeiledFiles" "trail" "LVeiledFiles$Trail;", Cond.fieldLink RX4 21 "VeiledFiles" "map" "LVeiledFiles$Tree;", Cond.methodLink RX4 101 yX1_draw, Cond.instanceMethod yX1_draw, Cond.selects RX1 yX1_draw yX1_draw]
def wsL_write_r3 : List Cond := [Cond.initialized RX1, Cond.code yX1_draw cX1_draw 2 (some .int), Cond.fieldLink RX1 7 "VeiledFiles$Dice" "word" "I", Cond.methodLink RX4 165 yX2_add, Cond.instanceMethod yX2_add, Cond.selects RX2 yX2_add yX2_add, Cond.initialized RX2, Cond.code yX2_add cX2_add 2 none, Cond.fieldLink RX2 11 "VeiledFiles$Trail" "mapLeaf" "[I", Cond.fieldLink RX2 18 "VeiledFiles$Trail" "count" "I", Cond.fieldLink RX2 15 "VeiledFiles$Trail" "dataLeaf" "[I", Cond.methodLink RX4 167 yX3_take, Cond.instanceMethod yX3_take, Cond.selects RX3 yX3_take yX3_take, Cond.initialized RX3, Cond.code yX3_take cX3_take 3 (some .boolean), Cond.fieldLink RX3 18 "VeiledFiles$Tree" "levels" "I", Cond.methodLink RX3 71 yX3_bucketOver, Cond.instanceMethod yX3_bucketOver, Cond.selects RX3 yX3_bucketOver yX3_bucketOver, Cond.code yX3_bucketOver cX3_bucketOver 3 (some .int), Cond.fieldLink RX3 15 "VeiledFiles$Tree" "leafCount" "I", Cond.methodLink RX3 64 yX3_isWhole, Cond.instanceMethod yX3_isWhole]
def wsL_write_r4 : List Cond := [Cond.selects RX3 yX3_isWhole yX3_isWhole, Cond.code yX3_isWhole cX3_isWhole 2 (some .boolean), Cond.fieldLink RX3 27 "VeiledFiles$Tree" "store" "[I", Cond.methodLink RX3 97 yX3_tagDue, Cond.instanceMethod yX3_tagDue, Cond.selects RX3 yX3_tagDue yX3_tagDue, Cond.code yX3_tagDue cX3_tagDue 5 (some .int), Cond.constant RX3 104 (16777619), Cond.methodLink RX3 101 yX3_pad, Cond.instanceMethod yX3_pad, Cond.selects RX3 yX3_pad yX3_pad, Cond.code yX3_pad cX3_pad 4 (some .int), Cond.fieldLink RX3 44 "VeiledFiles$Tree" "key" "I", Cond.fieldLink RX3 9 "VeiledFiles$Tree" "number" "I", Cond.constant RX3 105 (-1640531535), Cond.fieldLink RX3 31 "VeiledFiles$Tree" "counters" "[I", Cond.constant RX3 106 (-2048144777), Cond.constant RX3 107 (-1028477379), Cond.constant RX3 108 (739982445), Cond.constant RX3 109 (695872825), Cond.methodLink RX3 75 yX3_unload, Cond.instanceMethod yX3_unload, Cond.selects RX3 yX3_unload yX3_unload, Cond.code yX3_unload cX3_unload 4 none]
def wsL_write_r5 : List Cond := [Cond.methodLink RX3 91 yX3_maskWords, Cond.instanceMethod yX3_maskWords, Cond.selects RX3 yX3_maskWords yX3_maskWords, Cond.code yX3_maskWords cX3_maskWords 4 none, Cond.methodLink RX3 82 yX3_slotStart, Cond.static yX3_slotStart, Cond.code yX3_slotStart cX3_slotStart 2 (some .int), Cond.methodLink RX3 94 yX3_hold, Cond.instanceMethod yX3_hold, Cond.selects RX3 yX3_hold yX3_hold, Cond.code yX3_hold cX3_hold 4 none, Cond.fieldLink RX3 24 "VeiledFiles$Tree" "blocks" "I", Cond.fieldLink RX3 34 "VeiledFiles$Tree" "held" "[Z", Cond.fieldLink RX3 38 "VeiledFiles$Tree" "leaves" "[I", Cond.methodLink RX3 67 yX3_setWord, Cond.instanceMethod yX3_setWord, Cond.selects RX3 yX3_setWord yX3_setWord, Cond.code yX3_setWord cX3_setWord 4 none, Cond.fieldLink RX3 41 "VeiledFiles$Tree" "words" "[I", Cond.methodLink RX4 159 yX3_moveTo, Cond.instanceMethod yX3_moveTo, Cond.selects RX3 yX3_moveTo yX3_moveTo, Cond.code yX3_moveTo cX3_moveTo 3 none, Cond.methodLink RX4 170 yX4_entryOf]
def wsL_write_r6 : List Cond := [Cond.instanceMethod yX4_entryOf, Cond.selects RX4 yX4_entryOf yX4_entryOf, Cond.code yX4_entryOf cX4_entryOf 4 (some .int), Cond.methodLink RX4 98 yX3_wordOf, Cond.instanceMethod yX3_wordOf, Cond.selects RX3 yX3_wordOf yX3_wordOf, Cond.code yX3_wordOf cX3_wordOf 3 (some .int), Cond.methodLink RX4 176 yX4_entryShift, Cond.static yX4_entryShift, Cond.code yX4_entryShift cX4_entryShift 1 (some .int), Cond.methodLink RX4 162 yX4_setEntry, Cond.instanceMethod yX4_setEntry, Cond.selects RX4 yX4_setEntry yX4_setEntry, Cond.code yX4_setEntry cX4_setEntry 6 none, Cond.methodLink RX4 86 yX3_setWord, Cond.methodLink RX4 89 yX3_putBack, Cond.instanceMethod yX3_putBack, Cond.selects RX3 yX3_putBack yX3_putBack, Cond.code yX3_putBack cX3_putBack 4 none, Cond.methodLink RX3 78 yX3_load, Cond.instanceMethod yX3_load, Cond.selects RX3 yX3_load yX3_load, Cond.code yX3_load cX3_load 5 none, Cond.methodLink RX3 85 yX3_place]
def wsL_write_r7 : List Cond := [Cond.instanceMethod yX3_place, Cond.selects RX3 yX3_place yX3_place, Cond.code yX3_place cX3_place 6 none, Cond.methodLink RX3 88 yX3_wordOf, Cond.methodLink RX3 57 yX3_seal, Cond.instanceMethod yX3_seal, Cond.selects RX3 yX3_seal yX3_seal, Cond.code yX3_seal cX3_seal 2 none, Cond.methodLink RX4 173 yX2_setDataLeaf, Cond.instanceMethod yX2_setDataLeaf, Cond.selects RX2 yX2_setDataLeaf yX2_setDataLeaf, Cond.code yX2_setDataLeaf cX2_setDataLeaf 2 none, Cond.methodLink RX4 78 yX0_opensPart, Cond.methodLink RX4 82 yX3_clearWords, Cond.instanceMethod yX3_clearWords, Cond.selects RX3 yX3_clearWords yX3_clearWords, Cond.code yX3_clearWords cX3_clearWords 3 none, Cond.methodLink RX4 92 yX0_noteWritten, Cond.instanceMethod yX0_noteWritten, Cond.selects RX0 yX0_noteWritten yX0_noteWritten, Cond.code yX0_noteWritten cX0_noteWritten 4 none]
def wsL_write : List Cond := .codeWith yL_write cL_write 5 (some .int) [(0, 7, 10, 13), (0, 7, 14, 15)] :: ((wsL_write_r1 ++ (wsL_write_r2 ++ (wsL_write_r3 ++ (wsL_write_r4 ++ (wsL_write_r5 ++ (wsL_write_r6 ++ wsL_write_r7)))))) ++ wsX40 ++ wsX00 ++ wsX10 ++ wsX20 ++ wsX30 ++ (vx_at0 RX4 71 "java/lang/IndexOutOfBoundsException" ["java/lang/RuntimeException", "java/lang/Exception"]).filter goodWord ++ (vx_at0 RX4 77 "java/lang/IllegalStateException" ["java/lang/RuntimeException", "java/lang/Exception"]).filter goodWord)
def wsL_read_r1 : List Cond := [Cond.classLink RL 13 "java/lang/IndexOutOfBoundsException", Cond.classLink RL 15 "java/lang/IllegalStateException", Cond.methodLink RL 17 yX4_read, Cond.instanceMethod yX4_read, Cond.selects RX4 yX4_read yX4_read, Cond.initialized RX4, Cond.code yX4_read cX4_read 6 (some .int), Cond.classLink RX4 69 "java/lang/IndexOutOfBoundsException", Cond.initialized "java/lang/IndexOutOfBoundsException", Cond.classLink RX4 75 "java/lang/IllegalStateException", Cond.initialized "java/lang/IllegalStateException", Cond.fieldLink RX4 35 "VeiledFiles" "book" "LVeiledFiles$Book;", Cond.fieldLink RX4 25 "VeiledFiles" "data" "LVeiledFiles$Tree;", Cond.methodLink RX4 95 yX0_blockToRead, Cond.instanceMethod yX0_blockToRead, Cond.selects RX0 yX0_blockToRead yX0_blockToRead, Cond.initialized RX0, Cond.code yX0_blockToRead cX0_blockToRead 3 (some .int), Cond.fieldLink RX0 19 "VeiledFiles$Book" "partBlocks" "[I", Cond.methodLink RX0 40 yX0_lengthOf, Cond.instanceMethod yX0_lengthOf, Cond.selects RX0 yX0_lengthOf yX0_lengthOf, Cond.code yX0_lengthOf cX0_lengthOf 2 (some .int), Cond.fieldLink RX0 15 "VeiledFiles$Book" "lengths" "[I"]
def wsL_read_r2 : List Cond := [Cond.methodLink RX0 44 yX0_partAt, Cond.static yX0_partAt, Cond.code yX0_partAt cX0_partAt 2 (some .int), Cond.methodLink RX4 72 yX4_openPathOf, Cond.instanceMethod yX4_openPathOf, Cond.selects RX4 yX4_openPathOf yX4_openPathOf, Cond.code yX4_openPathOf cX4_openPathOf 6 (some .int), Cond.fieldLink RX4 140 "VeiledFiles" "dead" "Z", Cond.fieldLink RX4 28 "VeiledFiles" "mapLeaves" "[I", Cond.fieldLink RX4 10 "VeiledFiles" "dice" "LVeiledFiles$Dice;", Cond.fieldLink RX4 42 "VeiledFiles" "trail" "LVeiledFiles$Trail;", Cond.fieldLink RX4 21 "VeiledFiles" "map" "LVeiledFiles$Tree;", Cond.methodLink RX4 101 yX1_draw, Cond.instanceMethod yX1_draw, Cond.selects RX1 yX1_draw yX1_draw, Cond.initialized RX1, Cond.code yX1_draw cX1_draw 2 (some .int), Cond.fieldLink RX1 7 "VeiledFiles$Dice" "word" "I", Cond.methodLink RX4 165 yX2_add, Cond.instanceMethod yX2_add, Cond.selects RX2 yX2_add yX2_add, Cond.initialized RX2, Cond.code yX2_add cX2_add 2 none, Cond.fieldLink RX2 11 "VeiledFiles$Trail" "mapLeaf" "[I"]
def wsL_read_r3 : List Cond := [Cond.fieldLink RX2 18 "VeiledFiles$Trail" "count" "I", Cond.fieldLink RX2 15 "VeiledFiles$Trail" "dataLeaf" "[I", Cond.methodLink RX4 167 yX3_take, Cond.instanceMethod yX3_take, Cond.selects RX3 yX3_take yX3_take, Cond.initialized RX3, Cond.code yX3_take cX3_take 3 (some .boolean), Cond.fieldLink RX3 18 "VeiledFiles$Tree" "levels" "I", Cond.methodLink RX3 71 yX3_bucketOver, Cond.instanceMethod yX3_bucketOver, Cond.selects RX3 yX3_bucketOver yX3_bucketOver, Cond.code yX3_bucketOver cX3_bucketOver 3 (some .int), Cond.fieldLink RX3 15 "VeiledFiles$Tree" "leafCount" "I", Cond.methodLink RX3 64 yX3_isWhole, Cond.instanceMethod yX3_isWhole, Cond.selects RX3 yX3_isWhole yX3_isWhole, Cond.code yX3_isWhole cX3_isWhole 2 (some .boolean), Cond.fieldLink RX3 27 "VeiledFiles$Tree" "store" "[I", Cond.methodLink RX3 97 yX3_tagDue, Cond.instanceMethod yX3_tagDue, Cond.selects RX3 yX3_tagDue yX3_tagDue, Cond.code yX3_tagDue cX3_tagDue 5 (some .int), Cond.constant RX3 104 (16777619), Cond.methodLink RX3 101 yX3_pad]
def wsL_read_r4 : List Cond := [Cond.instanceMethod yX3_pad, Cond.selects RX3 yX3_pad yX3_pad, Cond.code yX3_pad cX3_pad 4 (some .int), Cond.fieldLink RX3 44 "VeiledFiles$Tree" "key" "I", Cond.fieldLink RX3 9 "VeiledFiles$Tree" "number" "I", Cond.constant RX3 105 (-1640531535), Cond.fieldLink RX3 31 "VeiledFiles$Tree" "counters" "[I", Cond.constant RX3 106 (-2048144777), Cond.constant RX3 107 (-1028477379), Cond.constant RX3 108 (739982445), Cond.constant RX3 109 (695872825), Cond.methodLink RX3 75 yX3_unload, Cond.instanceMethod yX3_unload, Cond.selects RX3 yX3_unload yX3_unload, Cond.code yX3_unload cX3_unload 4 none, Cond.methodLink RX3 91 yX3_maskWords, Cond.instanceMethod yX3_maskWords, Cond.selects RX3 yX3_maskWords yX3_maskWords, Cond.code yX3_maskWords cX3_maskWords 4 none, Cond.methodLink RX3 82 yX3_slotStart, Cond.static yX3_slotStart, Cond.code yX3_slotStart cX3_slotStart 2 (some .int), Cond.methodLink RX3 94 yX3_hold, Cond.instanceMethod yX3_hold]
def wsL_read_r5 : List Cond := [Cond.selects RX3 yX3_hold yX3_hold, Cond.code yX3_hold cX3_hold 4 none, Cond.fieldLink RX3 24 "VeiledFiles$Tree" "blocks" "I", Cond.fieldLink RX3 34 "VeiledFiles$Tree" "held" "[Z", Cond.fieldLink RX3 38 "VeiledFiles$Tree" "leaves" "[I", Cond.methodLink RX3 67 yX3_setWord, Cond.instanceMethod yX3_setWord, Cond.selects RX3 yX3_setWord yX3_setWord, Cond.code yX3_setWord cX3_setWord 4 none, Cond.fieldLink RX3 41 "VeiledFiles$Tree" "words" "[I", Cond.methodLink RX4 159 yX3_moveTo, Cond.instanceMethod yX3_moveTo, Cond.selects RX3 yX3_moveTo yX3_moveTo, Cond.code yX3_moveTo cX3_moveTo 3 none, Cond.methodLink RX4 170 yX4_entryOf, Cond.instanceMethod yX4_entryOf, Cond.selects RX4 yX4_entryOf yX4_entryOf, Cond.code yX4_entryOf cX4_entryOf 4 (some .int), Cond.methodLink RX4 98 yX3_wordOf, Cond.instanceMethod yX3_wordOf, Cond.selects RX3 yX3_wordOf yX3_wordOf, Cond.code yX3_wordOf cX3_wordOf 3 (some .int), Cond.methodLink RX4 176 yX4_entryShift, Cond.static yX4_entryShift]
def wsL_read_r6 : List Cond := [Cond.code yX4_entryShift cX4_entryShift 1 (some .int), Cond.methodLink RX4 162 yX4_setEntry, Cond.instanceMethod yX4_setEntry, Cond.selects RX4 yX4_setEntry yX4_setEntry, Cond.code yX4_setEntry cX4_setEntry 6 none, Cond.methodLink RX4 86 yX3_setWord, Cond.methodLink RX4 89 yX3_putBack, Cond.instanceMethod yX3_putBack, Cond.selects RX3 yX3_putBack yX3_putBack, Cond.code yX3_putBack cX3_putBack 4 none, Cond.methodLink RX3 78 yX3_load, Cond.instanceMethod yX3_load, Cond.selects RX3 yX3_load yX3_load, Cond.code yX3_load cX3_load 5 none, Cond.methodLink RX3 85 yX3_place, Cond.instanceMethod yX3_place, Cond.selects RX3 yX3_place yX3_place, Cond.code yX3_place cX3_place 6 none, Cond.methodLink RX3 88 yX3_wordOf, Cond.methodLink RX3 57 yX3_seal, Cond.instanceMethod yX3_seal, Cond.selects RX3 yX3_seal yX3_seal, Cond.code yX3_seal cX3_seal 2 none, Cond.methodLink RX4 173 yX2_setDataLeaf]
def wsL_read_r7 : List Cond := [Cond.instanceMethod yX2_setDataLeaf, Cond.selects RX2 yX2_setDataLeaf yX2_setDataLeaf, Cond.code yX2_setDataLeaf cX2_setDataLeaf 2 none]
def wsL_read : List Cond := .codeWith yL_read cL_read 5 (some .int) [(0, 10, 13, 13), (0, 10, 17, 15)] :: ((wsL_read_r1 ++ (wsL_read_r2 ++ (wsL_read_r3 ++ (wsL_read_r4 ++ (wsL_read_r5 ++ (wsL_read_r6 ++ wsL_read_r7)))))) ++ wsX40 ++ wsX00 ++ wsX10 ++ wsX20 ++ wsX30 ++ (vx_at0 RX4 71 "java/lang/IndexOutOfBoundsException" ["java/lang/RuntimeException", "java/lang/Exception"]).filter goodWord ++ (vx_at0 RX4 77 "java/lang/IllegalStateException" ["java/lang/RuntimeException", "java/lang/Exception"]).filter goodWord)
def wsL_idle_r1 : List Cond := [Cond.classLink RL 15 "java/lang/IllegalStateException", Cond.methodLink RL 21 yX4_idle, Cond.instanceMethod yX4_idle, Cond.selects RX4 yX4_idle yX4_idle, Cond.initialized RX4, Cond.code yX4_idle cX4_idle 2 none, Cond.classLink RX4 75 "java/lang/IllegalStateException", Cond.initialized "java/lang/IllegalStateException", Cond.fieldLink RX4 10 "VeiledFiles" "dice" "LVeiledFiles$Dice;", Cond.fieldLink RX4 25 "VeiledFiles" "data" "LVeiledFiles$Tree;", Cond.methodLink RX4 101 yX1_draw, Cond.instanceMethod yX1_draw, Cond.selects RX1 yX1_draw yX1_draw, Cond.initialized RX1, Cond.code yX1_draw cX1_draw 2 (some .int), Cond.fieldLink RX1 7 "VeiledFiles$Dice" "word" "I", Cond.methodLink RX4 72 yX4_openPathOf, Cond.instanceMethod yX4_openPathOf, Cond.selects RX4 yX4_openPathOf yX4_openPathOf, Cond.code yX4_openPathOf cX4_openPathOf 6 (some .int), Cond.fieldLink RX4 140 "VeiledFiles" "dead" "Z", Cond.fieldLink RX4 28 "VeiledFiles" "mapLeaves" "[I", Cond.fieldLink RX4 42 "VeiledFiles" "trail" "LVeiledFiles$Trail;", Cond.fieldLink RX4 21 "VeiledFiles" "map" "LVeiledFiles$Tree;"]
def wsL_idle_r2 : List Cond := [Cond.methodLink RX4 165 yX2_add, Cond.instanceMethod yX2_add, Cond.selects RX2 yX2_add yX2_add, Cond.initialized RX2, Cond.code yX2_add cX2_add 2 none, Cond.fieldLink RX2 11 "VeiledFiles$Trail" "mapLeaf" "[I", Cond.fieldLink RX2 18 "VeiledFiles$Trail" "count" "I", Cond.fieldLink RX2 15 "VeiledFiles$Trail" "dataLeaf" "[I", Cond.methodLink RX4 167 yX3_take, Cond.instanceMethod yX3_take, Cond.selects RX3 yX3_take yX3_take, Cond.initialized RX3, Cond.code yX3_take cX3_take 3 (some .boolean), Cond.fieldLink RX3 18 "VeiledFiles$Tree" "levels" "I", Cond.methodLink RX3 71 yX3_bucketOver, Cond.instanceMethod yX3_bucketOver, Cond.selects RX3 yX3_bucketOver yX3_bucketOver, Cond.code yX3_bucketOver cX3_bucketOver 3 (some .int), Cond.fieldLink RX3 15 "VeiledFiles$Tree" "leafCount" "I", Cond.methodLink RX3 64 yX3_isWhole, Cond.instanceMethod yX3_isWhole, Cond.selects RX3 yX3_isWhole yX3_isWhole, Cond.code yX3_isWhole cX3_isWhole 2 (some .boolean), Cond.fieldLink RX3 27 "VeiledFiles$Tree" "store" "[I"]
def wsL_idle_r3 : List Cond := [Cond.methodLink RX3 97 yX3_tagDue, Cond.instanceMethod yX3_tagDue, Cond.selects RX3 yX3_tagDue yX3_tagDue, Cond.code yX3_tagDue cX3_tagDue 5 (some .int), Cond.constant RX3 104 (16777619), Cond.methodLink RX3 101 yX3_pad, Cond.instanceMethod yX3_pad, Cond.selects RX3 yX3_pad yX3_pad, Cond.code yX3_pad cX3_pad 4 (some .int), Cond.fieldLink RX3 44 "VeiledFiles$Tree" "key" "I", Cond.fieldLink RX3 9 "VeiledFiles$Tree" "number" "I", Cond.constant RX3 105 (-1640531535), Cond.fieldLink RX3 31 "VeiledFiles$Tree" "counters" "[I", Cond.constant RX3 106 (-2048144777), Cond.constant RX3 107 (-1028477379), Cond.constant RX3 108 (739982445), Cond.constant RX3 109 (695872825), Cond.methodLink RX3 75 yX3_unload, Cond.instanceMethod yX3_unload, Cond.selects RX3 yX3_unload yX3_unload, Cond.code yX3_unload cX3_unload 4 none, Cond.methodLink RX3 91 yX3_maskWords, Cond.instanceMethod yX3_maskWords, Cond.selects RX3 yX3_maskWords yX3_maskWords]
def wsL_idle_r4 : List Cond := [Cond.code yX3_maskWords cX3_maskWords 4 none, Cond.methodLink RX3 82 yX3_slotStart, Cond.static yX3_slotStart, Cond.code yX3_slotStart cX3_slotStart 2 (some .int), Cond.methodLink RX3 94 yX3_hold, Cond.instanceMethod yX3_hold, Cond.selects RX3 yX3_hold yX3_hold, Cond.code yX3_hold cX3_hold 4 none, Cond.fieldLink RX3 24 "VeiledFiles$Tree" "blocks" "I", Cond.fieldLink RX3 34 "VeiledFiles$Tree" "held" "[Z", Cond.fieldLink RX3 38 "VeiledFiles$Tree" "leaves" "[I", Cond.methodLink RX3 67 yX3_setWord, Cond.instanceMethod yX3_setWord, Cond.selects RX3 yX3_setWord yX3_setWord, Cond.code yX3_setWord cX3_setWord 4 none, Cond.fieldLink RX3 41 "VeiledFiles$Tree" "words" "[I", Cond.methodLink RX4 159 yX3_moveTo, Cond.instanceMethod yX3_moveTo, Cond.selects RX3 yX3_moveTo yX3_moveTo, Cond.code yX3_moveTo cX3_moveTo 3 none, Cond.methodLink RX4 170 yX4_entryOf, Cond.instanceMethod yX4_entryOf, Cond.selects RX4 yX4_entryOf yX4_entryOf, Cond.code yX4_entryOf cX4_entryOf 4 (some .int)]
def wsL_idle_r5 : List Cond := [Cond.methodLink RX4 98 yX3_wordOf, Cond.instanceMethod yX3_wordOf, Cond.selects RX3 yX3_wordOf yX3_wordOf, Cond.code yX3_wordOf cX3_wordOf 3 (some .int), Cond.methodLink RX4 176 yX4_entryShift, Cond.static yX4_entryShift, Cond.code yX4_entryShift cX4_entryShift 1 (some .int), Cond.methodLink RX4 162 yX4_setEntry, Cond.instanceMethod yX4_setEntry, Cond.selects RX4 yX4_setEntry yX4_setEntry, Cond.code yX4_setEntry cX4_setEntry 6 none, Cond.methodLink RX4 86 yX3_setWord, Cond.methodLink RX4 89 yX3_putBack, Cond.instanceMethod yX3_putBack, Cond.selects RX3 yX3_putBack yX3_putBack, Cond.code yX3_putBack cX3_putBack 4 none, Cond.methodLink RX3 78 yX3_load, Cond.instanceMethod yX3_load, Cond.selects RX3 yX3_load yX3_load, Cond.code yX3_load cX3_load 5 none, Cond.methodLink RX3 85 yX3_place, Cond.instanceMethod yX3_place, Cond.selects RX3 yX3_place yX3_place, Cond.code yX3_place cX3_place 6 none]
def wsL_idle_r6 : List Cond := [Cond.methodLink RX3 88 yX3_wordOf, Cond.methodLink RX3 57 yX3_seal, Cond.instanceMethod yX3_seal, Cond.selects RX3 yX3_seal yX3_seal, Cond.code yX3_seal cX3_seal 2 none, Cond.methodLink RX4 173 yX2_setDataLeaf, Cond.instanceMethod yX2_setDataLeaf, Cond.selects RX2 yX2_setDataLeaf yX2_setDataLeaf, Cond.code yX2_setDataLeaf cX2_setDataLeaf 2 none]
def wsL_idle : List Cond := .codeWith yL_idle cL_idle 2 (some .int) [(0, 4, 7, 15)] :: ((wsL_idle_r1 ++ (wsL_idle_r2 ++ (wsL_idle_r3 ++ (wsL_idle_r4 ++ (wsL_idle_r5 ++ wsL_idle_r6))))) ++ wsX40 ++ wsX10 ++ wsX20 ++ wsX30 ++ (vx_at0 RX4 77 "java/lang/IllegalStateException" ["java/lang/RuntimeException", "java/lang/Exception"]).filter goodWord)
def wsL_sealed_r1 : List Cond := [Cond.classLink RL 13 "java/lang/IndexOutOfBoundsException", Cond.methodLink RL 24 yX4_sealed, Cond.instanceMethod yX4_sealed, Cond.selects RX4 yX4_sealed yX4_sealed, Cond.initialized RX4, Cond.code yX4_sealed cX4_sealed 5 (some .int), Cond.classLink RX4 69 "java/lang/IndexOutOfBoundsException", Cond.initialized "java/lang/IndexOutOfBoundsException", Cond.methodLink RX4 104 yX4_treeNumbered, Cond.instanceMethod yX4_treeNumbered, Cond.selects RX4 yX4_treeNumbered yX4_treeNumbered, Cond.code yX4_treeNumbered cX4_treeNumbered 2 (some (.object "VeiledFiles$Tree")), Cond.fieldLink RX4 21 "VeiledFiles" "map" "LVeiledFiles$Tree;", Cond.fieldLink RX4 25 "VeiledFiles" "data" "LVeiledFiles$Tree;", Cond.methodLink RX4 108 yX3_hasStored, Cond.instanceMethod yX3_hasStored, Cond.selects RX3 yX3_hasStored yX3_hasStored, Cond.initialized RX3, Cond.code yX3_hasStored cX3_hasStored 3 (some .boolean), Cond.methodLink RX3 60 yX3_hasBucket, Cond.instanceMethod yX3_hasBucket, Cond.selects RX3 yX3_hasBucket yX3_hasBucket, Cond.code yX3_hasBucket cX3_hasBucket 2 (some .boolean), Cond.fieldLink RX3 21 "VeiledFiles$Tree" "buckets" "I"]
def wsL_sealed_r2 : List Cond := [Cond.methodLink RX4 111 yX3_storedWord, Cond.instanceMethod yX3_storedWord, Cond.selects RX3 yX3_storedWord yX3_storedWord, Cond.code yX3_storedWord cX3_storedWord 3 (some .int), Cond.fieldLink RX3 27 "VeiledFiles$Tree" "store" "[I"]
def wsL_sealed : List Cond := .codeWith yL_sealed cL_sealed 6 (some .int) [(0, 12, 15, 13)] :: ((wsL_sealed_r1 ++ wsL_sealed_r2) ++ wsX40 ++ wsX30 ++ (vx_at0 RX4 71 "java/lang/IndexOutOfBoundsException" ["java/lang/RuntimeException", "java/lang/Exception"]).filter goodWord)
def wsL_law0_r1 : List Cond := [Cond.classLink RL 8 RX4, Cond.instantiable RX4 7, Cond.initialized RX4, Cond.classLink RL 29 RX5, Cond.instantiable RX5 20, Cond.initialized RX5, Cond.arrayClass .long, Cond.constantLong RL 37 (4294967295), Cond.methodLink RL 28 yX4_init, Cond.instanceMethod yX4_init, Cond.code yX4_init cX4_init 1 none, Cond.methodLink RX4 1 objectInit, Cond.instanceMethod objectInit, Cond.code objectInit ⟨#[0xb1]⟩ 1 none, Cond.classLink RX4 7 RX1, Cond.instantiable RX1 1, Cond.initialized RX1, Cond.fieldLink RX4 10 "VeiledFiles" "dice" "LVeiledFiles$Dice;", Cond.classLink RX4 16 RX3, Cond.instantiable RX3 11, Cond.initialized RX3, Cond.fieldLink RX4 21 "VeiledFiles" "map" "LVeiledFiles$Tree;", Cond.fieldLink RX4 25 "VeiledFiles" "data" "LVeiledFiles$Tree;", Cond.arrayClass .int]
def wsL_law0_r2 : List Cond := [Cond.fieldLink RX4 28 "VeiledFiles" "mapLeaves" "[I", Cond.classLink RX4 32 RX0, Cond.instantiable RX0 4, Cond.initialized RX0, Cond.fieldLink RX4 35 "VeiledFiles" "book" "LVeiledFiles$Book;", Cond.classLink RX4 39 RX2, Cond.instantiable RX2 3, Cond.initialized RX2, Cond.fieldLink RX4 42 "VeiledFiles" "trail" "LVeiledFiles$Trail;", Cond.instanceMethod yX1_init, Cond.code yX1_init cX1_init 1 none, Cond.methodLink RX1 1 objectInit, Cond.methodLink RX4 18 yX3_init, Cond.instanceMethod yX3_init, Cond.code yX3_init cX3_init 4 none, Cond.methodLink RX3 3 objectInit, Cond.fieldLink RX3 9 "VeiledFiles$Tree" "number" "I", Cond.fieldLink RX3 15 "VeiledFiles$Tree" "leafCount" "I", Cond.fieldLink RX3 18 "VeiledFiles$Tree" "levels" "I", Cond.fieldLink RX3 21 "VeiledFiles$Tree" "buckets" "I", Cond.fieldLink RX3 24 "VeiledFiles$Tree" "blocks" "I", Cond.fieldLink RX3 27 "VeiledFiles$Tree" "store" "[I", Cond.fieldLink RX3 31 "VeiledFiles$Tree" "counters" "[I", Cond.arrayClass .boolean]
def wsL_law0_r3 : List Cond := [Cond.fieldLink RX3 34 "VeiledFiles$Tree" "held" "[Z", Cond.fieldLink RX3 38 "VeiledFiles$Tree" "leaves" "[I", Cond.fieldLink RX3 41 "VeiledFiles$Tree" "words" "[I", Cond.instanceMethod yX0_init, Cond.code yX0_init cX0_init 1 none, Cond.methodLink RX0 5 objectInit, Cond.fieldLink RX0 11 "VeiledFiles$Book" "names" "[J", Cond.fieldLink RX0 15 "VeiledFiles$Book" "lengths" "[I", Cond.fieldLink RX0 19 "VeiledFiles$Book" "partBlocks" "[I", Cond.fieldLink RX0 22 "VeiledFiles$Book" "taken" "[Z", Cond.instanceMethod yX2_init, Cond.code yX2_init cX2_init 1 none, Cond.methodLink RX2 3 objectInit, Cond.fieldLink RX2 11 "VeiledFiles$Trail" "mapLeaf" "[I", Cond.fieldLink RX2 15 "VeiledFiles$Trail" "dataLeaf" "[I", Cond.methodLink RX4 46 yX4_beginAnew, Cond.instanceMethod yX4_beginAnew, Cond.selects RX4 yX4_beginAnew yX4_beginAnew, Cond.code yX4_beginAnew cX4_beginAnew 3 none, Cond.fieldLink RX4 140 "VeiledFiles" "dead" "Z", Cond.methodLink RX4 144 yX1_begin, Cond.instanceMethod yX1_begin, Cond.selects RX1 yX1_begin yX1_begin, Cond.code yX1_begin cX1_begin 2 none]
def wsL_law0_r4 : List Cond := [Cond.fieldLink RX1 7 "VeiledFiles$Dice" "word" "I", Cond.methodLink RX4 147 yX3_empty, Cond.instanceMethod yX3_empty, Cond.selects RX3 yX3_empty yX3_empty, Cond.code yX3_empty cX3_empty 3 none, Cond.fieldLink RX3 44 "VeiledFiles$Tree" "key" "I", Cond.methodLink RX3 47 yJ7_fill_53178, Cond.static yJ7_fill_53178, Cond.initialized RJ7, Cond.code yJ7_fill_53178 cJ7_fill_53178 4 none, Cond.methodLink RX4 150 yX0_empty, Cond.instanceMethod yX0_empty, Cond.selects RX0 yX0_empty yX0_empty, Cond.code yX0_empty cX0_empty 2 none, Cond.methodLink RX0 26 yJ7_fill_53178, Cond.methodLink RX4 152 yX2_empty, Cond.instanceMethod yX2_empty, Cond.selects RX2 yX2_empty yX2_empty, Cond.code yX2_empty cX2_empty 1 none, Cond.fieldLink RX2 18 "VeiledFiles$Trail" "count" "I", Cond.methodLink RX4 153 yX4_drawAllLeaves, Cond.instanceMethod yX4_drawAllLeaves, Cond.selects RX4 yX4_drawAllLeaves yX4_drawAllLeaves, Cond.code yX4_drawAllLeaves cX4_drawAllLeaves 3 none]
def wsL_law0_r5 : List Cond := [Cond.methodLink RX4 101 yX1_draw, Cond.instanceMethod yX1_draw, Cond.selects RX1 yX1_draw yX1_draw, Cond.code yX1_draw cX1_draw 2 (some .int), Cond.methodLink RX4 159 yX3_moveTo, Cond.instanceMethod yX3_moveTo, Cond.selects RX3 yX3_moveTo yX3_moveTo, Cond.code yX3_moveTo cX3_moveTo 3 none, Cond.methodLink RX4 162 yX4_setEntry, Cond.instanceMethod yX4_setEntry, Cond.selects RX4 yX4_setEntry yX4_setEntry, Cond.code yX4_setEntry cX4_setEntry 6 none, Cond.methodLink RX4 176 yX4_entryShift, Cond.static yX4_entryShift, Cond.code yX4_entryShift cX4_entryShift 1 (some .int), Cond.methodLink RX4 98 yX3_wordOf, Cond.instanceMethod yX3_wordOf, Cond.selects RX3 yX3_wordOf yX3_wordOf, Cond.code yX3_wordOf cX3_wordOf 3 (some .int), Cond.methodLink RX4 86 yX3_setWord, Cond.instanceMethod yX3_setWord, Cond.selects RX3 yX3_setWord yX3_setWord, Cond.code yX3_setWord cX3_setWord 4 none, Cond.methodLink RX4 156 yX3_settleAll]
def wsL_law0_r6 : List Cond := [Cond.instanceMethod yX3_settleAll, Cond.selects RX3 yX3_settleAll yX3_settleAll, Cond.code yX3_settleAll cX3_settleAll 2 none, Cond.methodLink RX3 53 yX3_settle, Cond.instanceMethod yX3_settle, Cond.selects RX3 yX3_settle yX3_settle, Cond.code yX3_settle cX3_settle 5 none, Cond.methodLink RX3 71 yX3_bucketOver, Cond.instanceMethod yX3_bucketOver, Cond.selects RX3 yX3_bucketOver yX3_bucketOver, Cond.code yX3_bucketOver cX3_bucketOver 3 (some .int), Cond.methodLink RX3 82 yX3_slotStart, Cond.static yX3_slotStart, Cond.code yX3_slotStart cX3_slotStart 2 (some .int), Cond.methodLink RX3 85 yX3_place, Cond.instanceMethod yX3_place, Cond.selects RX3 yX3_place yX3_place, Cond.code yX3_place cX3_place 6 none, Cond.methodLink RX3 88 yX3_wordOf, Cond.methodLink RX3 57 yX3_seal, Cond.instanceMethod yX3_seal, Cond.selects RX3 yX3_seal yX3_seal, Cond.code yX3_seal cX3_seal 2 none, Cond.methodLink RX3 91 yX3_maskWords]
def wsL_law0_r7 : List Cond := [Cond.instanceMethod yX3_maskWords, Cond.selects RX3 yX3_maskWords yX3_maskWords, Cond.code yX3_maskWords cX3_maskWords 4 none, Cond.methodLink RX3 101 yX3_pad, Cond.instanceMethod yX3_pad, Cond.selects RX3 yX3_pad yX3_pad, Cond.code yX3_pad cX3_pad 4 (some .int), Cond.constant RX3 105 (-1640531535), Cond.constant RX3 106 (-2048144777), Cond.constant RX3 107 (-1028477379), Cond.constant RX3 108 (739982445), Cond.constant RX3 109 (695872825), Cond.methodLink RX3 97 yX3_tagDue, Cond.instanceMethod yX3_tagDue, Cond.selects RX3 yX3_tagDue yX3_tagDue, Cond.code yX3_tagDue cX3_tagDue 5 (some .int), Cond.constant RX3 104 (16777619), Cond.methodLink RL 31 yX5_init, Cond.instanceMethod yX5_init, Cond.code yX5_init cX5_init 1 none, Cond.methodLink RX5 1 objectInit, Cond.fieldLink RX5 7 "VeiledFilesModel" "sealed" "[I", Cond.fieldLink RX5 13 "VeiledFilesModel" "counters" "[I", Cond.fieldLink RX5 16 "VeiledFilesModel" "out" "[Z"]
def wsL_law0_r8 : List Cond := [Cond.fieldLink RX5 20 "VeiledFilesModel" "leaf" "[I", Cond.fieldLink RX5 23 "VeiledFilesModel" "words" "[I", Cond.fieldLink RX5 26 "VeiledFilesModel" "mapLeaf" "[I", Cond.fieldLink RX5 29 "VeiledFilesModel" "plain" "[I", Cond.fieldLink RX5 32 "VeiledFilesModel" "traceL" "[I", Cond.fieldLink RX5 35 "VeiledFilesModel" "traceM" "[I", Cond.fieldLink RX5 38 "VeiledFilesModel" "there" "[Z", Cond.fieldLink RX5 41 "VeiledFilesModel" "name" "[J", Cond.fieldLink RX5 45 "VeiledFilesModel" "size" "[I", Cond.fieldLink RX5 48 "VeiledFilesModel" "part" "[I", Cond.fieldLink RX5 51 "VeiledFilesModel" "taken" "[Z", Cond.methodLink RX5 54 yX5_begin, Cond.instanceMethod yX5_begin, Cond.selects RX5 yX5_begin yX5_begin, Cond.code yX5_begin cX5_begin 6 none, Cond.fieldLink RX5 62 "VeiledFilesModel" "word" "I", Cond.fieldLink RX5 76 "VeiledFilesModel" "key" "I", Cond.fieldLink RX5 131 "VeiledFilesModel" "dead" "Z", Cond.fieldLink RX5 124 "VeiledFilesModel" "accesses" "I", Cond.methodLink RX5 121 yX5_draw, Cond.instanceMethod yX5_draw, Cond.selects RX5 yX5_draw yX5_draw, Cond.code yX5_draw cX5_draw 2 (some .int), Cond.methodLink RX5 105 yX5_blocks]
def wsL_law0_r9 : List Cond := [Cond.static yX5_blocks, Cond.code yX5_blocks cX5_blocks 1 (some .int), Cond.methodLink RX5 141 yX5_settle, Cond.instanceMethod yX5_settle, Cond.selects RX5 yX5_settle yX5_settle, Cond.code yX5_settle cX5_settle 8 none, Cond.methodLink RX5 95 yX5_first, Cond.static yX5_first, Cond.code yX5_first cX5_first 1 (some .int), Cond.methodLink RX5 69 yX5_levels, Cond.static yX5_levels, Cond.code yX5_levels cX5_levels 1 (some .int), Cond.methodLink RX5 72 yX5_onPath, Cond.static yX5_onPath, Cond.code yX5_onPath cX5_onPath 5 (some .int), Cond.methodLink RX5 65 yX5_buckets, Cond.static yX5_buckets, Cond.code yX5_buckets cX5_buckets 1 (some .int), Cond.methodLink RX5 80 yX5_place, Cond.static yX5_place, Cond.code yX5_place cX5_place 2 (some .int), Cond.methodLink RX5 118 yX5_seal, Cond.instanceMethod yX5_seal, Cond.selects RX5 yX5_seal yX5_seal]
def wsL_law0_r10 : List Cond := [Cond.code yX5_seal cX5_seal 5 none, Cond.methodLink RX5 88 yX5_pad, Cond.instanceMethod yX5_pad, Cond.selects RX5 yX5_pad yX5_pad, Cond.code yX5_pad cX5_pad 5 (some .int), Cond.constant RX5 79 (-1640531535), Cond.constant RX5 84 (-2048144777), Cond.constant RX5 85 (-1028477379), Cond.constant RX5 86 (739982445), Cond.constant RX5 87 (695872825), Cond.methodLink RX5 92 yX5_tag, Cond.instanceMethod yX5_tag, Cond.selects RX5 yX5_tag yX5_tag, Cond.code yX5_tag cX5_tag 5 (some .int), Cond.constant RX5 91 (16777619), Cond.methodLink RL 32 yX4_start, Cond.instanceMethod yX4_start, Cond.selects RX4 yX4_start yX4_start, Cond.code yX4_start cX4_start 3 none, Cond.methodLink RL 36 yX5_start, Cond.instanceMethod yX5_start, Cond.selects RX5 yX5_start yX5_start, Cond.code yX5_start cX5_start 3 none, Cond.fieldLink RX5 58 "VeiledFilesModel" "thrown" "I"]
def wsL_law0_r11 : List Cond := [Cond.methodLink RL 39 yX4_create, Cond.instanceMethod yX4_create, Cond.selects RX4 yX4_create yX4_create, Cond.code yX4_create cX4_create 3 (some .int), Cond.methodLink RX4 50 yX0_add, Cond.instanceMethod yX0_add, Cond.selects RX0 yX0_add yX0_add, Cond.code yX0_add cX0_add 4 (some .int), Cond.methodLink RX0 32 yX0_leastFreeNumber, Cond.instanceMethod yX0_leastFreeNumber, Cond.selects RX0 yX0_leastFreeNumber yX0_leastFreeNumber, Cond.code yX0_leastFreeNumber cX0_leastFreeNumber 2 (some .int), Cond.methodLink RX0 36 yX0_numberOf, Cond.instanceMethod yX0_numberOf, Cond.selects RX0 yX0_numberOf yX0_numberOf, Cond.code yX0_numberOf cX0_numberOf 4 (some .int), Cond.methodLink RL 43 yX5_create, Cond.instanceMethod yX5_create, Cond.selects RX5 yX5_create yX5_create, Cond.code yX5_create cX5_create 4 (some .int), Cond.methodLink RX5 144 yX5_named, Cond.instanceMethod yX5_named, Cond.selects RX5 yX5_named yX5_named, Cond.code yX5_named cX5_named 4 (some .int)]
def wsL_law0_r12 : List Cond := [Cond.methodLink RL 44 yX4_find, Cond.instanceMethod yX4_find, Cond.selects RX4 yX4_find yX4_find, Cond.code yX4_find cX4_find 3 (some .int), Cond.methodLink RX4 54 yX0_numberOf, Cond.methodLink RL 47 yX5_find, Cond.instanceMethod yX5_find, Cond.selects RX5 yX5_find yX5_find, Cond.code yX5_find cX5_find 3 (some .int), Cond.methodLink RL 48 yX4_remove, Cond.instanceMethod yX4_remove, Cond.selects RX4 yX4_remove yX4_remove, Cond.code yX4_remove cX4_remove 2 (some .boolean), Cond.methodLink RX4 57 yX0_drop, Cond.instanceMethod yX0_drop, Cond.selects RX0 yX0_drop yX0_drop, Cond.code yX0_drop cX0_drop 3 (some .boolean), Cond.methodLink RX0 40 yX0_lengthOf, Cond.instanceMethod yX0_lengthOf, Cond.selects RX0 yX0_lengthOf yX0_lengthOf, Cond.code yX0_lengthOf cX0_lengthOf 2 (some .int), Cond.methodLink RX0 44 yX0_partAt, Cond.static yX0_partAt, Cond.code yX0_partAt cX0_partAt 2 (some .int)]
def wsL_law0_r13 : List Cond := [Cond.methodLink RL 52 yX5_remove, Cond.instanceMethod yX5_remove, Cond.selects RX5 yX5_remove yX5_remove, Cond.code yX5_remove cX5_remove 3 (some .boolean), Cond.methodLink RX5 148 yX5_isFile, Cond.instanceMethod yX5_isFile, Cond.selects RX5 yX5_isFile yX5_isFile, Cond.code yX5_isFile cX5_isFile 2 (some .boolean), Cond.methodLink RL 53 yX4_size, Cond.instanceMethod yX4_size, Cond.selects RX4 yX4_size yX4_size, Cond.code yX4_size cX4_size 2 (some .int), Cond.methodLink RX4 61 yX0_lengthOf, Cond.methodLink RL 57 yX5_size, Cond.instanceMethod yX5_size, Cond.selects RX5 yX5_size yX5_size, Cond.code yX5_size cX5_size 2 (some .int), Cond.methodLink RL 58 yL_write, Cond.static yL_write, Cond.initialized RL, Cond.codeWith yL_write cL_write 5 (some .int) [(0, 7, 10, 13), (0, 7, 14, 15)], Cond.classLink RL 13 "java/lang/IndexOutOfBoundsException", Cond.classLink RL 15 "java/lang/IllegalStateException", Cond.methodLink RL 7 yX4_write]
def wsL_law0_r14 : List Cond := [Cond.instanceMethod yX4_write, Cond.selects RX4 yX4_write yX4_write, Cond.code yX4_write cX4_write 6 none, Cond.classLink RX4 69 "java/lang/IndexOutOfBoundsException", Cond.initialized "java/lang/IndexOutOfBoundsException", Cond.classLink RX4 75 "java/lang/IllegalStateException", Cond.initialized "java/lang/IllegalStateException", Cond.methodLink RX4 65 yX0_blockToWrite, Cond.instanceMethod yX0_blockToWrite, Cond.selects RX0 yX0_blockToWrite yX0_blockToWrite, Cond.code yX0_blockToWrite cX0_blockToWrite 3 (some .int), Cond.methodLink RX0 48 yX0_opensPart, Cond.instanceMethod yX0_opensPart, Cond.selects RX0 yX0_opensPart yX0_opensPart, Cond.code yX0_opensPart cX0_opensPart 3 (some .boolean), Cond.methodLink RX0 52 yX0_leastFreeBlock, Cond.instanceMethod yX0_leastFreeBlock, Cond.selects RX0 yX0_leastFreeBlock yX0_leastFreeBlock, Cond.code yX0_leastFreeBlock cX0_leastFreeBlock 2 (some .int), Cond.methodLink RX4 72 yX4_openPathOf, Cond.instanceMethod yX4_openPathOf, Cond.selects RX4 yX4_openPathOf yX4_openPathOf, Cond.code yX4_openPathOf cX4_openPathOf 6 (some .int), Cond.methodLink RX4 165 yX2_add]
def wsL_law0_r15 : List Cond := [Cond.instanceMethod yX2_add, Cond.selects RX2 yX2_add yX2_add, Cond.code yX2_add cX2_add 2 none, Cond.methodLink RX4 167 yX3_take, Cond.instanceMethod yX3_take, Cond.selects RX3 yX3_take yX3_take, Cond.code yX3_take cX3_take 3 (some .boolean), Cond.methodLink RX3 64 yX3_isWhole, Cond.instanceMethod yX3_isWhole, Cond.selects RX3 yX3_isWhole yX3_isWhole, Cond.code yX3_isWhole cX3_isWhole 2 (some .boolean), Cond.methodLink RX3 75 yX3_unload, Cond.instanceMethod yX3_unload, Cond.selects RX3 yX3_unload yX3_unload, Cond.code yX3_unload cX3_unload 4 none, Cond.methodLink RX3 94 yX3_hold, Cond.instanceMethod yX3_hold, Cond.selects RX3 yX3_hold yX3_hold, Cond.code yX3_hold cX3_hold 4 none, Cond.methodLink RX3 67 yX3_setWord, Cond.methodLink RX4 170 yX4_entryOf, Cond.instanceMethod yX4_entryOf, Cond.selects RX4 yX4_entryOf yX4_entryOf, Cond.code yX4_entryOf cX4_entryOf 4 (some .int)]
def wsL_law0_r16 : List Cond := [Cond.methodLink RX4 89 yX3_putBack, Cond.instanceMethod yX3_putBack, Cond.selects RX3 yX3_putBack yX3_putBack, Cond.code yX3_putBack cX3_putBack 4 none, Cond.methodLink RX3 78 yX3_load, Cond.instanceMethod yX3_load, Cond.selects RX3 yX3_load yX3_load, Cond.code yX3_load cX3_load 5 none, Cond.methodLink RX4 173 yX2_setDataLeaf, Cond.instanceMethod yX2_setDataLeaf, Cond.selects RX2 yX2_setDataLeaf yX2_setDataLeaf, Cond.code yX2_setDataLeaf cX2_setDataLeaf 2 none, Cond.methodLink RX4 78 yX0_opensPart, Cond.methodLink RX4 82 yX3_clearWords, Cond.instanceMethod yX3_clearWords, Cond.selects RX3 yX3_clearWords yX3_clearWords, Cond.code yX3_clearWords cX3_clearWords 3 none, Cond.methodLink RX4 92 yX0_noteWritten, Cond.instanceMethod yX0_noteWritten, Cond.selects RX0 yX0_noteWritten yX0_noteWritten, Cond.code yX0_noteWritten cX0_noteWritten 4 none, Cond.methodLink RL 63 yX5_write, Cond.instanceMethod yX5_write, Cond.selects RX5 yX5_write yX5_write]
def wsL_law0_r17 : List Cond := [Cond.code yX5_write cX5_write 7 none, Cond.methodLink RX5 152 yX5_access, Cond.instanceMethod yX5_access, Cond.selects RX5 yX5_access yX5_access, Cond.code yX5_access cX5_access 14 (some .boolean), Cond.fieldLink RX5 138 "VeiledFilesModel" "got" "I", Cond.methodLink RX5 127 yX5_take, Cond.instanceMethod yX5_take, Cond.selects RX5 yX5_take yX5_take, Cond.code yX5_take cX5_take 6 (some .boolean), Cond.methodLink RX5 98 yX5_open, Cond.instanceMethod yX5_open, Cond.selects RX5 yX5_open yX5_open, Cond.code yX5_open cX5_open 7 none, Cond.methodLink RX5 102 yX5_plainWord, Cond.instanceMethod yX5_plainWord, Cond.selects RX5 yX5_plainWord yX5_plainWord, Cond.code yX5_plainWord cX5_plainWord 4 (some .int), Cond.methodLink RX5 135 yX5_putBack, Cond.instanceMethod yX5_putBack, Cond.selects RX5 yX5_putBack yX5_putBack, Cond.code yX5_putBack cX5_putBack 8 none, Cond.methodLink RX5 108 yX5_clear, Cond.instanceMethod yX5_clear]
def wsL_law0_r18 : List Cond := [Cond.selects RX5 yX5_clear yX5_clear, Cond.code yX5_clear cX5_clear 2 none, Cond.methodLink RX5 111 yX5_passes, Cond.static yX5_passes, Cond.code yX5_passes cX5_passes 4 (some .boolean), Cond.methodLink RX5 115 yX5_put, Cond.instanceMethod yX5_put, Cond.selects RX5 yX5_put yX5_put, Cond.code yX5_put cX5_put 6 none, Cond.methodLink RL 64 yX5_thrown, Cond.instanceMethod yX5_thrown, Cond.selects RX5 yX5_thrown yX5_thrown, Cond.code yX5_thrown cX5_thrown 1 (some .int), Cond.methodLink RL 68 yL_read, Cond.static yL_read, Cond.codeWith yL_read cL_read 5 (some .int) [(0, 10, 13, 13), (0, 10, 17, 15)], Cond.methodLink RL 17 yX4_read, Cond.instanceMethod yX4_read, Cond.selects RX4 yX4_read yX4_read, Cond.code yX4_read cX4_read 6 (some .int), Cond.methodLink RX4 95 yX0_blockToRead, Cond.instanceMethod yX0_blockToRead, Cond.selects RX0 yX0_blockToRead yX0_blockToRead, Cond.code yX0_blockToRead cX0_blockToRead 3 (some .int)]
def wsL_law0_r19 : List Cond := [Cond.methodLink RL 71 yX5_read, Cond.instanceMethod yX5_read, Cond.selects RX5 yX5_read yX5_read, Cond.code yX5_read cX5_read 4 (some .int), Cond.methodLink RX5 156 yX5_raise, Cond.instanceMethod yX5_raise, Cond.selects RX5 yX5_raise yX5_raise, Cond.code yX5_raise cX5_raise 2 (some .int), Cond.methodLink RL 72 yL_idle, Cond.static yL_idle, Cond.codeWith yL_idle cL_idle 2 (some .int) [(0, 4, 7, 15)], Cond.methodLink RL 21 yX4_idle, Cond.instanceMethod yX4_idle, Cond.selects RX4 yX4_idle yX4_idle, Cond.code yX4_idle cX4_idle 2 none, Cond.methodLink RL 75 yX5_idle, Cond.instanceMethod yX5_idle, Cond.selects RX5 yX5_idle yX5_idle, Cond.code yX5_idle cX5_idle 2 none, Cond.methodLink RL 76 yL_sealed, Cond.static yL_sealed, Cond.codeWith yL_sealed cL_sealed 6 (some .int) [(0, 12, 15, 13)], Cond.methodLink RL 24 yX4_sealed, Cond.instanceMethod yX4_sealed]
def wsL_law0_r20 : List Cond := [Cond.selects RX4 yX4_sealed yX4_sealed, Cond.code yX4_sealed cX4_sealed 5 (some .int), Cond.methodLink RX4 104 yX4_treeNumbered, Cond.instanceMethod yX4_treeNumbered, Cond.selects RX4 yX4_treeNumbered yX4_treeNumbered, Cond.code yX4_treeNumbered cX4_treeNumbered 2 (some (.object "VeiledFiles$Tree")), Cond.methodLink RX4 108 yX3_hasStored, Cond.instanceMethod yX3_hasStored, Cond.selects RX3 yX3_hasStored yX3_hasStored, Cond.code yX3_hasStored cX3_hasStored 3 (some .boolean), Cond.methodLink RX3 60 yX3_hasBucket, Cond.instanceMethod yX3_hasBucket, Cond.selects RX3 yX3_hasBucket yX3_hasBucket, Cond.code yX3_hasBucket cX3_hasBucket 2 (some .boolean), Cond.methodLink RX4 111 yX3_storedWord, Cond.instanceMethod yX3_storedWord, Cond.selects RX3 yX3_storedWord yX3_storedWord, Cond.code yX3_storedWord cX3_storedWord 3 (some .int), Cond.methodLink RL 79 yX5_sealed, Cond.instanceMethod yX5_sealed, Cond.selects RX5 yX5_sealed yX5_sealed, Cond.code yX5_sealed cX5_sealed 4 (some .int), Cond.methodLink RX5 159 yX5_isBucket, Cond.static yX5_isBucket]
def wsL_law0_r21 : List Cond := [Cond.code yX5_isBucket cX5_isBucket 2 (some .boolean), Cond.methodLink RL 80 yX4_alter, Cond.instanceMethod yX4_alter, Cond.selects RX4 yX4_alter yX4_alter, Cond.code yX4_alter cX4_alter 6 (some .boolean), Cond.methodLink RX4 114 yX3_spoil, Cond.instanceMethod yX3_spoil, Cond.selects RX3 yX3_spoil yX3_spoil, Cond.code yX3_spoil cX3_spoil 6 (some .boolean), Cond.methodLink RL 84 yX5_alter, Cond.instanceMethod yX5_alter, Cond.selects RX5 yX5_alter yX5_alter, Cond.code yX5_alter cX5_alter 8 (some .boolean), Cond.methodLink RL 85 yX4_counter, Cond.instanceMethod yX4_counter, Cond.selects RX4 yX4_counter yX4_counter, Cond.code yX4_counter cX4_counter 4 (some .int), Cond.methodLink RX4 118 yX3_hasBucket, Cond.methodLink RX4 121 yX3_timesSealed, Cond.instanceMethod yX3_timesSealed, Cond.selects RX3 yX3_timesSealed yX3_timesSealed, Cond.code yX3_timesSealed cX3_timesSealed 2 (some .int), Cond.methodLink RL 88 yX5_counter, Cond.instanceMethod yX5_counter]
def wsL_law0_r22 : List Cond := [Cond.selects RX5 yX5_counter yX5_counter, Cond.code yX5_counter cX5_counter 3 (some .int), Cond.methodLink RL 89 yX4_trace, Cond.instanceMethod yX4_trace, Cond.selects RX4 yX4_trace yX4_trace, Cond.code yX4_trace cX4_trace 3 (some .int), Cond.methodLink RX4 124 yX2_leafOf, Cond.instanceMethod yX2_leafOf, Cond.selects RX2 yX2_leafOf yX2_leafOf, Cond.code yX2_leafOf cX2_leafOf 4 (some .int), Cond.methodLink RL 92 yX5_trace, Cond.instanceMethod yX5_trace, Cond.selects RX5 yX5_trace yX5_trace, Cond.code yX5_trace cX5_trace 4 (some .int), Cond.methodLink RL 93 yX4_stash, Cond.instanceMethod yX4_stash, Cond.selects RX4 yX4_stash yX4_stash, Cond.code yX4_stash cX4_stash 3 (some .int), Cond.methodLink RX4 127 yX3_countHeld, Cond.instanceMethod yX3_countHeld, Cond.selects RX3 yX3_countHeld yX3_countHeld, Cond.code yX3_countHeld cX3_countHeld 3 (some .int), Cond.methodLink RL 96 yX5_stash, Cond.instanceMethod yX5_stash]
def wsL_law0_r23 : List Cond := [Cond.selects RX5 yX5_stash yX5_stash, Cond.code yX5_stash cX5_stash 4 (some .int), Cond.methodLink RL 97 yX4_state, Cond.instanceMethod yX4_state, Cond.selects RX4 yX4_state yX4_state, Cond.code yX4_state cX4_state 2 (some .int), Cond.methodLink RX4 131 yX2_countAll, Cond.instanceMethod yX2_countAll, Cond.selects RX2 yX2_countAll yX2_countAll, Cond.code yX2_countAll cX2_countAll 1 (some .int), Cond.methodLink RX4 134 yX0_countFiles, Cond.instanceMethod yX0_countFiles, Cond.selects RX0 yX0_countFiles yX0_countFiles, Cond.code yX0_countFiles cX0_countFiles 3 (some .int), Cond.methodLink RX4 137 yX0_countFreeBlocks, Cond.instanceMethod yX0_countFreeBlocks, Cond.selects RX0 yX0_countFreeBlocks yX0_countFreeBlocks, Cond.code yX0_countFreeBlocks cX0_countFreeBlocks 3 (some .int), Cond.methodLink RL 100 yX5_state, Cond.instanceMethod yX5_state, Cond.selects RX5 yX5_state yX5_state, Cond.code yX5_state cX5_state 5 (some .int)]
def wsL_law0 : List Cond := (wsL_law0_r1 ++ (wsL_law0_r2 ++ (wsL_law0_r3 ++ (wsL_law0_r4 ++ (wsL_law0_r5 ++ (wsL_law0_r6 ++ (wsL_law0_r7 ++ (wsL_law0_r8 ++ (wsL_law0_r9 ++ (wsL_law0_r10 ++ (wsL_law0_r11 ++ (wsL_law0_r12 ++ (wsL_law0_r13 ++ (wsL_law0_r14 ++ (wsL_law0_r15 ++ (wsL_law0_r16 ++ (wsL_law0_r17 ++ (wsL_law0_r18 ++ (wsL_law0_r19 ++ (wsL_law0_r20 ++ (wsL_law0_r21 ++ (wsL_law0_r22 ++ wsL_law0_r23)))))))))))))))))))))) ++ wsX40 ++ wsX50 ++ wsX10 ++ wsX30 ++ wsX00 ++ wsX20 ++ ([] : List Cond)
def wsL_law : List Cond := wsL_law0 ++ (vx_at0 RX4 71 "java/lang/IndexOutOfBoundsException" ["java/lang/RuntimeException", "java/lang/Exception"]).filter goodWord ++ (vx_at0 RX4 77 "java/lang/IllegalStateException" ["java/lang/RuntimeException", "java/lang/Exception"]).filter goodWord
end
section
theorem dX0_init_0 : decode cX0_init 0 = .ok (.aload_n 0, 1) := by decide +kernel
theorem dX0_init_1 : decode cX0_init 1 = .ok (.invokespecial 5, 3) := by decide +kernel
theorem dX0_init_4 : decode cX0_init 4 = .ok (.aload_n 0, 1) := by decide +kernel
theorem dX0_init_5 : decode cX0_init 5 = .ok (.bipush 8, 2) := by decide +kernel
theorem dX0_init_7 : decode cX0_init 7 = .ok (.newarray .long, 2) := by decide +kernel
theorem dX0_init_9 : decode cX0_init 9 = .ok (.putfield 11, 3) := by decide +kernel
theorem dX0_init_12 : decode cX0_init 12 = .ok (.aload_n 0, 1) := by decide +kernel
theorem dX0_init_13 : decode cX0_init 13 = .ok (.bipush 8, 2) := by decide +kernel
theorem dX0_init_15 : decode cX0_init 15 = .ok (.newarray .int, 2) := by decide +kernel
theorem dX0_init_17 : decode cX0_init 17 = .ok (.putfield 15, 3) := by decide +kernel
theorem dX0_init_20 : decode cX0_init 20 = .ok (.aload_n 0, 1) := by decide +kernel
theorem dX0_init_21 : decode cX0_init 21 = .ok (.bipush 48, 2) := by decide +kernel
theorem dX0_init_23 : decode cX0_init 23 = .ok (.newarray .int, 2) := by decide +kernel
theorem dX0_init_25 : decode cX0_init 25 = .ok (.putfield 19, 3) := by decide +kernel
theorem dX0_init_28 : decode cX0_init 28 = .ok (.aload_n 0, 1) := by decide +kernel
theorem dX0_init_29 : decode cX0_init 29 = .ok (.bipush 64, 2) := by decide +kernel
theorem dX0_init_31 : decode cX0_init 31 = .ok (.newarray .boolean, 2) := by decide +kernel
theorem dX0_init_33 : decode cX0_init 33 = .ok (.putfield 22, 3) := by decide +kernel
theorem dX0_init_36 : decode cX0_init 36 = .ok (.return_, 1) := by decide +kernel
set_option maxRecDepth 20000 in
theorem ggX0_empty_J7_fill_53178 : GoodIn wsX0_empty wsJ7_fill_53178 := goodIn_r _ [6] (by decide +kernel) (by decide +kernel)
set_option maxRecDepth 20000 in
theorem gX0_empty_J7_fill_53178 : GoodIn wsX0_empty (va_wsS RX0 26 yJ7_fill_53178 wsJ7_fill_53178) := goodIn_app (goodIn_of _ (by decide +kernel)) ggX0_empty_J7_fill_53178
theorem dX0_empty_0 : decode cX0_empty 0 = .ok (.aload_n 0, 1) := by decide +kernel
theorem dX0_empty_1 : decode cX0_empty 1 = .ok (.getfield 15, 3) := by decide +kernel
theorem dX0_empty_4 : decode cX0_empty 4 = .ok (.iconst (-1), 1) := by decide +kernel
theorem dX0_empty_5 : decode cX0_empty 5 = .ok (.invokestatic 26, 3) := by decide +kernel
theorem dX0_empty_8 : decode cX0_empty 8 = .ok (.iconst 0, 1) := by decide +kernel
theorem dX0_empty_9 : decode cX0_empty 9 = .ok (.istore_n 1, 1) := by decide +kernel
theorem dX0_empty_10 : decode cX0_empty 10 = .ok (.iload_n 1, 1) := by decide +kernel
theorem dX0_empty_11 : decode cX0_empty 11 = .ok (.bipush 64, 2) := by decide +kernel
theorem dX0_empty_13 : decode cX0_empty 13 = .ok (.if_icmp .ge 16, 3) := by decide +kernel
theorem dX0_empty_16 : decode cX0_empty 16 = .ok (.aload_n 0, 1) := by decide +kernel
theorem dX0_empty_17 : decode cX0_empty 17 = .ok (.getfield 22, 3) := by decide +kernel
theorem dX0_empty_20 : decode cX0_empty 20 = .ok (.iload_n 1, 1) := by decide +kernel
theorem dX0_empty_21 : decode cX0_empty 21 = .ok (.iconst 0, 1) := by decide +kernel
theorem dX0_empty_22 : decode cX0_empty 22 = .ok (.bastore, 1) := by decide +kernel
theorem dX0_empty_23 : decode cX0_empty 23 = .ok (.iinc 1 1, 3) := by decide +kernel
theorem dX0_empty_26 : decode cX0_empty 26 = .ok (.goto (-16), 3) := by decide +kernel
theorem dX0_empty_29 : decode cX0_empty 29 = .ok (.return_, 1) := by decide +kernel
set_option maxRecDepth 20000 in
theorem ggX0_add_X0_leastFreeNumber : GoodIn wsX0_add wsX0_leastFreeNumber := goodIn_r _ [7, 2, 12, 13, 14, 15] (by decide +kernel) (by decide +kernel)
set_option maxRecDepth 20000 in
theorem gX0_add_X0_leastFreeNumber : GoodIn wsX0_add (wsV RX0 32 RX0 yX0_leastFreeNumber wsX0_leastFreeNumber) := goodIn_app (goodIn_of _ (by decide +kernel)) ggX0_add_X0_leastFreeNumber
set_option maxRecDepth 20000 in
theorem ggX0_add_X0_numberOf : GoodIn wsX0_add wsX0_numberOf := goodIn_r _ [11, 2, 1, 12, 13, 14, 15] (by decide +kernel) (by decide +kernel)
set_option maxRecDepth 20000 in
theorem gX0_add_X0_numberOf : GoodIn wsX0_add (wsV RX0 36 RX0 yX0_numberOf wsX0_numberOf) := goodIn_app (goodIn_of _ (by decide +kernel)) ggX0_add_X0_numberOf
theorem dX0_add_0 : decode cX0_add 0 = .ok (.aload_n 0, 1) := by decide +kernel
theorem dX0_add_1 : decode cX0_add 1 = .ok (.invokevirtual 32, 3) := by decide +kernel
theorem dX0_add_4 : decode cX0_add 4 = .ok (.istore_n 3, 1) := by decide +kernel
theorem dX0_add_5 : decode cX0_add 5 = .ok (.iload_n 3, 1) := by decide +kernel
theorem dX0_add_6 : decode cX0_add 6 = .ok (.iconst (-1), 1) := by decide +kernel
theorem dX0_add_7 : decode cX0_add 7 = .ok (.if_icmp .eq 12, 3) := by decide +kernel
theorem dX0_add_10 : decode cX0_add 10 = .ok (.aload_n 0, 1) := by decide +kernel
theorem dX0_add_11 : decode cX0_add 11 = .ok (.lload_n 1, 1) := by decide +kernel
theorem dX0_add_12 : decode cX0_add 12 = .ok (.invokevirtual 36, 3) := by decide +kernel
theorem dX0_add_15 : decode cX0_add 15 = .ok (.iconst (-1), 1) := by decide +kernel
theorem dX0_add_16 : decode cX0_add 16 = .ok (.if_icmp .eq 5, 3) := by decide +kernel
theorem dX0_add_19 : decode cX0_add 19 = .ok (.iconst (-1), 1) := by decide +kernel
theorem dX0_add_20 : decode cX0_add 20 = .ok (.ireturn, 1) := by decide +kernel
theorem dX0_add_21 : decode cX0_add 21 = .ok (.aload_n 0, 1) := by decide +kernel
theorem dX0_add_22 : decode cX0_add 22 = .ok (.getfield 11, 3) := by decide +kernel
theorem dX0_add_25 : decode cX0_add 25 = .ok (.iload_n 3, 1) := by decide +kernel
theorem dX0_add_26 : decode cX0_add 26 = .ok (.lload_n 1, 1) := by decide +kernel
theorem dX0_add_27 : decode cX0_add 27 = .ok (.lastore, 1) := by decide +kernel
theorem dX0_add_28 : decode cX0_add 28 = .ok (.aload_n 0, 1) := by decide +kernel
theorem dX0_add_29 : decode cX0_add 29 = .ok (.getfield 15, 3) := by decide +kernel
theorem dX0_add_32 : decode cX0_add 32 = .ok (.iload_n 3, 1) := by decide +kernel
theorem dX0_add_33 : decode cX0_add 33 = .ok (.iconst 0, 1) := by decide +kernel
theorem dX0_add_34 : decode cX0_add 34 = .ok (.iastore, 1) := by decide +kernel
theorem dX0_add_35 : decode cX0_add 35 = .ok (.iload_n 3, 1) := by decide +kernel
theorem dX0_add_36 : decode cX0_add 36 = .ok (.ireturn, 1) := by decide +kernel
theorem dX0_numberOf_0 : decode cX0_numberOf 0 = .ok (.iconst 0, 1) := by decide +kernel
theorem dX0_numberOf_1 : decode cX0_numberOf 1 = .ok (.istore_n 3, 1) := by decide +kernel
theorem dX0_numberOf_2 : decode cX0_numberOf 2 = .ok (.iload_n 3, 1) := by decide +kernel
theorem dX0_numberOf_3 : decode cX0_numberOf 3 = .ok (.bipush 8, 2) := by decide +kernel
theorem dX0_numberOf_5 : decode cX0_numberOf 5 = .ok (.if_icmp .ge 32, 3) := by decide +kernel
theorem dX0_numberOf_8 : decode cX0_numberOf 8 = .ok (.aload_n 0, 1) := by decide +kernel
theorem dX0_numberOf_9 : decode cX0_numberOf 9 = .ok (.getfield 15, 3) := by decide +kernel
theorem dX0_numberOf_12 : decode cX0_numberOf 12 = .ok (.iload_n 3, 1) := by decide +kernel
theorem dX0_numberOf_13 : decode cX0_numberOf 13 = .ok (.iaload, 1) := by decide +kernel
theorem dX0_numberOf_14 : decode cX0_numberOf 14 = .ok (.iconst (-1), 1) := by decide +kernel
theorem dX0_numberOf_15 : decode cX0_numberOf 15 = .ok (.if_icmp .eq 16, 3) := by decide +kernel
theorem dX0_numberOf_18 : decode cX0_numberOf 18 = .ok (.aload_n 0, 1) := by decide +kernel
theorem dX0_numberOf_19 : decode cX0_numberOf 19 = .ok (.getfield 11, 3) := by decide +kernel
theorem dX0_numberOf_22 : decode cX0_numberOf 22 = .ok (.iload_n 3, 1) := by decide +kernel
theorem dX0_numberOf_23 : decode cX0_numberOf 23 = .ok (.laload, 1) := by decide +kernel
theorem dX0_numberOf_24 : decode cX0_numberOf 24 = .ok (.lload_n 1, 1) := by decide +kernel
theorem dX0_numberOf_25 : decode cX0_numberOf 25 = .ok (.lcmp, 1) := by decide +kernel
theorem dX0_numberOf_26 : decode cX0_numberOf 26 = .ok (.ifCond .ne 5, 3) := by decide +kernel
theorem dX0_numberOf_29 : decode cX0_numberOf 29 = .ok (.iload_n 3, 1) := by decide +kernel
theorem dX0_numberOf_30 : decode cX0_numberOf 30 = .ok (.ireturn, 1) := by decide +kernel
theorem dX0_numberOf_31 : decode cX0_numberOf 31 = .ok (.iinc 3 1, 3) := by decide +kernel
theorem dX0_numberOf_34 : decode cX0_numberOf 34 = .ok (.goto (-32), 3) := by decide +kernel
theorem dX0_numberOf_37 : decode cX0_numberOf 37 = .ok (.iconst (-1), 1) := by decide +kernel
theorem dX0_numberOf_38 : decode cX0_numberOf 38 = .ok (.ireturn, 1) := by decide +kernel
set_option maxRecDepth 20000 in
theorem ggX0_drop_X0_lengthOf : GoodIn wsX0_drop wsX0_lengthOf := goodIn_r _ [8, 1, 12, 13, 14, 15] (by decide +kernel) (by decide +kernel)
set_option maxRecDepth 20000 in
theorem gX0_drop_X0_lengthOf : GoodIn wsX0_drop (wsV RX0 40 RX0 yX0_lengthOf wsX0_lengthOf) := goodIn_app (goodIn_of _ (by decide +kernel)) ggX0_drop_X0_lengthOf
set_option maxRecDepth 20000 in
theorem ggX0_drop_X0_partAt : GoodIn wsX0_drop wsX0_partAt := goodIn_r _ [11] (by decide +kernel) (by decide +kernel)
set_option maxRecDepth 20000 in
theorem gX0_drop_X0_partAt : GoodIn wsX0_drop (va_wsS RX0 44 yX0_partAt wsX0_partAt) := goodIn_app (goodIn_of _ (by decide +kernel)) ggX0_drop_X0_partAt
theorem dX0_drop_0 : decode cX0_drop 0 = .ok (.aload_n 0, 1) := by decide +kernel
theorem dX0_drop_1 : decode cX0_drop 1 = .ok (.iload_n 1, 1) := by decide +kernel
theorem dX0_drop_2 : decode cX0_drop 2 = .ok (.invokevirtual 40, 3) := by decide +kernel
theorem dX0_drop_5 : decode cX0_drop 5 = .ok (.iconst (-1), 1) := by decide +kernel
theorem dX0_drop_6 : decode cX0_drop 6 = .ok (.if_icmp .ne 5, 3) := by decide +kernel
theorem dX0_drop_9 : decode cX0_drop 9 = .ok (.iconst 0, 1) := by decide +kernel
theorem dX0_drop_10 : decode cX0_drop 10 = .ok (.ireturn, 1) := by decide +kernel
theorem dX0_drop_11 : decode cX0_drop 11 = .ok (.iconst 0, 1) := by decide +kernel
theorem dX0_drop_12 : decode cX0_drop 12 = .ok (.istore_n 2, 1) := by decide +kernel
theorem dX0_drop_13 : decode cX0_drop 13 = .ok (.iload_n 2, 1) := by decide +kernel
theorem dX0_drop_14 : decode cX0_drop 14 = .ok (.aload_n 0, 1) := by decide +kernel
theorem dX0_drop_15 : decode cX0_drop 15 = .ok (.getfield 15, 3) := by decide +kernel
theorem dX0_drop_18 : decode cX0_drop 18 = .ok (.iload_n 1, 1) := by decide +kernel
theorem dX0_drop_19 : decode cX0_drop 19 = .ok (.iaload, 1) := by decide +kernel
theorem dX0_drop_20 : decode cX0_drop 20 = .ok (.if_icmp .ge 25, 3) := by decide +kernel
theorem dX0_drop_23 : decode cX0_drop 23 = .ok (.aload_n 0, 1) := by decide +kernel
theorem dX0_drop_24 : decode cX0_drop 24 = .ok (.getfield 22, 3) := by decide +kernel
theorem dX0_drop_27 : decode cX0_drop 27 = .ok (.aload_n 0, 1) := by decide +kernel
theorem dX0_drop_28 : decode cX0_drop 28 = .ok (.getfield 19, 3) := by decide +kernel
theorem dX0_drop_31 : decode cX0_drop 31 = .ok (.iload_n 1, 1) := by decide +kernel
theorem dX0_drop_32 : decode cX0_drop 32 = .ok (.iload_n 2, 1) := by decide +kernel
theorem dX0_drop_33 : decode cX0_drop 33 = .ok (.invokestatic 44, 3) := by decide +kernel
theorem dX0_drop_36 : decode cX0_drop 36 = .ok (.iaload, 1) := by decide +kernel
theorem dX0_drop_37 : decode cX0_drop 37 = .ok (.iconst 0, 1) := by decide +kernel
theorem dX0_drop_38 : decode cX0_drop 38 = .ok (.bastore, 1) := by decide +kernel
theorem dX0_drop_39 : decode cX0_drop 39 = .ok (.iinc 2 4, 3) := by decide +kernel
theorem dX0_drop_42 : decode cX0_drop 42 = .ok (.goto (-29), 3) := by decide +kernel
theorem dX0_drop_45 : decode cX0_drop 45 = .ok (.aload_n 0, 1) := by decide +kernel
theorem dX0_drop_46 : decode cX0_drop 46 = .ok (.getfield 15, 3) := by decide +kernel
theorem dX0_drop_49 : decode cX0_drop 49 = .ok (.iload_n 1, 1) := by decide +kernel
theorem dX0_drop_50 : decode cX0_drop 50 = .ok (.iconst (-1), 1) := by decide +kernel
theorem dX0_drop_51 : decode cX0_drop 51 = .ok (.iastore, 1) := by decide +kernel
theorem dX0_drop_52 : decode cX0_drop 52 = .ok (.iconst 1, 1) := by decide +kernel
theorem dX0_drop_53 : decode cX0_drop 53 = .ok (.ireturn, 1) := by decide +kernel
theorem dX0_lengthOf_0 : decode cX0_lengthOf 0 = .ok (.iload_n 1, 1) := by decide +kernel
theorem dX0_lengthOf_1 : decode cX0_lengthOf 1 = .ok (.ifCond .lt 9, 3) := by decide +kernel
theorem dX0_lengthOf_4 : decode cX0_lengthOf 4 = .ok (.iload_n 1, 1) := by decide +kernel
theorem dX0_lengthOf_5 : decode cX0_lengthOf 5 = .ok (.bipush 8, 2) := by decide +kernel
theorem dX0_lengthOf_7 : decode cX0_lengthOf 7 = .ok (.if_icmp .lt 7, 3) := by decide +kernel
theorem dX0_lengthOf_10 : decode cX0_lengthOf 10 = .ok (.iconst (-1), 1) := by decide +kernel
theorem dX0_lengthOf_11 : decode cX0_lengthOf 11 = .ok (.goto 9, 3) := by decide +kernel
theorem dX0_lengthOf_14 : decode cX0_lengthOf 14 = .ok (.aload_n 0, 1) := by decide +kernel
theorem dX0_lengthOf_15 : decode cX0_lengthOf 15 = .ok (.getfield 15, 3) := by decide +kernel
theorem dX0_lengthOf_18 : decode cX0_lengthOf 18 = .ok (.iload_n 1, 1) := by decide +kernel
theorem dX0_lengthOf_19 : decode cX0_lengthOf 19 = .ok (.iaload, 1) := by decide +kernel
theorem dX0_lengthOf_20 : decode cX0_lengthOf 20 = .ok (.ireturn, 1) := by decide +kernel
set_option maxRecDepth 20000 in
theorem ggX0_blockToRead_X0_lengthOf : GoodIn wsX0_blockToRead wsX0_lengthOf := goodIn_r _ [6, 7, 11, 12, 13, 14] (by decide +kernel) (by decide +kernel)
set_option maxRecDepth 20000 in
theorem gX0_blockToRead_X0_lengthOf : GoodIn wsX0_blockToRead (wsV RX0 40 RX0 yX0_lengthOf wsX0_lengthOf) := goodIn_app (goodIn_of _ (by decide +kernel)) ggX0_blockToRead_X0_lengthOf
set_option maxRecDepth 20000 in
theorem ggX0_blockToRead_X0_partAt : GoodIn wsX0_blockToRead wsX0_partAt := goodIn_r _ [10] (by decide +kernel) (by decide +kernel)
set_option maxRecDepth 20000 in
theorem gX0_blockToRead_X0_partAt : GoodIn wsX0_blockToRead (va_wsS RX0 44 yX0_partAt wsX0_partAt) := goodIn_app (goodIn_of _ (by decide +kernel)) ggX0_blockToRead_X0_partAt
theorem dX0_blockToRead_0 : decode cX0_blockToRead 0 = .ok (.iload_n 2, 1) := by decide +kernel
theorem dX0_blockToRead_1 : decode cX0_blockToRead 1 = .ok (.ifCond .lt 12, 3) := by decide +kernel
theorem dX0_blockToRead_4 : decode cX0_blockToRead 4 = .ok (.iload_n 2, 1) := by decide +kernel
theorem dX0_blockToRead_5 : decode cX0_blockToRead 5 = .ok (.aload_n 0, 1) := by decide +kernel
theorem dX0_blockToRead_6 : decode cX0_blockToRead 6 = .ok (.iload_n 1, 1) := by decide +kernel
theorem dX0_blockToRead_7 : decode cX0_blockToRead 7 = .ok (.invokevirtual 40, 3) := by decide +kernel
theorem dX0_blockToRead_10 : decode cX0_blockToRead 10 = .ok (.if_icmp .lt 7, 3) := by decide +kernel
theorem dX0_blockToRead_13 : decode cX0_blockToRead 13 = .ok (.iconst (-1), 1) := by decide +kernel
theorem dX0_blockToRead_14 : decode cX0_blockToRead 14 = .ok (.goto 13, 3) := by decide +kernel
theorem dX0_blockToRead_17 : decode cX0_blockToRead 17 = .ok (.aload_n 0, 1) := by decide +kernel
theorem dX0_blockToRead_18 : decode cX0_blockToRead 18 = .ok (.getfield 19, 3) := by decide +kernel
theorem dX0_blockToRead_21 : decode cX0_blockToRead 21 = .ok (.iload_n 1, 1) := by decide +kernel
theorem dX0_blockToRead_22 : decode cX0_blockToRead 22 = .ok (.iload_n 2, 1) := by decide +kernel
theorem dX0_blockToRead_23 : decode cX0_blockToRead 23 = .ok (.invokestatic 44, 3) := by decide +kernel
theorem dX0_blockToRead_26 : decode cX0_blockToRead 26 = .ok (.iaload, 1) := by decide +kernel
theorem dX0_blockToRead_27 : decode cX0_blockToRead 27 = .ok (.ireturn, 1) := by decide +kernel
set_option maxRecDepth 20000 in
theorem ggX0_blockToWrite_X0_lengthOf : GoodIn wsX0_blockToWrite wsX0_lengthOf := goodIn_r _ [6, 7, 20, 21, 22, 23] (by decide +kernel) (by decide +kernel)
set_option maxRecDepth 20000 in
theorem gX0_blockToWrite_X0_lengthOf : GoodIn wsX0_blockToWrite (wsV RX0 40 RX0 yX0_lengthOf wsX0_lengthOf) := goodIn_app (goodIn_of _ (by decide +kernel)) ggX0_blockToWrite_X0_lengthOf
set_option maxRecDepth 20000 in
theorem ggX0_blockToWrite_X0_opensPart : GoodIn wsX0_blockToWrite wsX0_opensPart := goodIn_r _ [11, 2, 3, 4, 5, 6, 7, 20, 21, 22, 23] (by decide +kernel) (by decide +kernel)
set_option maxRecDepth 20000 in
theorem gX0_blockToWrite_X0_opensPart : GoodIn wsX0_blockToWrite (wsV RX0 48 RX0 yX0_opensPart wsX0_opensPart) := goodIn_app (goodIn_of _ (by decide +kernel)) ggX0_blockToWrite_X0_opensPart
set_option maxRecDepth 20000 in
theorem ggX0_blockToWrite_X0_leastFreeBlock : GoodIn wsX0_blockToWrite wsX0_leastFreeBlock := goodIn_r _ [15, 16, 20, 21, 22, 23] (by decide +kernel) (by decide +kernel)
set_option maxRecDepth 20000 in
theorem gX0_blockToWrite_X0_leastFreeBlock : GoodIn wsX0_blockToWrite (wsV RX0 52 RX0 yX0_leastFreeBlock wsX0_leastFreeBlock) := goodIn_app (goodIn_of _ (by decide +kernel)) ggX0_blockToWrite_X0_leastFreeBlock
set_option maxRecDepth 20000 in
theorem ggX0_blockToWrite_X0_partAt : GoodIn wsX0_blockToWrite wsX0_partAt := goodIn_r _ [19] (by decide +kernel) (by decide +kernel)
set_option maxRecDepth 20000 in
theorem gX0_blockToWrite_X0_partAt : GoodIn wsX0_blockToWrite (va_wsS RX0 44 yX0_partAt wsX0_partAt) := goodIn_app (goodIn_of _ (by decide +kernel)) ggX0_blockToWrite_X0_partAt
theorem dX0_blockToWrite_0 : decode cX0_blockToWrite 0 = .ok (.iload_n 2, 1) := by decide +kernel
theorem dX0_blockToWrite_1 : decode cX0_blockToWrite 1 = .ok (.ifCond .lt 18, 3) := by decide +kernel
theorem dX0_blockToWrite_4 : decode cX0_blockToWrite 4 = .ok (.iload_n 2, 1) := by decide +kernel
theorem dX0_blockToWrite_5 : decode cX0_blockToWrite 5 = .ok (.aload_n 0, 1) := by decide +kernel
theorem dX0_blockToWrite_6 : decode cX0_blockToWrite 6 = .ok (.iload_n 1, 1) := by decide +kernel
theorem dX0_blockToWrite_7 : decode cX0_blockToWrite 7 = .ok (.invokevirtual 40, 3) := by decide +kernel
theorem dX0_blockToWrite_10 : decode cX0_blockToWrite 10 = .ok (.if_icmp .gt 9, 3) := by decide +kernel
theorem dX0_blockToWrite_13 : decode cX0_blockToWrite 13 = .ok (.iload_n 2, 1) := by decide +kernel
theorem dX0_blockToWrite_14 : decode cX0_blockToWrite 14 = .ok (.bipush 24, 2) := by decide +kernel
theorem dX0_blockToWrite_16 : decode cX0_blockToWrite 16 = .ok (.if_icmp .lt 5, 3) := by decide +kernel
theorem dX0_blockToWrite_19 : decode cX0_blockToWrite 19 = .ok (.iconst (-1), 1) := by decide +kernel
theorem dX0_blockToWrite_20 : decode cX0_blockToWrite 20 = .ok (.ireturn, 1) := by decide +kernel
theorem dX0_blockToWrite_21 : decode cX0_blockToWrite 21 = .ok (.aload_n 0, 1) := by decide +kernel
theorem dX0_blockToWrite_22 : decode cX0_blockToWrite 22 = .ok (.iload_n 1, 1) := by decide +kernel
theorem dX0_blockToWrite_23 : decode cX0_blockToWrite 23 = .ok (.iload_n 2, 1) := by decide +kernel
theorem dX0_blockToWrite_24 : decode cX0_blockToWrite 24 = .ok (.invokevirtual 48, 3) := by decide +kernel
theorem dX0_blockToWrite_27 : decode cX0_blockToWrite 27 = .ok (.ifCond .eq 10, 3) := by decide +kernel
theorem dX0_blockToWrite_30 : decode cX0_blockToWrite 30 = .ok (.aload_n 0, 1) := by decide +kernel
theorem dX0_blockToWrite_31 : decode cX0_blockToWrite 31 = .ok (.invokevirtual 52, 3) := by decide +kernel
theorem dX0_blockToWrite_34 : decode cX0_blockToWrite 34 = .ok (.goto 13, 3) := by decide +kernel
theorem dX0_blockToWrite_37 : decode cX0_blockToWrite 37 = .ok (.aload_n 0, 1) := by decide +kernel
theorem dX0_blockToWrite_38 : decode cX0_blockToWrite 38 = .ok (.getfield 19, 3) := by decide +kernel
theorem dX0_blockToWrite_41 : decode cX0_blockToWrite 41 = .ok (.iload_n 1, 1) := by decide +kernel
theorem dX0_blockToWrite_42 : decode cX0_blockToWrite 42 = .ok (.iload_n 2, 1) := by decide +kernel
theorem dX0_blockToWrite_43 : decode cX0_blockToWrite 43 = .ok (.invokestatic 44, 3) := by decide +kernel
theorem dX0_blockToWrite_46 : decode cX0_blockToWrite 46 = .ok (.iaload, 1) := by decide +kernel
theorem dX0_blockToWrite_47 : decode cX0_blockToWrite 47 = .ok (.ireturn, 1) := by decide +kernel
set_option maxRecDepth 20000 in
theorem ggX0_opensPart_X0_lengthOf : GoodIn wsX0_opensPart wsX0_lengthOf := goodIn_r _ [5, 6, 7, 8, 9, 10] (by decide +kernel) (by decide +kernel)
set_option maxRecDepth 20000 in
theorem gX0_opensPart_X0_lengthOf : GoodIn wsX0_opensPart (wsV RX0 40 RX0 yX0_lengthOf wsX0_lengthOf) := goodIn_app (goodIn_of _ (by decide +kernel)) ggX0_opensPart_X0_lengthOf
theorem dX0_opensPart_0 : decode cX0_opensPart 0 = .ok (.iload_n 2, 1) := by decide +kernel
theorem dX0_opensPart_1 : decode cX0_opensPart 1 = .ok (.aload_n 0, 1) := by decide +kernel
theorem dX0_opensPart_2 : decode cX0_opensPart 2 = .ok (.iload_n 1, 1) := by decide +kernel
theorem dX0_opensPart_3 : decode cX0_opensPart 3 = .ok (.invokevirtual 40, 3) := by decide +kernel
theorem dX0_opensPart_6 : decode cX0_opensPart 6 = .ok (.if_icmp .ne 13, 3) := by decide +kernel
theorem dX0_opensPart_9 : decode cX0_opensPart 9 = .ok (.iload_n 2, 1) := by decide +kernel
theorem dX0_opensPart_10 : decode cX0_opensPart 10 = .ok (.iconst 4, 1) := by decide +kernel
theorem dX0_opensPart_11 : decode cX0_opensPart 11 = .ok (.irem, 1) := by decide +kernel
theorem dX0_opensPart_12 : decode cX0_opensPart 12 = .ok (.ifCond .ne 7, 3) := by decide +kernel
theorem dX0_opensPart_15 : decode cX0_opensPart 15 = .ok (.iconst 1, 1) := by decide +kernel
theorem dX0_opensPart_16 : decode cX0_opensPart 16 = .ok (.goto 4, 3) := by decide +kernel
theorem dX0_opensPart_19 : decode cX0_opensPart 19 = .ok (.iconst 0, 1) := by decide +kernel
theorem dX0_opensPart_20 : decode cX0_opensPart 20 = .ok (.ireturn, 1) := by decide +kernel
set_option maxRecDepth 20000 in
theorem ggX0_noteWritten_X0_opensPart : GoodIn wsX0_noteWritten wsX0_opensPart := goodIn_r _ [8, 9, 10, 11, 7, 12, 3, 16, 17, 18, 19] (by decide +kernel) (by decide +kernel)
set_option maxRecDepth 20000 in
theorem gX0_noteWritten_X0_opensPart : GoodIn wsX0_noteWritten (wsV RX0 48 RX0 yX0_opensPart wsX0_opensPart) := goodIn_app (goodIn_of _ (by decide +kernel)) ggX0_noteWritten_X0_opensPart
set_option maxRecDepth 20000 in
theorem ggX0_noteWritten_X0_partAt : GoodIn wsX0_noteWritten wsX0_partAt := goodIn_r _ [15] (by decide +kernel) (by decide +kernel)
set_option maxRecDepth 20000 in
theorem gX0_noteWritten_X0_partAt : GoodIn wsX0_noteWritten (va_wsS RX0 44 yX0_partAt wsX0_partAt) := goodIn_app (goodIn_of _ (by decide +kernel)) ggX0_noteWritten_X0_partAt
theorem dX0_noteWritten_0 : decode cX0_noteWritten 0 = .ok (.aload_n 0, 1) := by decide +kernel
theorem dX0_noteWritten_1 : decode cX0_noteWritten 1 = .ok (.iload_n 1, 1) := by decide +kernel
theorem dX0_noteWritten_2 : decode cX0_noteWritten 2 = .ok (.iload_n 2, 1) := by decide +kernel
theorem dX0_noteWritten_3 : decode cX0_noteWritten 3 = .ok (.invokevirtual 48, 3) := by decide +kernel
theorem dX0_noteWritten_6 : decode cX0_noteWritten 6 = .ok (.ifCond .eq 21, 3) := by decide +kernel
theorem dX0_noteWritten_9 : decode cX0_noteWritten 9 = .ok (.aload_n 0, 1) := by decide +kernel
theorem dX0_noteWritten_10 : decode cX0_noteWritten 10 = .ok (.getfield 19, 3) := by decide +kernel
theorem dX0_noteWritten_13 : decode cX0_noteWritten 13 = .ok (.iload_n 1, 1) := by decide +kernel
theorem dX0_noteWritten_14 : decode cX0_noteWritten 14 = .ok (.iload_n 2, 1) := by decide +kernel
theorem dX0_noteWritten_15 : decode cX0_noteWritten 15 = .ok (.invokestatic 44, 3) := by decide +kernel
theorem dX0_noteWritten_18 : decode cX0_noteWritten 18 = .ok (.iload_n 3, 1) := by decide +kernel
theorem dX0_noteWritten_19 : decode cX0_noteWritten 19 = .ok (.iastore, 1) := by decide +kernel
theorem dX0_noteWritten_20 : decode cX0_noteWritten 20 = .ok (.aload_n 0, 1) := by decide +kernel
theorem dX0_noteWritten_21 : decode cX0_noteWritten 21 = .ok (.getfield 22, 3) := by decide +kernel
theorem dX0_noteWritten_24 : decode cX0_noteWritten 24 = .ok (.iload_n 3, 1) := by decide +kernel
theorem dX0_noteWritten_25 : decode cX0_noteWritten 25 = .ok (.iconst 1, 1) := by decide +kernel
theorem dX0_noteWritten_26 : decode cX0_noteWritten 26 = .ok (.bastore, 1) := by decide +kernel
theorem dX0_noteWritten_27 : decode cX0_noteWritten 27 = .ok (.iload_n 2, 1) := by decide +kernel
theorem dX0_noteWritten_28 : decode cX0_noteWritten 28 = .ok (.aload_n 0, 1) := by decide +kernel
theorem dX0_noteWritten_29 : decode cX0_noteWritten 29 = .ok (.getfield 15, 3) := by decide +kernel
theorem dX0_noteWritten_32 : decode cX0_noteWritten 32 = .ok (.iload_n 1, 1) := by decide +kernel
theorem dX0_noteWritten_33 : decode cX0_noteWritten 33 = .ok (.iaload, 1) := by decide +kernel
theorem dX0_noteWritten_34 : decode cX0_noteWritten 34 = .ok (.if_icmp .ne 13, 3) := by decide +kernel
theorem dX0_noteWritten_37 : decode cX0_noteWritten 37 = .ok (.aload_n 0, 1) := by decide +kernel
theorem dX0_noteWritten_38 : decode cX0_noteWritten 38 = .ok (.getfield 15, 3) := by decide +kernel
theorem dX0_noteWritten_41 : decode cX0_noteWritten 41 = .ok (.iload_n 1, 1) := by decide +kernel
theorem dX0_noteWritten_42 : decode cX0_noteWritten 42 = .ok (.dup2, 1) := by decide +kernel
theorem dX0_noteWritten_43 : decode cX0_noteWritten 43 = .ok (.iaload, 1) := by decide +kernel
theorem dX0_noteWritten_44 : decode cX0_noteWritten 44 = .ok (.iconst 1, 1) := by decide +kernel
theorem dX0_noteWritten_45 : decode cX0_noteWritten 45 = .ok (.iadd, 1) := by decide +kernel
theorem dX0_noteWritten_46 : decode cX0_noteWritten 46 = .ok (.iastore, 1) := by decide +kernel
theorem dX0_noteWritten_47 : decode cX0_noteWritten 47 = .ok (.return_, 1) := by decide +kernel
theorem dX0_countFiles_0 : decode cX0_countFiles 0 = .ok (.iconst 0, 1) := by decide +kernel
theorem dX0_countFiles_1 : decode cX0_countFiles 1 = .ok (.istore_n 1, 1) := by decide +kernel
theorem dX0_countFiles_2 : decode cX0_countFiles 2 = .ok (.iconst 0, 1) := by decide +kernel
theorem dX0_countFiles_3 : decode cX0_countFiles 3 = .ok (.istore_n 2, 1) := by decide +kernel
theorem dX0_countFiles_4 : decode cX0_countFiles 4 = .ok (.iload_n 2, 1) := by decide +kernel
theorem dX0_countFiles_5 : decode cX0_countFiles 5 = .ok (.bipush 8, 2) := by decide +kernel
theorem dX0_countFiles_7 : decode cX0_countFiles 7 = .ok (.if_icmp .ge 22, 3) := by decide +kernel
theorem dX0_countFiles_10 : decode cX0_countFiles 10 = .ok (.aload_n 0, 1) := by decide +kernel
theorem dX0_countFiles_11 : decode cX0_countFiles 11 = .ok (.getfield 15, 3) := by decide +kernel
theorem dX0_countFiles_14 : decode cX0_countFiles 14 = .ok (.iload_n 2, 1) := by decide +kernel
theorem dX0_countFiles_15 : decode cX0_countFiles 15 = .ok (.iaload, 1) := by decide +kernel
theorem dX0_countFiles_16 : decode cX0_countFiles 16 = .ok (.iconst (-1), 1) := by decide +kernel
theorem dX0_countFiles_17 : decode cX0_countFiles 17 = .ok (.if_icmp .eq 6, 3) := by decide +kernel
theorem dX0_countFiles_20 : decode cX0_countFiles 20 = .ok (.iinc 1 1, 3) := by decide +kernel
theorem dX0_countFiles_23 : decode cX0_countFiles 23 = .ok (.iinc 2 1, 3) := by decide +kernel
theorem dX0_countFiles_26 : decode cX0_countFiles 26 = .ok (.goto (-22), 3) := by decide +kernel
theorem dX0_countFiles_29 : decode cX0_countFiles 29 = .ok (.iload_n 1, 1) := by decide +kernel
theorem dX0_countFiles_30 : decode cX0_countFiles 30 = .ok (.ireturn, 1) := by decide +kernel
theorem dX0_countFreeBlocks_0 : decode cX0_countFreeBlocks 0 = .ok (.iconst 0, 1) := by decide +kernel
theorem dX0_countFreeBlocks_1 : decode cX0_countFreeBlocks 1 = .ok (.istore_n 1, 1) := by decide +kernel
theorem dX0_countFreeBlocks_2 : decode cX0_countFreeBlocks 2 = .ok (.iconst 0, 1) := by decide +kernel
theorem dX0_countFreeBlocks_3 : decode cX0_countFreeBlocks 3 = .ok (.istore_n 2, 1) := by decide +kernel
theorem dX0_countFreeBlocks_4 : decode cX0_countFreeBlocks 4 = .ok (.iload_n 2, 1) := by decide +kernel
theorem dX0_countFreeBlocks_5 : decode cX0_countFreeBlocks 5 = .ok (.bipush 64, 2) := by decide +kernel
theorem dX0_countFreeBlocks_7 : decode cX0_countFreeBlocks 7 = .ok (.if_icmp .ge 21, 3) := by decide +kernel
theorem dX0_countFreeBlocks_10 : decode cX0_countFreeBlocks 10 = .ok (.aload_n 0, 1) := by decide +kernel
theorem dX0_countFreeBlocks_11 : decode cX0_countFreeBlocks 11 = .ok (.getfield 22, 3) := by decide +kernel
theorem dX0_countFreeBlocks_14 : decode cX0_countFreeBlocks 14 = .ok (.iload_n 2, 1) := by decide +kernel
theorem dX0_countFreeBlocks_15 : decode cX0_countFreeBlocks 15 = .ok (.baload, 1) := by decide +kernel
theorem dX0_countFreeBlocks_16 : decode cX0_countFreeBlocks 16 = .ok (.ifCond .ne 6, 3) := by decide +kernel
theorem dX0_countFreeBlocks_19 : decode cX0_countFreeBlocks 19 = .ok (.iinc 1 1, 3) := by decide +kernel
theorem dX0_countFreeBlocks_22 : decode cX0_countFreeBlocks 22 = .ok (.iinc 2 1, 3) := by decide +kernel
theorem dX0_countFreeBlocks_25 : decode cX0_countFreeBlocks 25 = .ok (.goto (-21), 3) := by decide +kernel
theorem dX0_countFreeBlocks_28 : decode cX0_countFreeBlocks 28 = .ok (.iload_n 1, 1) := by decide +kernel
theorem dX0_countFreeBlocks_29 : decode cX0_countFreeBlocks 29 = .ok (.ireturn, 1) := by decide +kernel
theorem dX0_partAt_0 : decode cX0_partAt 0 = .ok (.iload_n 0, 1) := by decide +kernel
theorem dX0_partAt_1 : decode cX0_partAt 1 = .ok (.bipush 6, 2) := by decide +kernel
theorem dX0_partAt_3 : decode cX0_partAt 3 = .ok (.imul, 1) := by decide +kernel
theorem dX0_partAt_4 : decode cX0_partAt 4 = .ok (.iload_n 1, 1) := by decide +kernel
theorem dX0_partAt_5 : decode cX0_partAt 5 = .ok (.iconst 4, 1) := by decide +kernel
theorem dX0_partAt_6 : decode cX0_partAt 6 = .ok (.idiv, 1) := by decide +kernel
theorem dX0_partAt_7 : decode cX0_partAt 7 = .ok (.iadd, 1) := by decide +kernel
theorem dX0_partAt_8 : decode cX0_partAt 8 = .ok (.ireturn, 1) := by decide +kernel
theorem dX0_leastFreeNumber_0 : decode cX0_leastFreeNumber 0 = .ok (.iconst 0, 1) := by decide +kernel
theorem dX0_leastFreeNumber_1 : decode cX0_leastFreeNumber 1 = .ok (.istore_n 1, 1) := by decide +kernel
theorem dX0_leastFreeNumber_2 : decode cX0_leastFreeNumber 2 = .ok (.iload_n 1, 1) := by decide +kernel
theorem dX0_leastFreeNumber_3 : decode cX0_leastFreeNumber 3 = .ok (.bipush 8, 2) := by decide +kernel
theorem dX0_leastFreeNumber_5 : decode cX0_leastFreeNumber 5 = .ok (.if_icmp .ge 21, 3) := by decide +kernel
theorem dX0_leastFreeNumber_8 : decode cX0_leastFreeNumber 8 = .ok (.aload_n 0, 1) := by decide +kernel
theorem dX0_leastFreeNumber_9 : decode cX0_leastFreeNumber 9 = .ok (.getfield 15, 3) := by decide +kernel
theorem dX0_leastFreeNumber_12 : decode cX0_leastFreeNumber 12 = .ok (.iload_n 1, 1) := by decide +kernel
theorem dX0_leastFreeNumber_13 : decode cX0_leastFreeNumber 13 = .ok (.iaload, 1) := by decide +kernel
theorem dX0_leastFreeNumber_14 : decode cX0_leastFreeNumber 14 = .ok (.iconst (-1), 1) := by decide +kernel
theorem dX0_leastFreeNumber_15 : decode cX0_leastFreeNumber 15 = .ok (.if_icmp .ne 5, 3) := by decide +kernel
theorem dX0_leastFreeNumber_18 : decode cX0_leastFreeNumber 18 = .ok (.iload_n 1, 1) := by decide +kernel
theorem dX0_leastFreeNumber_19 : decode cX0_leastFreeNumber 19 = .ok (.ireturn, 1) := by decide +kernel
theorem dX0_leastFreeNumber_20 : decode cX0_leastFreeNumber 20 = .ok (.iinc 1 1, 3) := by decide +kernel
theorem dX0_leastFreeNumber_23 : decode cX0_leastFreeNumber 23 = .ok (.goto (-21), 3) := by decide +kernel
theorem dX0_leastFreeNumber_26 : decode cX0_leastFreeNumber 26 = .ok (.iconst (-1), 1) := by decide +kernel
theorem dX0_leastFreeNumber_27 : decode cX0_leastFreeNumber 27 = .ok (.ireturn, 1) := by decide +kernel
theorem dX0_leastFreeBlock_0 : decode cX0_leastFreeBlock 0 = .ok (.iconst 0, 1) := by decide +kernel
theorem dX0_leastFreeBlock_1 : decode cX0_leastFreeBlock 1 = .ok (.istore_n 1, 1) := by decide +kernel
theorem dX0_leastFreeBlock_2 : decode cX0_leastFreeBlock 2 = .ok (.iload_n 1, 1) := by decide +kernel
theorem dX0_leastFreeBlock_3 : decode cX0_leastFreeBlock 3 = .ok (.bipush 64, 2) := by decide +kernel
theorem dX0_leastFreeBlock_5 : decode cX0_leastFreeBlock 5 = .ok (.if_icmp .ge 20, 3) := by decide +kernel
theorem dX0_leastFreeBlock_8 : decode cX0_leastFreeBlock 8 = .ok (.aload_n 0, 1) := by decide +kernel
theorem dX0_leastFreeBlock_9 : decode cX0_leastFreeBlock 9 = .ok (.getfield 22, 3) := by decide +kernel
theorem dX0_leastFreeBlock_12 : decode cX0_leastFreeBlock 12 = .ok (.iload_n 1, 1) := by decide +kernel
theorem dX0_leastFreeBlock_13 : decode cX0_leastFreeBlock 13 = .ok (.baload, 1) := by decide +kernel
theorem dX0_leastFreeBlock_14 : decode cX0_leastFreeBlock 14 = .ok (.ifCond .ne 5, 3) := by decide +kernel
theorem dX0_leastFreeBlock_17 : decode cX0_leastFreeBlock 17 = .ok (.iload_n 1, 1) := by decide +kernel
theorem dX0_leastFreeBlock_18 : decode cX0_leastFreeBlock 18 = .ok (.ireturn, 1) := by decide +kernel
theorem dX0_leastFreeBlock_19 : decode cX0_leastFreeBlock 19 = .ok (.iinc 1 1, 3) := by decide +kernel
theorem dX0_leastFreeBlock_22 : decode cX0_leastFreeBlock 22 = .ok (.goto (-20), 3) := by decide +kernel
theorem dX0_leastFreeBlock_25 : decode cX0_leastFreeBlock 25 = .ok (.iconst (-1), 1) := by decide +kernel
theorem dX0_leastFreeBlock_26 : decode cX0_leastFreeBlock 26 = .ok (.ireturn, 1) := by decide +kernel
theorem dX1_init_0 : decode cX1_init 0 = .ok (.aload_n 0, 1) := by decide +kernel
theorem dX1_init_1 : decode cX1_init 1 = .ok (.invokespecial 1, 3) := by decide +kernel
theorem dX1_init_4 : decode cX1_init 4 = .ok (.return_, 1) := by decide +kernel
theorem dX1_begin_0 : decode cX1_begin 0 = .ok (.aload_n 0, 1) := by decide +kernel
theorem dX1_begin_1 : decode cX1_begin 1 = .ok (.iload_n 1, 1) := by decide +kernel
theorem dX1_begin_2 : decode cX1_begin 2 = .ok (.ifCond .ne 7, 3) := by decide +kernel
theorem dX1_begin_5 : decode cX1_begin 5 = .ok (.iconst 1, 1) := by decide +kernel
theorem dX1_begin_6 : decode cX1_begin 6 = .ok (.goto 4, 3) := by decide +kernel
theorem dX1_begin_9 : decode cX1_begin 9 = .ok (.iload_n 1, 1) := by decide +kernel
theorem dX1_begin_10 : decode cX1_begin 10 = .ok (.putfield 7, 3) := by decide +kernel
theorem dX1_begin_13 : decode cX1_begin 13 = .ok (.return_, 1) := by decide +kernel
theorem dX1_draw_0 : decode cX1_draw 0 = .ok (.aload_n 0, 1) := by decide +kernel
theorem dX1_draw_1 : decode cX1_draw 1 = .ok (.dup, 1) := by decide +kernel
theorem dX1_draw_2 : decode cX1_draw 2 = .ok (.getfield 7, 3) := by decide +kernel
theorem dX1_draw_5 : decode cX1_draw 5 = .ok (.aload_n 0, 1) := by decide +kernel
theorem dX1_draw_6 : decode cX1_draw 6 = .ok (.getfield 7, 3) := by decide +kernel
theorem dX1_draw_9 : decode cX1_draw 9 = .ok (.bipush 13, 2) := by decide +kernel
theorem dX1_draw_11 : decode cX1_draw 11 = .ok (.ishl, 1) := by decide +kernel
theorem dX1_draw_12 : decode cX1_draw 12 = .ok (.ixor, 1) := by decide +kernel
theorem dX1_draw_13 : decode cX1_draw 13 = .ok (.putfield 7, 3) := by decide +kernel
theorem dX1_draw_16 : decode cX1_draw 16 = .ok (.aload_n 0, 1) := by decide +kernel
theorem dX1_draw_17 : decode cX1_draw 17 = .ok (.dup, 1) := by decide +kernel
theorem dX1_draw_18 : decode cX1_draw 18 = .ok (.getfield 7, 3) := by decide +kernel
theorem dX1_draw_21 : decode cX1_draw 21 = .ok (.aload_n 0, 1) := by decide +kernel
theorem dX1_draw_22 : decode cX1_draw 22 = .ok (.getfield 7, 3) := by decide +kernel
theorem dX1_draw_25 : decode cX1_draw 25 = .ok (.bipush 17, 2) := by decide +kernel
theorem dX1_draw_27 : decode cX1_draw 27 = .ok (.iushr, 1) := by decide +kernel
theorem dX1_draw_28 : decode cX1_draw 28 = .ok (.ixor, 1) := by decide +kernel
theorem dX1_draw_29 : decode cX1_draw 29 = .ok (.putfield 7, 3) := by decide +kernel
theorem dX1_draw_32 : decode cX1_draw 32 = .ok (.aload_n 0, 1) := by decide +kernel
theorem dX1_draw_33 : decode cX1_draw 33 = .ok (.dup, 1) := by decide +kernel
theorem dX1_draw_34 : decode cX1_draw 34 = .ok (.getfield 7, 3) := by decide +kernel
theorem dX1_draw_37 : decode cX1_draw 37 = .ok (.aload_n 0, 1) := by decide +kernel
theorem dX1_draw_38 : decode cX1_draw 38 = .ok (.getfield 7, 3) := by decide +kernel
theorem dX1_draw_41 : decode cX1_draw 41 = .ok (.iconst 5, 1) := by decide +kernel
theorem dX1_draw_42 : decode cX1_draw 42 = .ok (.ishl, 1) := by decide +kernel
theorem dX1_draw_43 : decode cX1_draw 43 = .ok (.ixor, 1) := by decide +kernel
theorem dX1_draw_44 : decode cX1_draw 44 = .ok (.putfield 7, 3) := by decide +kernel
theorem dX1_draw_47 : decode cX1_draw 47 = .ok (.aload_n 0, 1) := by decide +kernel
theorem dX1_draw_48 : decode cX1_draw 48 = .ok (.getfield 7, 3) := by decide +kernel
theorem dX1_draw_51 : decode cX1_draw 51 = .ok (.bipush 32, 2) := by decide +kernel
theorem dX1_draw_53 : decode cX1_draw 53 = .ok (.iload_n 1, 1) := by decide +kernel
theorem dX1_draw_54 : decode cX1_draw 54 = .ok (.isub, 1) := by decide +kernel
theorem dX1_draw_55 : decode cX1_draw 55 = .ok (.iushr, 1) := by decide +kernel
theorem dX1_draw_56 : decode cX1_draw 56 = .ok (.ireturn, 1) := by decide +kernel
theorem dX2_init_0 : decode cX2_init 0 = .ok (.aload_n 0, 1) := by decide +kernel
theorem dX2_init_1 : decode cX2_init 1 = .ok (.invokespecial 3, 3) := by decide +kernel
theorem dX2_init_4 : decode cX2_init 4 = .ok (.aload_n 0, 1) := by decide +kernel
theorem dX2_init_5 : decode cX2_init 5 = .ok (.bipush 64, 2) := by decide +kernel
theorem dX2_init_7 : decode cX2_init 7 = .ok (.newarray .int, 2) := by decide +kernel
theorem dX2_init_9 : decode cX2_init 9 = .ok (.putfield 11, 3) := by decide +kernel
theorem dX2_init_12 : decode cX2_init 12 = .ok (.aload_n 0, 1) := by decide +kernel
theorem dX2_init_13 : decode cX2_init 13 = .ok (.bipush 64, 2) := by decide +kernel
theorem dX2_init_15 : decode cX2_init 15 = .ok (.newarray .int, 2) := by decide +kernel
theorem dX2_init_17 : decode cX2_init 17 = .ok (.putfield 15, 3) := by decide +kernel
theorem dX2_init_20 : decode cX2_init 20 = .ok (.return_, 1) := by decide +kernel
theorem dX2_empty_0 : decode cX2_empty 0 = .ok (.aload_n 0, 1) := by decide +kernel
theorem dX2_empty_1 : decode cX2_empty 1 = .ok (.iconst 0, 1) := by decide +kernel
theorem dX2_empty_2 : decode cX2_empty 2 = .ok (.putfield 18, 3) := by decide +kernel
theorem dX2_empty_5 : decode cX2_empty 5 = .ok (.return_, 1) := by decide +kernel
theorem dX2_add_0 : decode cX2_add 0 = .ok (.aload_n 0, 1) := by decide +kernel
theorem dX2_add_1 : decode cX2_add 1 = .ok (.getfield 11, 3) := by decide +kernel
theorem dX2_add_4 : decode cX2_add 4 = .ok (.aload_n 0, 1) := by decide +kernel
theorem dX2_add_5 : decode cX2_add 5 = .ok (.getfield 18, 3) := by decide +kernel
theorem dX2_add_8 : decode cX2_add 8 = .ok (.bipush 64, 2) := by decide +kernel
theorem dX2_add_10 : decode cX2_add 10 = .ok (.irem, 1) := by decide +kernel
theorem dX2_add_11 : decode cX2_add 11 = .ok (.iload_n 1, 1) := by decide +kernel
theorem dX2_add_12 : decode cX2_add 12 = .ok (.iastore, 1) := by decide +kernel
theorem dX2_add_13 : decode cX2_add 13 = .ok (.aload_n 0, 1) := by decide +kernel
theorem dX2_add_14 : decode cX2_add 14 = .ok (.getfield 15, 3) := by decide +kernel
theorem dX2_add_17 : decode cX2_add 17 = .ok (.aload_n 0, 1) := by decide +kernel
theorem dX2_add_18 : decode cX2_add 18 = .ok (.getfield 18, 3) := by decide +kernel
theorem dX2_add_21 : decode cX2_add 21 = .ok (.bipush 64, 2) := by decide +kernel
theorem dX2_add_23 : decode cX2_add 23 = .ok (.irem, 1) := by decide +kernel
theorem dX2_add_24 : decode cX2_add 24 = .ok (.iconst (-1), 1) := by decide +kernel
theorem dX2_add_25 : decode cX2_add 25 = .ok (.iastore, 1) := by decide +kernel
theorem dX2_add_26 : decode cX2_add 26 = .ok (.aload_n 0, 1) := by decide +kernel
theorem dX2_add_27 : decode cX2_add 27 = .ok (.dup, 1) := by decide +kernel
theorem dX2_add_28 : decode cX2_add 28 = .ok (.getfield 18, 3) := by decide +kernel
theorem dX2_add_31 : decode cX2_add 31 = .ok (.iconst 1, 1) := by decide +kernel
theorem dX2_add_32 : decode cX2_add 32 = .ok (.iadd, 1) := by decide +kernel
theorem dX2_add_33 : decode cX2_add 33 = .ok (.putfield 18, 3) := by decide +kernel
theorem dX2_add_36 : decode cX2_add 36 = .ok (.return_, 1) := by decide +kernel
theorem dX2_setDataLeaf_0 : decode cX2_setDataLeaf 0 = .ok (.aload_n 0, 1) := by decide +kernel
theorem dX2_setDataLeaf_1 : decode cX2_setDataLeaf 1 = .ok (.getfield 18, 3) := by decide +kernel
theorem dX2_setDataLeaf_4 : decode cX2_setDataLeaf 4 = .ok (.ifCond .le 18, 3) := by decide +kernel
theorem dX2_setDataLeaf_7 : decode cX2_setDataLeaf 7 = .ok (.aload_n 0, 1) := by decide +kernel
theorem dX2_setDataLeaf_8 : decode cX2_setDataLeaf 8 = .ok (.getfield 15, 3) := by decide +kernel
theorem dX2_setDataLeaf_11 : decode cX2_setDataLeaf 11 = .ok (.aload_n 0, 1) := by decide +kernel
theorem dX2_setDataLeaf_12 : decode cX2_setDataLeaf 12 = .ok (.getfield 18, 3) := by decide +kernel
theorem dX2_setDataLeaf_15 : decode cX2_setDataLeaf 15 = .ok (.iconst 1, 1) := by decide +kernel
theorem dX2_setDataLeaf_16 : decode cX2_setDataLeaf 16 = .ok (.isub, 1) := by decide +kernel
theorem dX2_setDataLeaf_17 : decode cX2_setDataLeaf 17 = .ok (.bipush 64, 2) := by decide +kernel
theorem dX2_setDataLeaf_19 : decode cX2_setDataLeaf 19 = .ok (.irem, 1) := by decide +kernel
theorem dX2_setDataLeaf_20 : decode cX2_setDataLeaf 20 = .ok (.iload_n 1, 1) := by decide +kernel
theorem dX2_setDataLeaf_21 : decode cX2_setDataLeaf 21 = .ok (.iastore, 1) := by decide +kernel
theorem dX2_setDataLeaf_22 : decode cX2_setDataLeaf 22 = .ok (.return_, 1) := by decide +kernel
theorem dX2_countAll_0 : decode cX2_countAll 0 = .ok (.aload_n 0, 1) := by decide +kernel
theorem dX2_countAll_1 : decode cX2_countAll 1 = .ok (.getfield 18, 3) := by decide +kernel
theorem dX2_countAll_4 : decode cX2_countAll 4 = .ok (.ireturn, 1) := by decide +kernel
theorem dX2_leafOf_0 : decode cX2_leafOf 0 = .ok (.iload_n 1, 1) := by decide +kernel
theorem dX2_leafOf_1 : decode cX2_leafOf 1 = .ok (.ifCond .lt 17, 3) := by decide +kernel
theorem dX2_leafOf_4 : decode cX2_leafOf 4 = .ok (.iload_n 1, 1) := by decide +kernel
theorem dX2_leafOf_5 : decode cX2_leafOf 5 = .ok (.bipush 64, 2) := by decide +kernel
theorem dX2_leafOf_7 : decode cX2_leafOf 7 = .ok (.if_icmp .ge 11, 3) := by decide +kernel
theorem dX2_leafOf_10 : decode cX2_leafOf 10 = .ok (.iload_n 1, 1) := by decide +kernel
theorem dX2_leafOf_11 : decode cX2_leafOf 11 = .ok (.aload_n 0, 1) := by decide +kernel
theorem dX2_leafOf_12 : decode cX2_leafOf 12 = .ok (.getfield 18, 3) := by decide +kernel
theorem dX2_leafOf_15 : decode cX2_leafOf 15 = .ok (.if_icmp .lt 5, 3) := by decide +kernel
theorem dX2_leafOf_18 : decode cX2_leafOf 18 = .ok (.iconst (-1), 1) := by decide +kernel
theorem dX2_leafOf_19 : decode cX2_leafOf 19 = .ok (.ireturn, 1) := by decide +kernel
theorem dX2_leafOf_20 : decode cX2_leafOf 20 = .ok (.aload_n 0, 1) := by decide +kernel
theorem dX2_leafOf_21 : decode cX2_leafOf 21 = .ok (.getfield 18, 3) := by decide +kernel
theorem dX2_leafOf_24 : decode cX2_leafOf 24 = .ok (.iconst 1, 1) := by decide +kernel
theorem dX2_leafOf_25 : decode cX2_leafOf 25 = .ok (.isub, 1) := by decide +kernel
theorem dX2_leafOf_26 : decode cX2_leafOf 26 = .ok (.iload_n 1, 1) := by decide +kernel
theorem dX2_leafOf_27 : decode cX2_leafOf 27 = .ok (.isub, 1) := by decide +kernel
theorem dX2_leafOf_28 : decode cX2_leafOf 28 = .ok (.bipush 64, 2) := by decide +kernel
theorem dX2_leafOf_30 : decode cX2_leafOf 30 = .ok (.irem, 1) := by decide +kernel
theorem dX2_leafOf_31 : decode cX2_leafOf 31 = .ok (.istore_n 3, 1) := by decide +kernel
theorem dX2_leafOf_32 : decode cX2_leafOf 32 = .ok (.iload_n 2, 1) := by decide +kernel
theorem dX2_leafOf_33 : decode cX2_leafOf 33 = .ok (.ifCond .ne 10, 3) := by decide +kernel
theorem dX2_leafOf_36 : decode cX2_leafOf 36 = .ok (.aload_n 0, 1) := by decide +kernel
theorem dX2_leafOf_37 : decode cX2_leafOf 37 = .ok (.getfield 11, 3) := by decide +kernel
theorem dX2_leafOf_40 : decode cX2_leafOf 40 = .ok (.iload_n 3, 1) := by decide +kernel
theorem dX2_leafOf_41 : decode cX2_leafOf 41 = .ok (.iaload, 1) := by decide +kernel
theorem dX2_leafOf_42 : decode cX2_leafOf 42 = .ok (.ireturn, 1) := by decide +kernel
theorem dX2_leafOf_43 : decode cX2_leafOf 43 = .ok (.iload_n 2, 1) := by decide +kernel
theorem dX2_leafOf_44 : decode cX2_leafOf 44 = .ok (.iconst 1, 1) := by decide +kernel
theorem dX2_leafOf_45 : decode cX2_leafOf 45 = .ok (.if_icmp .ne 12, 3) := by decide +kernel
theorem dX2_leafOf_48 : decode cX2_leafOf 48 = .ok (.aload_n 0, 1) := by decide +kernel
theorem dX2_leafOf_49 : decode cX2_leafOf 49 = .ok (.getfield 15, 3) := by decide +kernel
theorem dX2_leafOf_52 : decode cX2_leafOf 52 = .ok (.iload_n 3, 1) := by decide +kernel
theorem dX2_leafOf_53 : decode cX2_leafOf 53 = .ok (.iaload, 1) := by decide +kernel
theorem dX2_leafOf_54 : decode cX2_leafOf 54 = .ok (.goto 4, 3) := by decide +kernel
theorem dX2_leafOf_57 : decode cX2_leafOf 57 = .ok (.iconst (-1), 1) := by decide +kernel
theorem dX2_leafOf_58 : decode cX2_leafOf 58 = .ok (.ireturn, 1) := by decide +kernel
theorem dX3_init_0 : decode cX3_init 0 = .ok (.aload_n 0, 1) := by decide +kernel
theorem dX3_init_1 : decode cX3_init 1 = .ok (.invokespecial 3, 3) := by decide +kernel
theorem dX3_init_4 : decode cX3_init 4 = .ok (.aload_n 0, 1) := by decide +kernel
theorem dX3_init_5 : decode cX3_init 5 = .ok (.iload_n 1, 1) := by decide +kernel
theorem dX3_init_6 : decode cX3_init 6 = .ok (.putfield 9, 3) := by decide +kernel
theorem dX3_init_9 : decode cX3_init 9 = .ok (.aload_n 0, 1) := by decide +kernel
theorem dX3_init_10 : decode cX3_init 10 = .ok (.iconst 1, 1) := by decide +kernel
theorem dX3_init_11 : decode cX3_init 11 = .ok (.iload_n 2, 1) := by decide +kernel
theorem dX3_init_12 : decode cX3_init 12 = .ok (.ishl, 1) := by decide +kernel
theorem dX3_init_13 : decode cX3_init 13 = .ok (.putfield 15, 3) := by decide +kernel
theorem dX3_init_16 : decode cX3_init 16 = .ok (.aload_n 0, 1) := by decide +kernel
theorem dX3_init_17 : decode cX3_init 17 = .ok (.iload_n 2, 1) := by decide +kernel
theorem dX3_init_18 : decode cX3_init 18 = .ok (.iconst 1, 1) := by decide +kernel
theorem dX3_init_19 : decode cX3_init 19 = .ok (.iadd, 1) := by decide +kernel
theorem dX3_init_20 : decode cX3_init 20 = .ok (.putfield 18, 3) := by decide +kernel
theorem dX3_init_23 : decode cX3_init 23 = .ok (.aload_n 0, 1) := by decide +kernel
theorem dX3_init_24 : decode cX3_init 24 = .ok (.iconst 2, 1) := by decide +kernel
theorem dX3_init_25 : decode cX3_init 25 = .ok (.aload_n 0, 1) := by decide +kernel
theorem dX3_init_26 : decode cX3_init 26 = .ok (.getfield 15, 3) := by decide +kernel
theorem dX3_init_29 : decode cX3_init 29 = .ok (.imul, 1) := by decide +kernel
theorem dX3_init_30 : decode cX3_init 30 = .ok (.iconst 1, 1) := by decide +kernel
theorem dX3_init_31 : decode cX3_init 31 = .ok (.isub, 1) := by decide +kernel
theorem dX3_init_32 : decode cX3_init 32 = .ok (.putfield 21, 3) := by decide +kernel
theorem dX3_init_35 : decode cX3_init 35 = .ok (.aload_n 0, 1) := by decide +kernel
theorem dX3_init_36 : decode cX3_init 36 = .ok (.iload_n 3, 1) := by decide +kernel
theorem dX3_init_37 : decode cX3_init 37 = .ok (.putfield 24, 3) := by decide +kernel
theorem dX3_init_40 : decode cX3_init 40 = .ok (.aload_n 0, 1) := by decide +kernel
theorem dX3_init_41 : decode cX3_init 41 = .ok (.aload_n 0, 1) := by decide +kernel
theorem dX3_init_42 : decode cX3_init 42 = .ok (.getfield 21, 3) := by decide +kernel
theorem dX3_init_45 : decode cX3_init 45 = .ok (.bipush 25, 2) := by decide +kernel
theorem dX3_init_47 : decode cX3_init 47 = .ok (.imul, 1) := by decide +kernel
theorem dX3_init_48 : decode cX3_init 48 = .ok (.newarray .int, 2) := by decide +kernel
theorem dX3_init_50 : decode cX3_init 50 = .ok (.putfield 27, 3) := by decide +kernel
theorem dX3_init_53 : decode cX3_init 53 = .ok (.aload_n 0, 1) := by decide +kernel
theorem dX3_init_54 : decode cX3_init 54 = .ok (.aload_n 0, 1) := by decide +kernel
theorem dX3_init_55 : decode cX3_init 55 = .ok (.getfield 21, 3) := by decide +kernel
theorem dX3_init_58 : decode cX3_init 58 = .ok (.newarray .int, 2) := by decide +kernel
theorem dX3_init_60 : decode cX3_init 60 = .ok (.putfield 31, 3) := by decide +kernel
theorem dX3_init_63 : decode cX3_init 63 = .ok (.aload_n 0, 1) := by decide +kernel
theorem dX3_init_64 : decode cX3_init 64 = .ok (.iload_n 3, 1) := by decide +kernel
theorem dX3_init_65 : decode cX3_init 65 = .ok (.newarray .boolean, 2) := by decide +kernel
theorem dX3_init_67 : decode cX3_init 67 = .ok (.putfield 34, 3) := by decide +kernel
theorem dX3_init_70 : decode cX3_init 70 = .ok (.aload_n 0, 1) := by decide +kernel
theorem dX3_init_71 : decode cX3_init 71 = .ok (.iload_n 3, 1) := by decide +kernel
theorem dX3_init_72 : decode cX3_init 72 = .ok (.newarray .int, 2) := by decide +kernel
theorem dX3_init_74 : decode cX3_init 74 = .ok (.putfield 38, 3) := by decide +kernel
theorem dX3_init_77 : decode cX3_init 77 = .ok (.aload_n 0, 1) := by decide +kernel
theorem dX3_init_78 : decode cX3_init 78 = .ok (.iload_n 3, 1) := by decide +kernel
theorem dX3_init_79 : decode cX3_init 79 = .ok (.iconst 4, 1) := by decide +kernel
theorem dX3_init_80 : decode cX3_init 80 = .ok (.imul, 1) := by decide +kernel
theorem dX3_init_81 : decode cX3_init 81 = .ok (.newarray .int, 2) := by decide +kernel
theorem dX3_init_83 : decode cX3_init 83 = .ok (.putfield 41, 3) := by decide +kernel
theorem dX3_init_86 : decode cX3_init 86 = .ok (.return_, 1) := by decide +kernel
set_option maxRecDepth 20000 in
theorem ggX3_empty_J7_fill_53178 : GoodIn wsX3_empty wsJ7_fill_53178 := goodIn_r _ [10] (by decide +kernel) (by decide +kernel)
set_option maxRecDepth 20000 in
theorem gX3_empty_J7_fill_53178 : GoodIn wsX3_empty (va_wsS RX3 47 yJ7_fill_53178 wsJ7_fill_53178) := goodIn_app (goodIn_of _ (by decide +kernel)) ggX3_empty_J7_fill_53178
theorem dX3_empty_0 : decode cX3_empty 0 = .ok (.aload_n 0, 1) := by decide +kernel
theorem dX3_empty_1 : decode cX3_empty 1 = .ok (.iload_n 1, 1) := by decide +kernel
theorem dX3_empty_2 : decode cX3_empty 2 = .ok (.putfield 44, 3) := by decide +kernel
theorem dX3_empty_5 : decode cX3_empty 5 = .ok (.aload_n 0, 1) := by decide +kernel
theorem dX3_empty_6 : decode cX3_empty 6 = .ok (.getfield 27, 3) := by decide +kernel
theorem dX3_empty_9 : decode cX3_empty 9 = .ok (.iconst 0, 1) := by decide +kernel
theorem dX3_empty_10 : decode cX3_empty 10 = .ok (.invokestatic 47, 3) := by decide +kernel
theorem dX3_empty_13 : decode cX3_empty 13 = .ok (.aload_n 0, 1) := by decide +kernel
theorem dX3_empty_14 : decode cX3_empty 14 = .ok (.getfield 31, 3) := by decide +kernel
theorem dX3_empty_17 : decode cX3_empty 17 = .ok (.iconst 1, 1) := by decide +kernel
theorem dX3_empty_18 : decode cX3_empty 18 = .ok (.invokestatic 47, 3) := by decide +kernel
theorem dX3_empty_21 : decode cX3_empty 21 = .ok (.aload_n 0, 1) := by decide +kernel
theorem dX3_empty_22 : decode cX3_empty 22 = .ok (.getfield 41, 3) := by decide +kernel
theorem dX3_empty_25 : decode cX3_empty 25 = .ok (.iconst 0, 1) := by decide +kernel
theorem dX3_empty_26 : decode cX3_empty 26 = .ok (.invokestatic 47, 3) := by decide +kernel
theorem dX3_empty_29 : decode cX3_empty 29 = .ok (.iconst 0, 1) := by decide +kernel
theorem dX3_empty_30 : decode cX3_empty 30 = .ok (.istore_n 2, 1) := by decide +kernel
theorem dX3_empty_31 : decode cX3_empty 31 = .ok (.iload_n 2, 1) := by decide +kernel
theorem dX3_empty_32 : decode cX3_empty 32 = .ok (.aload_n 0, 1) := by decide +kernel
theorem dX3_empty_33 : decode cX3_empty 33 = .ok (.getfield 24, 3) := by decide +kernel
theorem dX3_empty_36 : decode cX3_empty 36 = .ok (.if_icmp .ge 16, 3) := by decide +kernel
theorem dX3_empty_39 : decode cX3_empty 39 = .ok (.aload_n 0, 1) := by decide +kernel
theorem dX3_empty_40 : decode cX3_empty 40 = .ok (.getfield 34, 3) := by decide +kernel
theorem dX3_empty_43 : decode cX3_empty 43 = .ok (.iload_n 2, 1) := by decide +kernel
theorem dX3_empty_44 : decode cX3_empty 44 = .ok (.iconst 1, 1) := by decide +kernel
theorem dX3_empty_45 : decode cX3_empty 45 = .ok (.bastore, 1) := by decide +kernel
theorem dX3_empty_46 : decode cX3_empty 46 = .ok (.iinc 2 1, 3) := by decide +kernel
theorem dX3_empty_49 : decode cX3_empty 49 = .ok (.goto (-18), 3) := by decide +kernel
theorem dX3_empty_52 : decode cX3_empty 52 = .ok (.return_, 1) := by decide +kernel
set_option maxRecDepth 20000 in
theorem ggX3_settleAll_X3_settle : GoodIn wsX3_settleAll wsX3_settle := goodIn_r _ [7, 8, 9, 10, 11, 12, 13, 6, 14, 15, 16, 17, 18, 19, 20, 21, 22, 23, 24, 25, 26, 27, 28, 54, 55, 56, 57, 58, 59, 60, 61, 62, 63, 64] (by decide +kernel) (by decide +kernel)
set_option maxRecDepth 20000 in
theorem gX3_settleAll_X3_settle : GoodIn wsX3_settleAll (wsV RX3 53 RX3 yX3_settle wsX3_settle) := goodIn_app (goodIn_of _ (by decide +kernel)) ggX3_settleAll_X3_settle
set_option maxRecDepth 20000 in
theorem ggX3_settleAll_X3_seal : GoodIn wsX3_settleAll wsX3_seal := goodIn_r _ [32, 10, 33, 34, 35, 6, 36, 37, 38, 39, 40, 41, 42, 43, 44, 45, 46, 47, 48, 49, 50, 51, 52, 53, 54, 55, 56, 57, 58, 59, 60, 61, 62, 63, 64] (by decide +kernel) (by decide +kernel)
set_option maxRecDepth 20000 in
theorem gX3_settleAll_X3_seal : GoodIn wsX3_settleAll (wsV RX3 57 RX3 yX3_seal wsX3_seal) := goodIn_app (goodIn_of _ (by decide +kernel)) ggX3_settleAll_X3_seal
theorem dX3_settleAll_0 : decode cX3_settleAll 0 = .ok (.iconst 0, 1) := by decide +kernel
theorem dX3_settleAll_1 : decode cX3_settleAll 1 = .ok (.istore_n 1, 1) := by decide +kernel
theorem dX3_settleAll_2 : decode cX3_settleAll 2 = .ok (.iload_n 1, 1) := by decide +kernel
theorem dX3_settleAll_3 : decode cX3_settleAll 3 = .ok (.aload_n 0, 1) := by decide +kernel
theorem dX3_settleAll_4 : decode cX3_settleAll 4 = .ok (.getfield 24, 3) := by decide +kernel
theorem dX3_settleAll_7 : decode cX3_settleAll 7 = .ok (.if_icmp .ge 14, 3) := by decide +kernel
theorem dX3_settleAll_10 : decode cX3_settleAll 10 = .ok (.aload_n 0, 1) := by decide +kernel
theorem dX3_settleAll_11 : decode cX3_settleAll 11 = .ok (.iload_n 1, 1) := by decide +kernel
theorem dX3_settleAll_12 : decode cX3_settleAll 12 = .ok (.invokevirtual 53, 3) := by decide +kernel
theorem dX3_settleAll_15 : decode cX3_settleAll 15 = .ok (.iinc 1 1, 3) := by decide +kernel
theorem dX3_settleAll_18 : decode cX3_settleAll 18 = .ok (.goto (-16), 3) := by decide +kernel
theorem dX3_settleAll_21 : decode cX3_settleAll 21 = .ok (.iconst 0, 1) := by decide +kernel
theorem dX3_settleAll_22 : decode cX3_settleAll 22 = .ok (.istore_n 1, 1) := by decide +kernel
theorem dX3_settleAll_23 : decode cX3_settleAll 23 = .ok (.iload_n 1, 1) := by decide +kernel
theorem dX3_settleAll_24 : decode cX3_settleAll 24 = .ok (.aload_n 0, 1) := by decide +kernel
theorem dX3_settleAll_25 : decode cX3_settleAll 25 = .ok (.getfield 21, 3) := by decide +kernel
theorem dX3_settleAll_28 : decode cX3_settleAll 28 = .ok (.if_icmp .ge 14, 3) := by decide +kernel
theorem dX3_settleAll_31 : decode cX3_settleAll 31 = .ok (.aload_n 0, 1) := by decide +kernel
theorem dX3_settleAll_32 : decode cX3_settleAll 32 = .ok (.iload_n 1, 1) := by decide +kernel
theorem dX3_settleAll_33 : decode cX3_settleAll 33 = .ok (.invokevirtual 57, 3) := by decide +kernel
theorem dX3_settleAll_36 : decode cX3_settleAll 36 = .ok (.iinc 1 1, 3) := by decide +kernel
theorem dX3_settleAll_39 : decode cX3_settleAll 39 = .ok (.goto (-16), 3) := by decide +kernel
theorem dX3_settleAll_42 : decode cX3_settleAll 42 = .ok (.return_, 1) := by decide +kernel
theorem dX3_hasBucket_0 : decode cX3_hasBucket 0 = .ok (.iload_n 1, 1) := by decide +kernel
theorem dX3_hasBucket_1 : decode cX3_hasBucket 1 = .ok (.ifCond .lt 15, 3) := by decide +kernel
theorem dX3_hasBucket_4 : decode cX3_hasBucket 4 = .ok (.iload_n 1, 1) := by decide +kernel
theorem dX3_hasBucket_5 : decode cX3_hasBucket 5 = .ok (.aload_n 0, 1) := by decide +kernel
theorem dX3_hasBucket_6 : decode cX3_hasBucket 6 = .ok (.getfield 21, 3) := by decide +kernel
theorem dX3_hasBucket_9 : decode cX3_hasBucket 9 = .ok (.if_icmp .ge 7, 3) := by decide +kernel
theorem dX3_hasBucket_12 : decode cX3_hasBucket 12 = .ok (.iconst 1, 1) := by decide +kernel
theorem dX3_hasBucket_13 : decode cX3_hasBucket 13 = .ok (.goto 4, 3) := by decide +kernel
theorem dX3_hasBucket_16 : decode cX3_hasBucket 16 = .ok (.iconst 0, 1) := by decide +kernel
theorem dX3_hasBucket_17 : decode cX3_hasBucket 17 = .ok (.ireturn, 1) := by decide +kernel
set_option maxRecDepth 20000 in
theorem ggX3_hasStored_X3_hasBucket : GoodIn wsX3_hasStored wsX3_hasBucket := goodIn_r _ [5, 6, 7, 8, 9, 10, 11, 12, 13, 14, 15, 16, 17] (by decide +kernel) (by decide +kernel)
set_option maxRecDepth 20000 in
theorem gX3_hasStored_X3_hasBucket : GoodIn wsX3_hasStored (wsV RX3 60 RX3 yX3_hasBucket wsX3_hasBucket) := goodIn_app (goodIn_of _ (by decide +kernel)) ggX3_hasStored_X3_hasBucket
theorem dX3_hasStored_0 : decode cX3_hasStored 0 = .ok (.aload_n 0, 1) := by decide +kernel
theorem dX3_hasStored_1 : decode cX3_hasStored 1 = .ok (.iload_n 1, 1) := by decide +kernel
theorem dX3_hasStored_2 : decode cX3_hasStored 2 = .ok (.invokevirtual 60, 3) := by decide +kernel
theorem dX3_hasStored_5 : decode cX3_hasStored 5 = .ok (.ifCond .eq 17, 3) := by decide +kernel
theorem dX3_hasStored_8 : decode cX3_hasStored 8 = .ok (.iload_n 2, 1) := by decide +kernel
theorem dX3_hasStored_9 : decode cX3_hasStored 9 = .ok (.ifCond .lt 13, 3) := by decide +kernel
theorem dX3_hasStored_12 : decode cX3_hasStored 12 = .ok (.iload_n 2, 1) := by decide +kernel
theorem dX3_hasStored_13 : decode cX3_hasStored 13 = .ok (.bipush 25, 2) := by decide +kernel
theorem dX3_hasStored_15 : decode cX3_hasStored 15 = .ok (.if_icmp .ge 7, 3) := by decide +kernel
theorem dX3_hasStored_18 : decode cX3_hasStored 18 = .ok (.iconst 1, 1) := by decide +kernel
theorem dX3_hasStored_19 : decode cX3_hasStored 19 = .ok (.goto 4, 3) := by decide +kernel
theorem dX3_hasStored_22 : decode cX3_hasStored 22 = .ok (.iconst 0, 1) := by decide +kernel
theorem dX3_hasStored_23 : decode cX3_hasStored 23 = .ok (.ireturn, 1) := by decide +kernel
theorem dX3_storedWord_0 : decode cX3_storedWord 0 = .ok (.aload_n 0, 1) := by decide +kernel
theorem dX3_storedWord_1 : decode cX3_storedWord 1 = .ok (.getfield 27, 3) := by decide +kernel
theorem dX3_storedWord_4 : decode cX3_storedWord 4 = .ok (.iload_n 1, 1) := by decide +kernel
theorem dX3_storedWord_5 : decode cX3_storedWord 5 = .ok (.bipush 25, 2) := by decide +kernel
theorem dX3_storedWord_7 : decode cX3_storedWord 7 = .ok (.imul, 1) := by decide +kernel
theorem dX3_storedWord_8 : decode cX3_storedWord 8 = .ok (.iload_n 2, 1) := by decide +kernel
theorem dX3_storedWord_9 : decode cX3_storedWord 9 = .ok (.iadd, 1) := by decide +kernel
theorem dX3_storedWord_10 : decode cX3_storedWord 10 = .ok (.iaload, 1) := by decide +kernel
theorem dX3_storedWord_11 : decode cX3_storedWord 11 = .ok (.ireturn, 1) := by decide +kernel
theorem dX3_timesSealed_0 : decode cX3_timesSealed 0 = .ok (.aload_n 0, 1) := by decide +kernel
theorem dX3_timesSealed_1 : decode cX3_timesSealed 1 = .ok (.getfield 31, 3) := by decide +kernel
theorem dX3_timesSealed_4 : decode cX3_timesSealed 4 = .ok (.iload_n 1, 1) := by decide +kernel
theorem dX3_timesSealed_5 : decode cX3_timesSealed 5 = .ok (.iaload, 1) := by decide +kernel
theorem dX3_timesSealed_6 : decode cX3_timesSealed 6 = .ok (.ireturn, 1) := by decide +kernel
theorem dX3_countHeld_0 : decode cX3_countHeld 0 = .ok (.iconst 0, 1) := by decide +kernel
theorem dX3_countHeld_1 : decode cX3_countHeld 1 = .ok (.istore_n 1, 1) := by decide +kernel
theorem dX3_countHeld_2 : decode cX3_countHeld 2 = .ok (.iconst 0, 1) := by decide +kernel
theorem dX3_countHeld_3 : decode cX3_countHeld 3 = .ok (.istore_n 2, 1) := by decide +kernel
theorem dX3_countHeld_4 : decode cX3_countHeld 4 = .ok (.iload_n 2, 1) := by decide +kernel
theorem dX3_countHeld_5 : decode cX3_countHeld 5 = .ok (.aload_n 0, 1) := by decide +kernel
theorem dX3_countHeld_6 : decode cX3_countHeld 6 = .ok (.getfield 24, 3) := by decide +kernel
theorem dX3_countHeld_9 : decode cX3_countHeld 9 = .ok (.if_icmp .ge 21, 3) := by decide +kernel
theorem dX3_countHeld_12 : decode cX3_countHeld 12 = .ok (.aload_n 0, 1) := by decide +kernel
theorem dX3_countHeld_13 : decode cX3_countHeld 13 = .ok (.getfield 34, 3) := by decide +kernel
theorem dX3_countHeld_16 : decode cX3_countHeld 16 = .ok (.iload_n 2, 1) := by decide +kernel
theorem dX3_countHeld_17 : decode cX3_countHeld 17 = .ok (.baload, 1) := by decide +kernel
theorem dX3_countHeld_18 : decode cX3_countHeld 18 = .ok (.ifCond .eq 6, 3) := by decide +kernel
theorem dX3_countHeld_21 : decode cX3_countHeld 21 = .ok (.iinc 1 1, 3) := by decide +kernel
theorem dX3_countHeld_24 : decode cX3_countHeld 24 = .ok (.iinc 2 1, 3) := by decide +kernel
theorem dX3_countHeld_27 : decode cX3_countHeld 27 = .ok (.goto (-23), 3) := by decide +kernel
theorem dX3_countHeld_30 : decode cX3_countHeld 30 = .ok (.iload_n 1, 1) := by decide +kernel
theorem dX3_countHeld_31 : decode cX3_countHeld 31 = .ok (.ireturn, 1) := by decide +kernel
set_option maxRecDepth 20000 in
theorem ggX3_spoil_X3_isWhole : GoodIn wsX3_spoil wsX3_isWhole := goodIn_r _ [6, 1, 7, 8, 9, 5, 10, 11, 12, 13, 14, 15, 16, 17, 18, 19, 20, 21, 22, 23, 24, 25, 26, 27, 28, 29, 30, 31, 32, 33, 34] (by decide +kernel) (by decide +kernel)
set_option maxRecDepth 20000 in
theorem gX3_spoil_X3_isWhole : GoodIn wsX3_spoil (wsV RX3 64 RX3 yX3_isWhole wsX3_isWhole) := goodIn_app (goodIn_of _ (by decide +kernel)) ggX3_spoil_X3_isWhole
theorem dX3_spoil_0 : decode cX3_spoil 0 = .ok (.iload_n 1, 1) := by decide +kernel
theorem dX3_spoil_1 : decode cX3_spoil 1 = .ok (.bipush 25, 2) := by decide +kernel
theorem dX3_spoil_3 : decode cX3_spoil 3 = .ok (.imul, 1) := by decide +kernel
theorem dX3_spoil_4 : decode cX3_spoil 4 = .ok (.iload_n 2, 1) := by decide +kernel
theorem dX3_spoil_5 : decode cX3_spoil 5 = .ok (.iadd, 1) := by decide +kernel
theorem dX3_spoil_6 : decode cX3_spoil 6 = .ok (.istore 4, 2) := by decide +kernel
theorem dX3_spoil_8 : decode cX3_spoil 8 = .ok (.aload_n 0, 1) := by decide +kernel
theorem dX3_spoil_9 : decode cX3_spoil 9 = .ok (.getfield 27, 3) := by decide +kernel
theorem dX3_spoil_12 : decode cX3_spoil 12 = .ok (.iload 4, 2) := by decide +kernel
theorem dX3_spoil_14 : decode cX3_spoil 14 = .ok (.iaload, 1) := by decide +kernel
theorem dX3_spoil_15 : decode cX3_spoil 15 = .ok (.istore 5, 2) := by decide +kernel
theorem dX3_spoil_17 : decode cX3_spoil 17 = .ok (.aload_n 0, 1) := by decide +kernel
theorem dX3_spoil_18 : decode cX3_spoil 18 = .ok (.getfield 27, 3) := by decide +kernel
theorem dX3_spoil_21 : decode cX3_spoil 21 = .ok (.iload 4, 2) := by decide +kernel
theorem dX3_spoil_23 : decode cX3_spoil 23 = .ok (.iload_n 3, 1) := by decide +kernel
theorem dX3_spoil_24 : decode cX3_spoil 24 = .ok (.iastore, 1) := by decide +kernel
theorem dX3_spoil_25 : decode cX3_spoil 25 = .ok (.aload_n 0, 1) := by decide +kernel
theorem dX3_spoil_26 : decode cX3_spoil 26 = .ok (.iload_n 1, 1) := by decide +kernel
theorem dX3_spoil_27 : decode cX3_spoil 27 = .ok (.invokevirtual 64, 3) := by decide +kernel
theorem dX3_spoil_30 : decode cX3_spoil 30 = .ok (.ifCond .eq 14, 3) := by decide +kernel
theorem dX3_spoil_33 : decode cX3_spoil 33 = .ok (.aload_n 0, 1) := by decide +kernel
theorem dX3_spoil_34 : decode cX3_spoil 34 = .ok (.getfield 27, 3) := by decide +kernel
theorem dX3_spoil_37 : decode cX3_spoil 37 = .ok (.iload 4, 2) := by decide +kernel
theorem dX3_spoil_39 : decode cX3_spoil 39 = .ok (.iload 5, 2) := by decide +kernel
theorem dX3_spoil_41 : decode cX3_spoil 41 = .ok (.iastore, 1) := by decide +kernel
theorem dX3_spoil_42 : decode cX3_spoil 42 = .ok (.iconst 0, 1) := by decide +kernel
theorem dX3_spoil_43 : decode cX3_spoil 43 = .ok (.ireturn, 1) := by decide +kernel
theorem dX3_spoil_44 : decode cX3_spoil 44 = .ok (.iconst 1, 1) := by decide +kernel
theorem dX3_spoil_45 : decode cX3_spoil 45 = .ok (.ireturn, 1) := by decide +kernel
theorem dX3_moveTo_0 : decode cX3_moveTo 0 = .ok (.aload_n 0, 1) := by decide +kernel
theorem dX3_moveTo_1 : decode cX3_moveTo 1 = .ok (.getfield 38, 3) := by decide +kernel
theorem dX3_moveTo_4 : decode cX3_moveTo 4 = .ok (.iload_n 1, 1) := by decide +kernel
theorem dX3_moveTo_5 : decode cX3_moveTo 5 = .ok (.iload_n 2, 1) := by decide +kernel
theorem dX3_moveTo_6 : decode cX3_moveTo 6 = .ok (.iastore, 1) := by decide +kernel
theorem dX3_moveTo_7 : decode cX3_moveTo 7 = .ok (.return_, 1) := by decide +kernel
theorem dX3_wordOf_0 : decode cX3_wordOf 0 = .ok (.aload_n 0, 1) := by decide +kernel
theorem dX3_wordOf_1 : decode cX3_wordOf 1 = .ok (.getfield 41, 3) := by decide +kernel
theorem dX3_wordOf_4 : decode cX3_wordOf 4 = .ok (.iload_n 1, 1) := by decide +kernel
theorem dX3_wordOf_5 : decode cX3_wordOf 5 = .ok (.iconst 4, 1) := by decide +kernel
theorem dX3_wordOf_6 : decode cX3_wordOf 6 = .ok (.imul, 1) := by decide +kernel
theorem dX3_wordOf_7 : decode cX3_wordOf 7 = .ok (.iload_n 2, 1) := by decide +kernel
theorem dX3_wordOf_8 : decode cX3_wordOf 8 = .ok (.iadd, 1) := by decide +kernel
theorem dX3_wordOf_9 : decode cX3_wordOf 9 = .ok (.iaload, 1) := by decide +kernel
theorem dX3_wordOf_10 : decode cX3_wordOf 10 = .ok (.ireturn, 1) := by decide +kernel
theorem dX3_setWord_0 : decode cX3_setWord 0 = .ok (.aload_n 0, 1) := by decide +kernel
theorem dX3_setWord_1 : decode cX3_setWord 1 = .ok (.getfield 41, 3) := by decide +kernel
theorem dX3_setWord_4 : decode cX3_setWord 4 = .ok (.iload_n 1, 1) := by decide +kernel
theorem dX3_setWord_5 : decode cX3_setWord 5 = .ok (.iconst 4, 1) := by decide +kernel
theorem dX3_setWord_6 : decode cX3_setWord 6 = .ok (.imul, 1) := by decide +kernel
theorem dX3_setWord_7 : decode cX3_setWord 7 = .ok (.iload_n 2, 1) := by decide +kernel
theorem dX3_setWord_8 : decode cX3_setWord 8 = .ok (.iadd, 1) := by decide +kernel
theorem dX3_setWord_9 : decode cX3_setWord 9 = .ok (.iload_n 3, 1) := by decide +kernel
theorem dX3_setWord_10 : decode cX3_setWord 10 = .ok (.iastore, 1) := by decide +kernel
theorem dX3_setWord_11 : decode cX3_setWord 11 = .ok (.return_, 1) := by decide +kernel
set_option maxRecDepth 20000 in
theorem ggX3_clearWords_X3_setWord : GoodIn wsX3_clearWords wsX3_setWord := goodIn_r _ [5, 6, 7, 8, 9, 10, 11, 12, 13, 14, 15, 16, 17] (by decide +kernel) (by decide +kernel)
set_option maxRecDepth 20000 in
theorem gX3_clearWords_X3_setWord : GoodIn wsX3_clearWords (wsV RX3 67 RX3 yX3_setWord wsX3_setWord) := goodIn_app (goodIn_of _ (by decide +kernel)) ggX3_clearWords_X3_setWord
theorem dX3_clearWords_0 : decode cX3_clearWords 0 = .ok (.iconst 0, 1) := by decide +kernel
theorem dX3_clearWords_1 : decode cX3_clearWords 1 = .ok (.istore_n 2, 1) := by decide +kernel
theorem dX3_clearWords_2 : decode cX3_clearWords 2 = .ok (.iload_n 2, 1) := by decide +kernel
theorem dX3_clearWords_3 : decode cX3_clearWords 3 = .ok (.iconst 4, 1) := by decide +kernel
theorem dX3_clearWords_4 : decode cX3_clearWords 4 = .ok (.if_icmp .ge 16, 3) := by decide +kernel
theorem dX3_clearWords_7 : decode cX3_clearWords 7 = .ok (.aload_n 0, 1) := by decide +kernel
theorem dX3_clearWords_8 : decode cX3_clearWords 8 = .ok (.iload_n 1, 1) := by decide +kernel
theorem dX3_clearWords_9 : decode cX3_clearWords 9 = .ok (.iload_n 2, 1) := by decide +kernel
theorem dX3_clearWords_10 : decode cX3_clearWords 10 = .ok (.iconst 0, 1) := by decide +kernel
theorem dX3_clearWords_11 : decode cX3_clearWords 11 = .ok (.invokevirtual 67, 3) := by decide +kernel
theorem dX3_clearWords_14 : decode cX3_clearWords 14 = .ok (.iinc 2 1, 3) := by decide +kernel
theorem dX3_clearWords_17 : decode cX3_clearWords 17 = .ok (.goto (-15), 3) := by decide +kernel
theorem dX3_clearWords_20 : decode cX3_clearWords 20 = .ok (.return_, 1) := by decide +kernel
set_option maxRecDepth 20000 in
theorem ggX3_take_X3_bucketOver : GoodIn wsX3_take wsX3_bucketOver := goodIn_r _ [6, 7, 53, 54, 55, 56, 57, 58, 59, 60, 61, 62, 63] (by decide +kernel) (by decide +kernel)
set_option maxRecDepth 20000 in
theorem gX3_take_X3_bucketOver : GoodIn wsX3_take (wsV RX3 71 RX3 yX3_bucketOver wsX3_bucketOver) := goodIn_app (goodIn_of _ (by decide +kernel)) ggX3_take_X3_bucketOver
set_option maxRecDepth 20000 in
theorem ggX3_take_X3_isWhole : GoodIn wsX3_take wsX3_isWhole := goodIn_r _ [11, 12, 13, 14, 15, 5, 16, 17, 18, 19, 20, 21, 22, 23, 24, 25, 26, 27, 28, 29, 53, 54, 55, 56, 57, 58, 59, 60, 61, 62, 63] (by decide +kernel) (by decide +kernel)
set_option maxRecDepth 20000 in
theorem gX3_take_X3_isWhole : GoodIn wsX3_take (wsV RX3 64 RX3 yX3_isWhole wsX3_isWhole) := goodIn_app (goodIn_of _ (by decide +kernel)) ggX3_take_X3_isWhole
set_option maxRecDepth 20000 in
theorem ggX3_take_X3_unload : GoodIn wsX3_take wsX3_unload := goodIn_r _ [33, 12, 34, 35, 36, 5, 37, 18, 19, 20, 21, 22, 23, 24, 25, 26, 27, 28, 29, 38, 39, 40, 41, 42, 43, 44, 45, 46, 47, 48, 49, 50, 51, 52, 53, 54, 55, 56, 57, 58, 59, 60, 61, 62, 63] (by decide +kernel) (by decide +kernel)
set_option maxRecDepth 20000 in
theorem gX3_take_X3_unload : GoodIn wsX3_take (wsV RX3 75 RX3 yX3_unload wsX3_unload) := goodIn_app (goodIn_of _ (by decide +kernel)) ggX3_take_X3_unload
theorem dX3_take_0 : decode cX3_take 0 = .ok (.iconst 0, 1) := by decide +kernel
theorem dX3_take_1 : decode cX3_take 1 = .ok (.istore_n 2, 1) := by decide +kernel
theorem dX3_take_2 : decode cX3_take 2 = .ok (.iload_n 2, 1) := by decide +kernel
theorem dX3_take_3 : decode cX3_take 3 = .ok (.aload_n 0, 1) := by decide +kernel
theorem dX3_take_4 : decode cX3_take 4 = .ok (.getfield 18, 3) := by decide +kernel
theorem dX3_take_7 : decode cX3_take 7 = .ok (.if_icmp .ge 24, 3) := by decide +kernel
theorem dX3_take_10 : decode cX3_take 10 = .ok (.aload_n 0, 1) := by decide +kernel
theorem dX3_take_11 : decode cX3_take 11 = .ok (.aload_n 0, 1) := by decide +kernel
theorem dX3_take_12 : decode cX3_take 12 = .ok (.iload_n 1, 1) := by decide +kernel
theorem dX3_take_13 : decode cX3_take 13 = .ok (.iload_n 2, 1) := by decide +kernel
theorem dX3_take_14 : decode cX3_take 14 = .ok (.invokevirtual 71, 3) := by decide +kernel
theorem dX3_take_17 : decode cX3_take 17 = .ok (.invokevirtual 64, 3) := by decide +kernel
theorem dX3_take_20 : decode cX3_take 20 = .ok (.ifCond .ne 5, 3) := by decide +kernel
theorem dX3_take_23 : decode cX3_take 23 = .ok (.iconst 0, 1) := by decide +kernel
theorem dX3_take_24 : decode cX3_take 24 = .ok (.ireturn, 1) := by decide +kernel
theorem dX3_take_25 : decode cX3_take 25 = .ok (.iinc 2 1, 3) := by decide +kernel
theorem dX3_take_28 : decode cX3_take 28 = .ok (.goto (-26), 3) := by decide +kernel
theorem dX3_take_31 : decode cX3_take 31 = .ok (.iconst 0, 1) := by decide +kernel
theorem dX3_take_32 : decode cX3_take 32 = .ok (.istore_n 2, 1) := by decide +kernel
theorem dX3_take_33 : decode cX3_take 33 = .ok (.iload_n 2, 1) := by decide +kernel
theorem dX3_take_34 : decode cX3_take 34 = .ok (.aload_n 0, 1) := by decide +kernel
theorem dX3_take_35 : decode cX3_take 35 = .ok (.getfield 18, 3) := by decide +kernel
theorem dX3_take_38 : decode cX3_take 38 = .ok (.if_icmp .ge 19, 3) := by decide +kernel
theorem dX3_take_41 : decode cX3_take 41 = .ok (.aload_n 0, 1) := by decide +kernel
theorem dX3_take_42 : decode cX3_take 42 = .ok (.aload_n 0, 1) := by decide +kernel
theorem dX3_take_43 : decode cX3_take 43 = .ok (.iload_n 1, 1) := by decide +kernel
theorem dX3_take_44 : decode cX3_take 44 = .ok (.iload_n 2, 1) := by decide +kernel
theorem dX3_take_45 : decode cX3_take 45 = .ok (.invokevirtual 71, 3) := by decide +kernel
theorem dX3_take_48 : decode cX3_take 48 = .ok (.invokevirtual 75, 3) := by decide +kernel
theorem dX3_take_51 : decode cX3_take 51 = .ok (.iinc 2 1, 3) := by decide +kernel
theorem dX3_take_54 : decode cX3_take 54 = .ok (.goto (-21), 3) := by decide +kernel
theorem dX3_take_57 : decode cX3_take 57 = .ok (.iconst 1, 1) := by decide +kernel
theorem dX3_take_58 : decode cX3_take 58 = .ok (.ireturn, 1) := by decide +kernel
set_option maxRecDepth 20000 in
theorem ggX3_putBack_X3_bucketOver : GoodIn wsX3_putBack wsX3_bucketOver := goodIn_r _ [7, 8, 53, 54, 55, 56, 57, 58, 59, 60, 61, 62, 63] (by decide +kernel) (by decide +kernel)
set_option maxRecDepth 20000 in
theorem gX3_putBack_X3_bucketOver : GoodIn wsX3_putBack (wsV RX3 71 RX3 yX3_bucketOver wsX3_bucketOver) := goodIn_app (goodIn_of _ (by decide +kernel)) ggX3_putBack_X3_bucketOver
set_option maxRecDepth 20000 in
theorem ggX3_putBack_X3_load : GoodIn wsX3_putBack wsX3_load := goodIn_r _ [12, 13, 14, 15, 3, 4, 5, 6, 7, 8, 16, 17, 18, 19, 20, 21, 22, 23, 24, 25, 26, 27, 28, 53, 54, 55, 56, 57, 58, 59, 60, 61, 62, 63] (by decide +kernel) (by decide +kernel)
set_option maxRecDepth 20000 in
theorem gX3_putBack_X3_load : GoodIn wsX3_putBack (wsV RX3 78 RX3 yX3_load wsX3_load) := goodIn_app (goodIn_of _ (by decide +kernel)) ggX3_putBack_X3_load
set_option maxRecDepth 20000 in
theorem ggX3_putBack_X3_seal : GoodIn wsX3_putBack wsX3_seal := goodIn_r _ [32, 20, 33, 34, 35, 6, 36, 37, 38, 39, 40, 41, 42, 43, 2, 44, 45, 46, 47, 48, 49, 50, 51, 52, 53, 54, 55, 56, 57, 58, 59, 60, 61, 62, 63] (by decide +kernel) (by decide +kernel)
set_option maxRecDepth 20000 in
theorem gX3_putBack_X3_seal : GoodIn wsX3_putBack (wsV RX3 57 RX3 yX3_seal wsX3_seal) := goodIn_app (goodIn_of _ (by decide +kernel)) ggX3_putBack_X3_seal
theorem dX3_putBack_0 : decode cX3_putBack 0 = .ok (.iconst 0, 1) := by decide +kernel
theorem dX3_putBack_1 : decode cX3_putBack 1 = .ok (.istore_n 2, 1) := by decide +kernel
theorem dX3_putBack_2 : decode cX3_putBack 2 = .ok (.iload_n 2, 1) := by decide +kernel
theorem dX3_putBack_3 : decode cX3_putBack 3 = .ok (.aload_n 0, 1) := by decide +kernel
theorem dX3_putBack_4 : decode cX3_putBack 4 = .ok (.getfield 18, 3) := by decide +kernel
theorem dX3_putBack_7 : decode cX3_putBack 7 = .ok (.if_icmp .ge 37, 3) := by decide +kernel
theorem dX3_putBack_10 : decode cX3_putBack 10 = .ok (.aload_n 0, 1) := by decide +kernel
theorem dX3_putBack_11 : decode cX3_putBack 11 = .ok (.iload_n 1, 1) := by decide +kernel
theorem dX3_putBack_12 : decode cX3_putBack 12 = .ok (.iload_n 2, 1) := by decide +kernel
theorem dX3_putBack_13 : decode cX3_putBack 13 = .ok (.invokevirtual 71, 3) := by decide +kernel
theorem dX3_putBack_16 : decode cX3_putBack 16 = .ok (.istore_n 3, 1) := by decide +kernel
theorem dX3_putBack_17 : decode cX3_putBack 17 = .ok (.aload_n 0, 1) := by decide +kernel
theorem dX3_putBack_18 : decode cX3_putBack 18 = .ok (.iload_n 3, 1) := by decide +kernel
theorem dX3_putBack_19 : decode cX3_putBack 19 = .ok (.iload_n 2, 1) := by decide +kernel
theorem dX3_putBack_20 : decode cX3_putBack 20 = .ok (.invokevirtual 78, 3) := by decide +kernel
theorem dX3_putBack_23 : decode cX3_putBack 23 = .ok (.aload_n 0, 1) := by decide +kernel
theorem dX3_putBack_24 : decode cX3_putBack 24 = .ok (.getfield 31, 3) := by decide +kernel
theorem dX3_putBack_27 : decode cX3_putBack 27 = .ok (.iload_n 3, 1) := by decide +kernel
theorem dX3_putBack_28 : decode cX3_putBack 28 = .ok (.dup2, 1) := by decide +kernel
theorem dX3_putBack_29 : decode cX3_putBack 29 = .ok (.iaload, 1) := by decide +kernel
theorem dX3_putBack_30 : decode cX3_putBack 30 = .ok (.iconst 1, 1) := by decide +kernel
theorem dX3_putBack_31 : decode cX3_putBack 31 = .ok (.iadd, 1) := by decide +kernel
theorem dX3_putBack_32 : decode cX3_putBack 32 = .ok (.iastore, 1) := by decide +kernel
theorem dX3_putBack_33 : decode cX3_putBack 33 = .ok (.aload_n 0, 1) := by decide +kernel
theorem dX3_putBack_34 : decode cX3_putBack 34 = .ok (.iload_n 3, 1) := by decide +kernel
theorem dX3_putBack_35 : decode cX3_putBack 35 = .ok (.invokevirtual 57, 3) := by decide +kernel
theorem dX3_putBack_38 : decode cX3_putBack 38 = .ok (.iinc 2 1, 3) := by decide +kernel
theorem dX3_putBack_41 : decode cX3_putBack 41 = .ok (.goto (-39), 3) := by decide +kernel
theorem dX3_putBack_44 : decode cX3_putBack 44 = .ok (.return_, 1) := by decide +kernel
theorem dX3_bucketOver_0 : decode cX3_bucketOver 0 = .ok (.aload_n 0, 1) := by decide +kernel
theorem dX3_bucketOver_1 : decode cX3_bucketOver 1 = .ok (.getfield 15, 3) := by decide +kernel
theorem dX3_bucketOver_4 : decode cX3_bucketOver 4 = .ok (.iload_n 1, 1) := by decide +kernel
theorem dX3_bucketOver_5 : decode cX3_bucketOver 5 = .ok (.iadd, 1) := by decide +kernel
theorem dX3_bucketOver_6 : decode cX3_bucketOver 6 = .ok (.iload_n 2, 1) := by decide +kernel
theorem dX3_bucketOver_7 : decode cX3_bucketOver 7 = .ok (.ishr, 1) := by decide +kernel
theorem dX3_bucketOver_8 : decode cX3_bucketOver 8 = .ok (.iconst 1, 1) := by decide +kernel
theorem dX3_bucketOver_9 : decode cX3_bucketOver 9 = .ok (.isub, 1) := by decide +kernel
theorem dX3_bucketOver_10 : decode cX3_bucketOver 10 = .ok (.ireturn, 1) := by decide +kernel
set_option maxRecDepth 20000 in
theorem ggX3_settle_X3_bucketOver : GoodIn wsX3_settle wsX3_bucketOver := goodIn_r _ [8, 9, 23, 24, 25, 26, 27, 28, 29, 30, 31, 32, 33] (by decide +kernel) (by decide +kernel)
set_option maxRecDepth 20000 in
theorem gX3_settle_X3_bucketOver : GoodIn wsX3_settle (wsV RX3 71 RX3 yX3_bucketOver wsX3_bucketOver) := goodIn_app (goodIn_of _ (by decide +kernel)) ggX3_settle_X3_bucketOver
set_option maxRecDepth 20000 in
theorem ggX3_settle_X3_slotStart : GoodIn wsX3_settle wsX3_slotStart := goodIn_r _ [12] (by decide +kernel) (by decide +kernel)
set_option maxRecDepth 20000 in
theorem gX3_settle_X3_slotStart : GoodIn wsX3_settle (va_wsS RX3 82 yX3_slotStart wsX3_slotStart) := goodIn_app (goodIn_of _ (by decide +kernel)) ggX3_settle_X3_slotStart
set_option maxRecDepth 20000 in
theorem ggX3_settle_X3_place : GoodIn wsX3_settle wsX3_place := goodIn_r _ [16, 3, 2, 17, 10, 11, 7, 12, 18, 19, 20, 21, 22, 23, 24, 25, 26, 27, 28, 29, 30, 31, 32, 33] (by decide +kernel) (by decide +kernel)
set_option maxRecDepth 20000 in
theorem gX3_settle_X3_place : GoodIn wsX3_settle (wsV RX3 85 RX3 yX3_place wsX3_place) := goodIn_app (goodIn_of _ (by decide +kernel)) ggX3_settle_X3_place
theorem dX3_settle_0 : decode cX3_settle 0 = .ok (.iconst 0, 1) := by decide +kernel
theorem dX3_settle_1 : decode cX3_settle 1 = .ok (.istore_n 2, 1) := by decide +kernel
theorem dX3_settle_2 : decode cX3_settle 2 = .ok (.iload_n 2, 1) := by decide +kernel
theorem dX3_settle_3 : decode cX3_settle 3 = .ok (.aload_n 0, 1) := by decide +kernel
theorem dX3_settle_4 : decode cX3_settle 4 = .ok (.getfield 18, 3) := by decide +kernel
theorem dX3_settle_7 : decode cX3_settle 7 = .ok (.if_icmp .ge 59, 3) := by decide +kernel
theorem dX3_settle_10 : decode cX3_settle 10 = .ok (.aload_n 0, 1) := by decide +kernel
theorem dX3_settle_11 : decode cX3_settle 11 = .ok (.aload_n 0, 1) := by decide +kernel
theorem dX3_settle_12 : decode cX3_settle 12 = .ok (.getfield 38, 3) := by decide +kernel
theorem dX3_settle_15 : decode cX3_settle 15 = .ok (.iload_n 1, 1) := by decide +kernel
theorem dX3_settle_16 : decode cX3_settle 16 = .ok (.iaload, 1) := by decide +kernel
theorem dX3_settle_17 : decode cX3_settle 17 = .ok (.iload_n 2, 1) := by decide +kernel
theorem dX3_settle_18 : decode cX3_settle 18 = .ok (.invokevirtual 71, 3) := by decide +kernel
theorem dX3_settle_21 : decode cX3_settle 21 = .ok (.istore_n 3, 1) := by decide +kernel
theorem dX3_settle_22 : decode cX3_settle 22 = .ok (.iconst 0, 1) := by decide +kernel
theorem dX3_settle_23 : decode cX3_settle 23 = .ok (.istore 4, 2) := by decide +kernel
theorem dX3_settle_25 : decode cX3_settle 25 = .ok (.iload 4, 2) := by decide +kernel
theorem dX3_settle_27 : decode cX3_settle 27 = .ok (.iconst 4, 1) := by decide +kernel
theorem dX3_settle_28 : decode cX3_settle 28 = .ok (.if_icmp .ge 32, 3) := by decide +kernel
theorem dX3_settle_31 : decode cX3_settle 31 = .ok (.aload_n 0, 1) := by decide +kernel
theorem dX3_settle_32 : decode cX3_settle 32 = .ok (.getfield 27, 3) := by decide +kernel
theorem dX3_settle_35 : decode cX3_settle 35 = .ok (.iload_n 3, 1) := by decide +kernel
theorem dX3_settle_36 : decode cX3_settle 36 = .ok (.iload 4, 2) := by decide +kernel
theorem dX3_settle_38 : decode cX3_settle 38 = .ok (.invokestatic 82, 3) := by decide +kernel
theorem dX3_settle_41 : decode cX3_settle 41 = .ok (.iaload, 1) := by decide +kernel
theorem dX3_settle_42 : decode cX3_settle 42 = .ok (.ifCond .ne 12, 3) := by decide +kernel
theorem dX3_settle_45 : decode cX3_settle 45 = .ok (.aload_n 0, 1) := by decide +kernel
theorem dX3_settle_46 : decode cX3_settle 46 = .ok (.iload_n 1, 1) := by decide +kernel
theorem dX3_settle_47 : decode cX3_settle 47 = .ok (.iload_n 3, 1) := by decide +kernel
theorem dX3_settle_48 : decode cX3_settle 48 = .ok (.iload 4, 2) := by decide +kernel
theorem dX3_settle_50 : decode cX3_settle 50 = .ok (.invokevirtual 85, 3) := by decide +kernel
theorem dX3_settle_53 : decode cX3_settle 53 = .ok (.return_, 1) := by decide +kernel
theorem dX3_settle_54 : decode cX3_settle 54 = .ok (.iinc 4 1, 3) := by decide +kernel
theorem dX3_settle_57 : decode cX3_settle 57 = .ok (.goto (-32), 3) := by decide +kernel
theorem dX3_settle_60 : decode cX3_settle 60 = .ok (.iinc 2 1, 3) := by decide +kernel
theorem dX3_settle_63 : decode cX3_settle 63 = .ok (.goto (-61), 3) := by decide +kernel
theorem dX3_settle_66 : decode cX3_settle 66 = .ok (.return_, 1) := by decide +kernel
set_option maxRecDepth 20000 in
theorem ggX3_load_X3_bucketOver : GoodIn wsX3_load wsX3_bucketOver := goodIn_r _ [8, 9, 23, 24, 25, 26, 27, 28, 29, 30, 31, 32, 33] (by decide +kernel) (by decide +kernel)
set_option maxRecDepth 20000 in
theorem gX3_load_X3_bucketOver : GoodIn wsX3_load (wsV RX3 71 RX3 yX3_bucketOver wsX3_bucketOver) := goodIn_app (goodIn_of _ (by decide +kernel)) ggX3_load_X3_bucketOver
set_option maxRecDepth 20000 in
theorem ggX3_load_X3_place : GoodIn wsX3_load wsX3_place := goodIn_r _ [13, 14, 3, 2, 15, 16, 7, 17, 18, 19, 20, 21, 22, 23, 24, 25, 26, 27, 28, 29, 30, 31, 32, 33] (by decide +kernel) (by decide +kernel)
set_option maxRecDepth 20000 in
theorem gX3_load_X3_place : GoodIn wsX3_load (wsV RX3 85 RX3 yX3_place wsX3_place) := goodIn_app (goodIn_of _ (by decide +kernel)) ggX3_load_X3_place
theorem dX3_load_0 : decode cX3_load 0 = .ok (.iconst 0, 1) := by decide +kernel
theorem dX3_load_1 : decode cX3_load 1 = .ok (.istore_n 3, 1) := by decide +kernel
theorem dX3_load_2 : decode cX3_load 2 = .ok (.iconst 0, 1) := by decide +kernel
theorem dX3_load_3 : decode cX3_load 3 = .ok (.istore 4, 2) := by decide +kernel
theorem dX3_load_5 : decode cX3_load 5 = .ok (.iload 4, 2) := by decide +kernel
theorem dX3_load_7 : decode cX3_load 7 = .ok (.aload_n 0, 1) := by decide +kernel
theorem dX3_load_8 : decode cX3_load 8 = .ok (.getfield 24, 3) := by decide +kernel
theorem dX3_load_11 : decode cX3_load 11 = .ok (.if_icmp .ge 51, 3) := by decide +kernel
theorem dX3_load_14 : decode cX3_load 14 = .ok (.iload_n 3, 1) := by decide +kernel
theorem dX3_load_15 : decode cX3_load 15 = .ok (.iconst 4, 1) := by decide +kernel
theorem dX3_load_16 : decode cX3_load 16 = .ok (.if_icmp .ge 46, 3) := by decide +kernel
theorem dX3_load_19 : decode cX3_load 19 = .ok (.aload_n 0, 1) := by decide +kernel
theorem dX3_load_20 : decode cX3_load 20 = .ok (.getfield 34, 3) := by decide +kernel
theorem dX3_load_23 : decode cX3_load 23 = .ok (.iload 4, 2) := by decide +kernel
theorem dX3_load_25 : decode cX3_load 25 = .ok (.baload, 1) := by decide +kernel
theorem dX3_load_26 : decode cX3_load 26 = .ok (.ifCond .eq 30, 3) := by decide +kernel
theorem dX3_load_29 : decode cX3_load 29 = .ok (.aload_n 0, 1) := by decide +kernel
theorem dX3_load_30 : decode cX3_load 30 = .ok (.aload_n 0, 1) := by decide +kernel
theorem dX3_load_31 : decode cX3_load 31 = .ok (.getfield 38, 3) := by decide +kernel
theorem dX3_load_34 : decode cX3_load 34 = .ok (.iload 4, 2) := by decide +kernel
theorem dX3_load_36 : decode cX3_load 36 = .ok (.iaload, 1) := by decide +kernel
theorem dX3_load_37 : decode cX3_load 37 = .ok (.iload_n 2, 1) := by decide +kernel
theorem dX3_load_38 : decode cX3_load 38 = .ok (.invokevirtual 71, 3) := by decide +kernel
theorem dX3_load_41 : decode cX3_load 41 = .ok (.iload_n 1, 1) := by decide +kernel
theorem dX3_load_42 : decode cX3_load 42 = .ok (.if_icmp .ne 14, 3) := by decide +kernel
theorem dX3_load_45 : decode cX3_load 45 = .ok (.aload_n 0, 1) := by decide +kernel
theorem dX3_load_46 : decode cX3_load 46 = .ok (.iload 4, 2) := by decide +kernel
theorem dX3_load_48 : decode cX3_load 48 = .ok (.iload_n 1, 1) := by decide +kernel
theorem dX3_load_49 : decode cX3_load 49 = .ok (.iload_n 3, 1) := by decide +kernel
theorem dX3_load_50 : decode cX3_load 50 = .ok (.invokevirtual 85, 3) := by decide +kernel
theorem dX3_load_53 : decode cX3_load 53 = .ok (.iinc 3 1, 3) := by decide +kernel
theorem dX3_load_56 : decode cX3_load 56 = .ok (.iinc 4 1, 3) := by decide +kernel
theorem dX3_load_59 : decode cX3_load 59 = .ok (.goto (-54), 3) := by decide +kernel
theorem dX3_load_62 : decode cX3_load 62 = .ok (.return_, 1) := by decide +kernel
set_option maxRecDepth 20000 in
theorem ggX3_place_X3_slotStart : GoodIn wsX3_place wsX3_slotStart := goodIn_r _ [7] (by decide +kernel) (by decide +kernel)
set_option maxRecDepth 20000 in
theorem gX3_place_X3_slotStart : GoodIn wsX3_place (va_wsS RX3 82 yX3_slotStart wsX3_slotStart) := goodIn_app (goodIn_of _ (by decide +kernel)) ggX3_place_X3_slotStart
set_option maxRecDepth 20000 in
theorem ggX3_place_X3_wordOf : GoodIn wsX3_place wsX3_wordOf := goodIn_r _ [11, 12, 13, 14, 15, 16, 17, 18, 19, 20, 21, 22, 23] (by decide +kernel) (by decide +kernel)
set_option maxRecDepth 20000 in
theorem gX3_place_X3_wordOf : GoodIn wsX3_place (wsV RX3 88 RX3 yX3_wordOf wsX3_wordOf) := goodIn_app (goodIn_of _ (by decide +kernel)) ggX3_place_X3_wordOf
theorem dX3_place_0 : decode cX3_place 0 = .ok (.iload_n 2, 1) := by decide +kernel
theorem dX3_place_1 : decode cX3_place 1 = .ok (.iload_n 3, 1) := by decide +kernel
theorem dX3_place_2 : decode cX3_place 2 = .ok (.invokestatic 82, 3) := by decide +kernel
theorem dX3_place_5 : decode cX3_place 5 = .ok (.istore 4, 2) := by decide +kernel
theorem dX3_place_7 : decode cX3_place 7 = .ok (.aload_n 0, 1) := by decide +kernel
theorem dX3_place_8 : decode cX3_place 8 = .ok (.getfield 27, 3) := by decide +kernel
theorem dX3_place_11 : decode cX3_place 11 = .ok (.iload 4, 2) := by decide +kernel
theorem dX3_place_13 : decode cX3_place 13 = .ok (.iload_n 1, 1) := by decide +kernel
theorem dX3_place_14 : decode cX3_place 14 = .ok (.iconst 1, 1) := by decide +kernel
theorem dX3_place_15 : decode cX3_place 15 = .ok (.iadd, 1) := by decide +kernel
theorem dX3_place_16 : decode cX3_place 16 = .ok (.iastore, 1) := by decide +kernel
theorem dX3_place_17 : decode cX3_place 17 = .ok (.aload_n 0, 1) := by decide +kernel
theorem dX3_place_18 : decode cX3_place 18 = .ok (.getfield 27, 3) := by decide +kernel
theorem dX3_place_21 : decode cX3_place 21 = .ok (.iload 4, 2) := by decide +kernel
theorem dX3_place_23 : decode cX3_place 23 = .ok (.iconst 1, 1) := by decide +kernel
theorem dX3_place_24 : decode cX3_place 24 = .ok (.iadd, 1) := by decide +kernel
theorem dX3_place_25 : decode cX3_place 25 = .ok (.aload_n 0, 1) := by decide +kernel
theorem dX3_place_26 : decode cX3_place 26 = .ok (.getfield 38, 3) := by decide +kernel
theorem dX3_place_29 : decode cX3_place 29 = .ok (.iload_n 1, 1) := by decide +kernel
theorem dX3_place_30 : decode cX3_place 30 = .ok (.iaload, 1) := by decide +kernel
theorem dX3_place_31 : decode cX3_place 31 = .ok (.iastore, 1) := by decide +kernel
theorem dX3_place_32 : decode cX3_place 32 = .ok (.iconst 0, 1) := by decide +kernel
theorem dX3_place_33 : decode cX3_place 33 = .ok (.istore 5, 2) := by decide +kernel
theorem dX3_place_35 : decode cX3_place 35 = .ok (.iload 5, 2) := by decide +kernel
theorem dX3_place_37 : decode cX3_place 37 = .ok (.iconst 4, 1) := by decide +kernel
theorem dX3_place_38 : decode cX3_place 38 = .ok (.if_icmp .ge 28, 3) := by decide +kernel
theorem dX3_place_41 : decode cX3_place 41 = .ok (.aload_n 0, 1) := by decide +kernel
theorem dX3_place_42 : decode cX3_place 42 = .ok (.getfield 27, 3) := by decide +kernel
theorem dX3_place_45 : decode cX3_place 45 = .ok (.iload 4, 2) := by decide +kernel
theorem dX3_place_47 : decode cX3_place 47 = .ok (.iconst 2, 1) := by decide +kernel
theorem dX3_place_48 : decode cX3_place 48 = .ok (.iadd, 1) := by decide +kernel
theorem dX3_place_49 : decode cX3_place 49 = .ok (.iload 5, 2) := by decide +kernel
theorem dX3_place_51 : decode cX3_place 51 = .ok (.iadd, 1) := by decide +kernel
theorem dX3_place_52 : decode cX3_place 52 = .ok (.aload_n 0, 1) := by decide +kernel
theorem dX3_place_53 : decode cX3_place 53 = .ok (.iload_n 1, 1) := by decide +kernel
theorem dX3_place_54 : decode cX3_place 54 = .ok (.iload 5, 2) := by decide +kernel
theorem dX3_place_56 : decode cX3_place 56 = .ok (.invokevirtual 88, 3) := by decide +kernel
theorem dX3_place_59 : decode cX3_place 59 = .ok (.iastore, 1) := by decide +kernel
theorem dX3_place_60 : decode cX3_place 60 = .ok (.iinc 5 1, 3) := by decide +kernel
theorem dX3_place_63 : decode cX3_place 63 = .ok (.goto (-28), 3) := by decide +kernel
theorem dX3_place_66 : decode cX3_place 66 = .ok (.aload_n 0, 1) := by decide +kernel
theorem dX3_place_67 : decode cX3_place 67 = .ok (.getfield 34, 3) := by decide +kernel
theorem dX3_place_70 : decode cX3_place 70 = .ok (.iload_n 1, 1) := by decide +kernel
theorem dX3_place_71 : decode cX3_place 71 = .ok (.iconst 0, 1) := by decide +kernel
theorem dX3_place_72 : decode cX3_place 72 = .ok (.bastore, 1) := by decide +kernel
theorem dX3_place_73 : decode cX3_place 73 = .ok (.return_, 1) := by decide +kernel
set_option maxRecDepth 20000 in
theorem ggX3_unload_X3_maskWords : GoodIn wsX3_unload wsX3_maskWords := goodIn_r _ [6, 1, 7, 8, 9, 5, 10, 11, 12, 13, 14, 15, 16, 17, 18, 34, 35, 36, 37, 38, 39, 40, 41, 42, 43, 44] (by decide +kernel) (by decide +kernel)
set_option maxRecDepth 20000 in
theorem gX3_unload_X3_maskWords : GoodIn wsX3_unload (wsV RX3 91 RX3 yX3_maskWords wsX3_maskWords) := goodIn_app (goodIn_of _ (by decide +kernel)) ggX3_unload_X3_maskWords
set_option maxRecDepth 20000 in
theorem ggX3_unload_X3_slotStart : GoodIn wsX3_unload wsX3_slotStart := goodIn_r _ [21] (by decide +kernel) (by decide +kernel)
set_option maxRecDepth 20000 in
theorem gX3_unload_X3_slotStart : GoodIn wsX3_unload (va_wsS RX3 82 yX3_slotStart wsX3_slotStart) := goodIn_app (goodIn_of _ (by decide +kernel)) ggX3_unload_X3_slotStart
set_option maxRecDepth 20000 in
theorem ggX3_unload_X3_hold : GoodIn wsX3_unload wsX3_hold := goodIn_r _ [25, 1, 26, 27, 28, 29, 30, 31, 5, 32, 33, 34, 35, 36, 37, 38, 39, 40, 41, 42, 43, 44] (by decide +kernel) (by decide +kernel)
set_option maxRecDepth 20000 in
theorem gX3_unload_X3_hold : GoodIn wsX3_unload (wsV RX3 94 RX3 yX3_hold wsX3_hold) := goodIn_app (goodIn_of _ (by decide +kernel)) ggX3_unload_X3_hold
theorem dX3_unload_0 : decode cX3_unload 0 = .ok (.aload_n 0, 1) := by decide +kernel
theorem dX3_unload_1 : decode cX3_unload 1 = .ok (.iload_n 1, 1) := by decide +kernel
theorem dX3_unload_2 : decode cX3_unload 2 = .ok (.invokevirtual 91, 3) := by decide +kernel
theorem dX3_unload_5 : decode cX3_unload 5 = .ok (.iconst 0, 1) := by decide +kernel
theorem dX3_unload_6 : decode cX3_unload 6 = .ok (.istore_n 2, 1) := by decide +kernel
theorem dX3_unload_7 : decode cX3_unload 7 = .ok (.iload_n 2, 1) := by decide +kernel
theorem dX3_unload_8 : decode cX3_unload 8 = .ok (.iconst 4, 1) := by decide +kernel
theorem dX3_unload_9 : decode cX3_unload 9 = .ok (.if_icmp .ge 18, 3) := by decide +kernel
theorem dX3_unload_12 : decode cX3_unload 12 = .ok (.aload_n 0, 1) := by decide +kernel
theorem dX3_unload_13 : decode cX3_unload 13 = .ok (.iload_n 1, 1) := by decide +kernel
theorem dX3_unload_14 : decode cX3_unload 14 = .ok (.iload_n 2, 1) := by decide +kernel
theorem dX3_unload_15 : decode cX3_unload 15 = .ok (.invokestatic 82, 3) := by decide +kernel
theorem dX3_unload_18 : decode cX3_unload 18 = .ok (.invokevirtual 94, 3) := by decide +kernel
theorem dX3_unload_21 : decode cX3_unload 21 = .ok (.iinc 2 1, 3) := by decide +kernel
theorem dX3_unload_24 : decode cX3_unload 24 = .ok (.goto (-17), 3) := by decide +kernel
theorem dX3_unload_27 : decode cX3_unload 27 = .ok (.iload_n 1, 1) := by decide +kernel
theorem dX3_unload_28 : decode cX3_unload 28 = .ok (.bipush 25, 2) := by decide +kernel
theorem dX3_unload_30 : decode cX3_unload 30 = .ok (.imul, 1) := by decide +kernel
theorem dX3_unload_31 : decode cX3_unload 31 = .ok (.istore_n 2, 1) := by decide +kernel
theorem dX3_unload_32 : decode cX3_unload 32 = .ok (.iconst 0, 1) := by decide +kernel
theorem dX3_unload_33 : decode cX3_unload 33 = .ok (.istore_n 3, 1) := by decide +kernel
theorem dX3_unload_34 : decode cX3_unload 34 = .ok (.iload_n 3, 1) := by decide +kernel
theorem dX3_unload_35 : decode cX3_unload 35 = .ok (.bipush 25, 2) := by decide +kernel
theorem dX3_unload_37 : decode cX3_unload 37 = .ok (.if_icmp .ge 18, 3) := by decide +kernel
theorem dX3_unload_40 : decode cX3_unload 40 = .ok (.aload_n 0, 1) := by decide +kernel
theorem dX3_unload_41 : decode cX3_unload 41 = .ok (.getfield 27, 3) := by decide +kernel
theorem dX3_unload_44 : decode cX3_unload 44 = .ok (.iload_n 2, 1) := by decide +kernel
theorem dX3_unload_45 : decode cX3_unload 45 = .ok (.iload_n 3, 1) := by decide +kernel
theorem dX3_unload_46 : decode cX3_unload 46 = .ok (.iadd, 1) := by decide +kernel
theorem dX3_unload_47 : decode cX3_unload 47 = .ok (.iconst 0, 1) := by decide +kernel
theorem dX3_unload_48 : decode cX3_unload 48 = .ok (.iastore, 1) := by decide +kernel
theorem dX3_unload_49 : decode cX3_unload 49 = .ok (.iinc 3 1, 3) := by decide +kernel
theorem dX3_unload_52 : decode cX3_unload 52 = .ok (.goto (-18), 3) := by decide +kernel
theorem dX3_unload_55 : decode cX3_unload 55 = .ok (.return_, 1) := by decide +kernel
set_option maxRecDepth 20000 in
theorem ggX3_hold_X3_setWord : GoodIn wsX3_hold wsX3_setWord := goodIn_r _ [9, 10, 11, 12, 13, 14, 15, 16, 17, 18, 19, 20, 21] (by decide +kernel) (by decide +kernel)
set_option maxRecDepth 20000 in
theorem gX3_hold_X3_setWord : GoodIn wsX3_hold (wsV RX3 67 RX3 yX3_setWord wsX3_setWord) := goodIn_app (goodIn_of _ (by decide +kernel)) ggX3_hold_X3_setWord
theorem dX3_hold_0 : decode cX3_hold 0 = .ok (.aload_n 0, 1) := by decide +kernel
theorem dX3_hold_1 : decode cX3_hold 1 = .ok (.getfield 27, 3) := by decide +kernel
theorem dX3_hold_4 : decode cX3_hold 4 = .ok (.iload_n 1, 1) := by decide +kernel
theorem dX3_hold_5 : decode cX3_hold 5 = .ok (.iaload, 1) := by decide +kernel
theorem dX3_hold_6 : decode cX3_hold 6 = .ok (.iconst 1, 1) := by decide +kernel
theorem dX3_hold_7 : decode cX3_hold 7 = .ok (.isub, 1) := by decide +kernel
theorem dX3_hold_8 : decode cX3_hold 8 = .ok (.istore_n 2, 1) := by decide +kernel
theorem dX3_hold_9 : decode cX3_hold 9 = .ok (.iload_n 2, 1) := by decide +kernel
theorem dX3_hold_10 : decode cX3_hold 10 = .ok (.ifCond .lt 11, 3) := by decide +kernel
theorem dX3_hold_13 : decode cX3_hold 13 = .ok (.iload_n 2, 1) := by decide +kernel
theorem dX3_hold_14 : decode cX3_hold 14 = .ok (.aload_n 0, 1) := by decide +kernel
theorem dX3_hold_15 : decode cX3_hold 15 = .ok (.getfield 24, 3) := by decide +kernel
theorem dX3_hold_18 : decode cX3_hold 18 = .ok (.if_icmp .lt 4, 3) := by decide +kernel
theorem dX3_hold_21 : decode cX3_hold 21 = .ok (.return_, 1) := by decide +kernel
theorem dX3_hold_22 : decode cX3_hold 22 = .ok (.aload_n 0, 1) := by decide +kernel
theorem dX3_hold_23 : decode cX3_hold 23 = .ok (.getfield 34, 3) := by decide +kernel
theorem dX3_hold_26 : decode cX3_hold 26 = .ok (.iload_n 2, 1) := by decide +kernel
theorem dX3_hold_27 : decode cX3_hold 27 = .ok (.iconst 1, 1) := by decide +kernel
theorem dX3_hold_28 : decode cX3_hold 28 = .ok (.bastore, 1) := by decide +kernel
theorem dX3_hold_29 : decode cX3_hold 29 = .ok (.aload_n 0, 1) := by decide +kernel
theorem dX3_hold_30 : decode cX3_hold 30 = .ok (.getfield 38, 3) := by decide +kernel
theorem dX3_hold_33 : decode cX3_hold 33 = .ok (.iload_n 2, 1) := by decide +kernel
theorem dX3_hold_34 : decode cX3_hold 34 = .ok (.aload_n 0, 1) := by decide +kernel
theorem dX3_hold_35 : decode cX3_hold 35 = .ok (.getfield 27, 3) := by decide +kernel
theorem dX3_hold_38 : decode cX3_hold 38 = .ok (.iload_n 1, 1) := by decide +kernel
theorem dX3_hold_39 : decode cX3_hold 39 = .ok (.iconst 1, 1) := by decide +kernel
theorem dX3_hold_40 : decode cX3_hold 40 = .ok (.iadd, 1) := by decide +kernel
theorem dX3_hold_41 : decode cX3_hold 41 = .ok (.iaload, 1) := by decide +kernel
theorem dX3_hold_42 : decode cX3_hold 42 = .ok (.iastore, 1) := by decide +kernel
theorem dX3_hold_43 : decode cX3_hold 43 = .ok (.iconst 0, 1) := by decide +kernel
theorem dX3_hold_44 : decode cX3_hold 44 = .ok (.istore_n 3, 1) := by decide +kernel
theorem dX3_hold_45 : decode cX3_hold 45 = .ok (.iload_n 3, 1) := by decide +kernel
theorem dX3_hold_46 : decode cX3_hold 46 = .ok (.iconst 4, 1) := by decide +kernel
theorem dX3_hold_47 : decode cX3_hold 47 = .ok (.if_icmp .ge 25, 3) := by decide +kernel
theorem dX3_hold_50 : decode cX3_hold 50 = .ok (.aload_n 0, 1) := by decide +kernel
theorem dX3_hold_51 : decode cX3_hold 51 = .ok (.iload_n 2, 1) := by decide +kernel
theorem dX3_hold_52 : decode cX3_hold 52 = .ok (.iload_n 3, 1) := by decide +kernel
theorem dX3_hold_53 : decode cX3_hold 53 = .ok (.aload_n 0, 1) := by decide +kernel
theorem dX3_hold_54 : decode cX3_hold 54 = .ok (.getfield 27, 3) := by decide +kernel
theorem dX3_hold_57 : decode cX3_hold 57 = .ok (.iload_n 1, 1) := by decide +kernel
theorem dX3_hold_58 : decode cX3_hold 58 = .ok (.iconst 2, 1) := by decide +kernel
theorem dX3_hold_59 : decode cX3_hold 59 = .ok (.iadd, 1) := by decide +kernel
theorem dX3_hold_60 : decode cX3_hold 60 = .ok (.iload_n 3, 1) := by decide +kernel
theorem dX3_hold_61 : decode cX3_hold 61 = .ok (.iadd, 1) := by decide +kernel
theorem dX3_hold_62 : decode cX3_hold 62 = .ok (.iaload, 1) := by decide +kernel
theorem dX3_hold_63 : decode cX3_hold 63 = .ok (.invokevirtual 67, 3) := by decide +kernel
theorem dX3_hold_66 : decode cX3_hold 66 = .ok (.iinc 3 1, 3) := by decide +kernel
theorem dX3_hold_69 : decode cX3_hold 69 = .ok (.goto (-24), 3) := by decide +kernel
theorem dX3_hold_72 : decode cX3_hold 72 = .ok (.return_, 1) := by decide +kernel
theorem dX3_slotStart_0 : decode cX3_slotStart 0 = .ok (.iload_n 0, 1) := by decide +kernel
theorem dX3_slotStart_1 : decode cX3_slotStart 1 = .ok (.bipush 25, 2) := by decide +kernel
theorem dX3_slotStart_3 : decode cX3_slotStart 3 = .ok (.imul, 1) := by decide +kernel
theorem dX3_slotStart_4 : decode cX3_slotStart 4 = .ok (.iload_n 1, 1) := by decide +kernel
theorem dX3_slotStart_5 : decode cX3_slotStart 5 = .ok (.bipush 6, 2) := by decide +kernel
theorem dX3_slotStart_7 : decode cX3_slotStart 7 = .ok (.imul, 1) := by decide +kernel
theorem dX3_slotStart_8 : decode cX3_slotStart 8 = .ok (.iadd, 1) := by decide +kernel
theorem dX3_slotStart_9 : decode cX3_slotStart 9 = .ok (.ireturn, 1) := by decide +kernel
set_option maxRecDepth 20000 in
theorem ggX3_seal_X3_maskWords : GoodIn wsX3_seal wsX3_maskWords := goodIn_r _ [6, 1, 7, 8, 9, 5, 10, 11, 12, 13, 14, 15, 16, 17, 18, 24, 25, 26, 27, 28, 29, 30, 31, 32, 33, 34] (by decide +kernel) (by decide +kernel)
set_option maxRecDepth 20000 in
theorem gX3_seal_X3_maskWords : GoodIn wsX3_seal (wsV RX3 91 RX3 yX3_maskWords wsX3_maskWords) := goodIn_app (goodIn_of _ (by decide +kernel)) ggX3_seal_X3_maskWords
set_option maxRecDepth 20000 in
theorem ggX3_seal_X3_tagDue : GoodIn wsX3_seal wsX3_tagDue := goodIn_r _ [22, 1, 23, 7, 8, 9, 5, 10, 11, 12, 13, 14, 15, 16, 17, 18, 24, 25, 26, 27, 28, 29, 30, 31, 32, 33, 34] (by decide +kernel) (by decide +kernel)
set_option maxRecDepth 20000 in
theorem gX3_seal_X3_tagDue : GoodIn wsX3_seal (wsV RX3 97 RX3 yX3_tagDue wsX3_tagDue) := goodIn_app (goodIn_of _ (by decide +kernel)) ggX3_seal_X3_tagDue
theorem dX3_seal_0 : decode cX3_seal 0 = .ok (.aload_n 0, 1) := by decide +kernel
theorem dX3_seal_1 : decode cX3_seal 1 = .ok (.iload_n 1, 1) := by decide +kernel
theorem dX3_seal_2 : decode cX3_seal 2 = .ok (.invokevirtual 91, 3) := by decide +kernel
theorem dX3_seal_5 : decode cX3_seal 5 = .ok (.aload_n 0, 1) := by decide +kernel
theorem dX3_seal_6 : decode cX3_seal 6 = .ok (.getfield 27, 3) := by decide +kernel
theorem dX3_seal_9 : decode cX3_seal 9 = .ok (.iload_n 1, 1) := by decide +kernel
end
section
theorem dX3_seal_10 : decode cX3_seal 10 = .ok (.bipush 25, 2) := by decide +kernel
theorem dX3_seal_12 : decode cX3_seal 12 = .ok (.imul, 1) := by decide +kernel
theorem dX3_seal_13 : decode cX3_seal 13 = .ok (.bipush 24, 2) := by decide +kernel
theorem dX3_seal_15 : decode cX3_seal 15 = .ok (.iadd, 1) := by decide +kernel
theorem dX3_seal_16 : decode cX3_seal 16 = .ok (.aload_n 0, 1) := by decide +kernel
theorem dX3_seal_17 : decode cX3_seal 17 = .ok (.iload_n 1, 1) := by decide +kernel
theorem dX3_seal_18 : decode cX3_seal 18 = .ok (.invokevirtual 97, 3) := by decide +kernel
theorem dX3_seal_21 : decode cX3_seal 21 = .ok (.iastore, 1) := by decide +kernel
theorem dX3_seal_22 : decode cX3_seal 22 = .ok (.return_, 1) := by decide +kernel
set_option maxRecDepth 20000 in
theorem ggX3_isWhole_X3_tagDue : GoodIn wsX3_isWhole wsX3_tagDue := goodIn_r _ [6, 1, 7, 8, 9, 10, 5, 11, 12, 13, 14, 15, 16, 17, 18, 19, 20, 21, 22, 23, 24, 25, 26, 27, 28, 29, 30] (by decide +kernel) (by decide +kernel)
set_option maxRecDepth 20000 in
theorem gX3_isWhole_X3_tagDue : GoodIn wsX3_isWhole (wsV RX3 97 RX3 yX3_tagDue wsX3_tagDue) := goodIn_app (goodIn_of _ (by decide +kernel)) ggX3_isWhole_X3_tagDue
theorem dX3_isWhole_0 : decode cX3_isWhole 0 = .ok (.aload_n 0, 1) := by decide +kernel
theorem dX3_isWhole_1 : decode cX3_isWhole 1 = .ok (.getfield 27, 3) := by decide +kernel
theorem dX3_isWhole_4 : decode cX3_isWhole 4 = .ok (.iload_n 1, 1) := by decide +kernel
theorem dX3_isWhole_5 : decode cX3_isWhole 5 = .ok (.bipush 25, 2) := by decide +kernel
theorem dX3_isWhole_7 : decode cX3_isWhole 7 = .ok (.imul, 1) := by decide +kernel
theorem dX3_isWhole_8 : decode cX3_isWhole 8 = .ok (.bipush 24, 2) := by decide +kernel
theorem dX3_isWhole_10 : decode cX3_isWhole 10 = .ok (.iadd, 1) := by decide +kernel
theorem dX3_isWhole_11 : decode cX3_isWhole 11 = .ok (.iaload, 1) := by decide +kernel
theorem dX3_isWhole_12 : decode cX3_isWhole 12 = .ok (.aload_n 0, 1) := by decide +kernel
theorem dX3_isWhole_13 : decode cX3_isWhole 13 = .ok (.iload_n 1, 1) := by decide +kernel
theorem dX3_isWhole_14 : decode cX3_isWhole 14 = .ok (.invokevirtual 97, 3) := by decide +kernel
theorem dX3_isWhole_17 : decode cX3_isWhole 17 = .ok (.if_icmp .ne 7, 3) := by decide +kernel
theorem dX3_isWhole_20 : decode cX3_isWhole 20 = .ok (.iconst 1, 1) := by decide +kernel
theorem dX3_isWhole_21 : decode cX3_isWhole 21 = .ok (.goto 4, 3) := by decide +kernel
theorem dX3_isWhole_24 : decode cX3_isWhole 24 = .ok (.iconst 0, 1) := by decide +kernel
theorem dX3_isWhole_25 : decode cX3_isWhole 25 = .ok (.ireturn, 1) := by decide +kernel
set_option maxRecDepth 20000 in
theorem ggX3_maskWords_X3_pad : GoodIn wsX3_maskWords wsX3_pad := goodIn_r _ [6, 7, 8, 9, 10, 11, 12, 13, 14, 15, 16, 17, 18, 19, 20, 21, 22, 23, 24, 25] (by decide +kernel) (by decide +kernel)
set_option maxRecDepth 20000 in
theorem gX3_maskWords_X3_pad : GoodIn wsX3_maskWords (wsV RX3 101 RX3 yX3_pad wsX3_pad) := goodIn_app (goodIn_of _ (by decide +kernel)) ggX3_maskWords_X3_pad
theorem dX3_maskWords_0 : decode cX3_maskWords 0 = .ok (.iload_n 1, 1) := by decide +kernel
theorem dX3_maskWords_1 : decode cX3_maskWords 1 = .ok (.bipush 25, 2) := by decide +kernel
theorem dX3_maskWords_3 : decode cX3_maskWords 3 = .ok (.imul, 1) := by decide +kernel
theorem dX3_maskWords_4 : decode cX3_maskWords 4 = .ok (.istore_n 2, 1) := by decide +kernel
theorem dX3_maskWords_5 : decode cX3_maskWords 5 = .ok (.iconst 0, 1) := by decide +kernel
theorem dX3_maskWords_6 : decode cX3_maskWords 6 = .ok (.istore_n 3, 1) := by decide +kernel
theorem dX3_maskWords_7 : decode cX3_maskWords 7 = .ok (.iload_n 3, 1) := by decide +kernel
theorem dX3_maskWords_8 : decode cX3_maskWords 8 = .ok (.bipush 24, 2) := by decide +kernel
theorem dX3_maskWords_10 : decode cX3_maskWords 10 = .ok (.if_icmp .ge 26, 3) := by decide +kernel
theorem dX3_maskWords_13 : decode cX3_maskWords 13 = .ok (.aload_n 0, 1) := by decide +kernel
theorem dX3_maskWords_14 : decode cX3_maskWords 14 = .ok (.getfield 27, 3) := by decide +kernel
theorem dX3_maskWords_17 : decode cX3_maskWords 17 = .ok (.iload_n 2, 1) := by decide +kernel
theorem dX3_maskWords_18 : decode cX3_maskWords 18 = .ok (.iload_n 3, 1) := by decide +kernel
theorem dX3_maskWords_19 : decode cX3_maskWords 19 = .ok (.iadd, 1) := by decide +kernel
theorem dX3_maskWords_20 : decode cX3_maskWords 20 = .ok (.dup2, 1) := by decide +kernel
theorem dX3_maskWords_21 : decode cX3_maskWords 21 = .ok (.iaload, 1) := by decide +kernel
theorem dX3_maskWords_22 : decode cX3_maskWords 22 = .ok (.aload_n 0, 1) := by decide +kernel
theorem dX3_maskWords_23 : decode cX3_maskWords 23 = .ok (.iload_n 1, 1) := by decide +kernel
theorem dX3_maskWords_24 : decode cX3_maskWords 24 = .ok (.iload_n 3, 1) := by decide +kernel
theorem dX3_maskWords_25 : decode cX3_maskWords 25 = .ok (.invokevirtual 101, 3) := by decide +kernel
theorem dX3_maskWords_28 : decode cX3_maskWords 28 = .ok (.ixor, 1) := by decide +kernel
theorem dX3_maskWords_29 : decode cX3_maskWords 29 = .ok (.iastore, 1) := by decide +kernel
theorem dX3_maskWords_30 : decode cX3_maskWords 30 = .ok (.iinc 3 1, 3) := by decide +kernel
theorem dX3_maskWords_33 : decode cX3_maskWords 33 = .ok (.goto (-26), 3) := by decide +kernel
theorem dX3_maskWords_36 : decode cX3_maskWords 36 = .ok (.return_, 1) := by decide +kernel
set_option maxRecDepth 20000 in
theorem ggX3_tagDue_X3_pad : GoodIn wsX3_tagDue wsX3_pad := goodIn_r _ [7, 8, 9, 10, 11, 12, 13, 14, 15, 16, 17, 18, 19, 20, 21, 22, 23, 24, 25, 26] (by decide +kernel) (by decide +kernel)
set_option maxRecDepth 20000 in
theorem gX3_tagDue_X3_pad : GoodIn wsX3_tagDue (wsV RX3 101 RX3 yX3_pad wsX3_pad) := goodIn_app (goodIn_of _ (by decide +kernel)) ggX3_tagDue_X3_pad
theorem dX3_tagDue_0 : decode cX3_tagDue 0 = .ok (.iload_n 1, 1) := by decide +kernel
theorem dX3_tagDue_1 : decode cX3_tagDue 1 = .ok (.bipush 25, 2) := by decide +kernel
theorem dX3_tagDue_3 : decode cX3_tagDue 3 = .ok (.imul, 1) := by decide +kernel
theorem dX3_tagDue_4 : decode cX3_tagDue 4 = .ok (.istore_n 2, 1) := by decide +kernel
theorem dX3_tagDue_5 : decode cX3_tagDue 5 = .ok (.aload_n 0, 1) := by decide +kernel
theorem dX3_tagDue_6 : decode cX3_tagDue 6 = .ok (.iload_n 1, 1) := by decide +kernel
theorem dX3_tagDue_7 : decode cX3_tagDue 7 = .ok (.bipush 24, 2) := by decide +kernel
theorem dX3_tagDue_9 : decode cX3_tagDue 9 = .ok (.invokevirtual 101, 3) := by decide +kernel
theorem dX3_tagDue_12 : decode cX3_tagDue 12 = .ok (.istore_n 3, 1) := by decide +kernel
theorem dX3_tagDue_13 : decode cX3_tagDue 13 = .ok (.iconst 0, 1) := by decide +kernel
theorem dX3_tagDue_14 : decode cX3_tagDue 14 = .ok (.istore 4, 2) := by decide +kernel
theorem dX3_tagDue_16 : decode cX3_tagDue 16 = .ok (.iload 4, 2) := by decide +kernel
theorem dX3_tagDue_18 : decode cX3_tagDue 18 = .ok (.bipush 24, 2) := by decide +kernel
theorem dX3_tagDue_20 : decode cX3_tagDue 20 = .ok (.if_icmp .ge 24, 3) := by decide +kernel
theorem dX3_tagDue_23 : decode cX3_tagDue 23 = .ok (.iload_n 3, 1) := by decide +kernel
theorem dX3_tagDue_24 : decode cX3_tagDue 24 = .ok (.aload_n 0, 1) := by decide +kernel
theorem dX3_tagDue_25 : decode cX3_tagDue 25 = .ok (.getfield 27, 3) := by decide +kernel
theorem dX3_tagDue_28 : decode cX3_tagDue 28 = .ok (.iload_n 2, 1) := by decide +kernel
theorem dX3_tagDue_29 : decode cX3_tagDue 29 = .ok (.iload 4, 2) := by decide +kernel
theorem dX3_tagDue_31 : decode cX3_tagDue 31 = .ok (.iadd, 1) := by decide +kernel
theorem dX3_tagDue_32 : decode cX3_tagDue 32 = .ok (.iaload, 1) := by decide +kernel
theorem dX3_tagDue_33 : decode cX3_tagDue 33 = .ok (.ixor, 1) := by decide +kernel
theorem dX3_tagDue_34 : decode cX3_tagDue 34 = .ok (.ldc 104, 2) := by decide +kernel
theorem dX3_tagDue_36 : decode cX3_tagDue 36 = .ok (.imul, 1) := by decide +kernel
theorem dX3_tagDue_37 : decode cX3_tagDue 37 = .ok (.istore_n 3, 1) := by decide +kernel
theorem dX3_tagDue_38 : decode cX3_tagDue 38 = .ok (.iinc 4 1, 3) := by decide +kernel
theorem dX3_tagDue_41 : decode cX3_tagDue 41 = .ok (.goto (-25), 3) := by decide +kernel
theorem dX3_tagDue_44 : decode cX3_tagDue 44 = .ok (.iload_n 3, 1) := by decide +kernel
theorem dX3_tagDue_45 : decode cX3_tagDue 45 = .ok (.ireturn, 1) := by decide +kernel
theorem dX3_pad_0 : decode cX3_pad 0 = .ok (.aload_n 0, 1) := by decide +kernel
theorem dX3_pad_1 : decode cX3_pad 1 = .ok (.getfield 44, 3) := by decide +kernel
theorem dX3_pad_4 : decode cX3_pad 4 = .ok (.bipush 64, 2) := by decide +kernel
theorem dX3_pad_6 : decode cX3_pad 6 = .ok (.aload_n 0, 1) := by decide +kernel
theorem dX3_pad_7 : decode cX3_pad 7 = .ok (.getfield 9, 3) := by decide +kernel
theorem dX3_pad_10 : decode cX3_pad 10 = .ok (.imul, 1) := by decide +kernel
theorem dX3_pad_11 : decode cX3_pad 11 = .ok (.iload_n 1, 1) := by decide +kernel
theorem dX3_pad_12 : decode cX3_pad 12 = .ok (.iadd, 1) := by decide +kernel
theorem dX3_pad_13 : decode cX3_pad 13 = .ok (.iconst 1, 1) := by decide +kernel
theorem dX3_pad_14 : decode cX3_pad 14 = .ok (.iadd, 1) := by decide +kernel
theorem dX3_pad_15 : decode cX3_pad 15 = .ok (.ldc 105, 2) := by decide +kernel
theorem dX3_pad_17 : decode cX3_pad 17 = .ok (.imul, 1) := by decide +kernel
theorem dX3_pad_18 : decode cX3_pad 18 = .ok (.ixor, 1) := by decide +kernel
theorem dX3_pad_19 : decode cX3_pad 19 = .ok (.aload_n 0, 1) := by decide +kernel
theorem dX3_pad_20 : decode cX3_pad 20 = .ok (.getfield 31, 3) := by decide +kernel
theorem dX3_pad_23 : decode cX3_pad 23 = .ok (.iload_n 1, 1) := by decide +kernel
theorem dX3_pad_24 : decode cX3_pad 24 = .ok (.iaload, 1) := by decide +kernel
theorem dX3_pad_25 : decode cX3_pad 25 = .ok (.ldc 106, 2) := by decide +kernel
theorem dX3_pad_27 : decode cX3_pad 27 = .ok (.imul, 1) := by decide +kernel
theorem dX3_pad_28 : decode cX3_pad 28 = .ok (.ixor, 1) := by decide +kernel
theorem dX3_pad_29 : decode cX3_pad 29 = .ok (.iload_n 2, 1) := by decide +kernel
theorem dX3_pad_30 : decode cX3_pad 30 = .ok (.iconst 1, 1) := by decide +kernel
theorem dX3_pad_31 : decode cX3_pad 31 = .ok (.iadd, 1) := by decide +kernel
theorem dX3_pad_32 : decode cX3_pad 32 = .ok (.ldc 107, 2) := by decide +kernel
theorem dX3_pad_34 : decode cX3_pad 34 = .ok (.imul, 1) := by decide +kernel
theorem dX3_pad_35 : decode cX3_pad 35 = .ok (.ixor, 1) := by decide +kernel
theorem dX3_pad_36 : decode cX3_pad 36 = .ok (.istore_n 3, 1) := by decide +kernel
theorem dX3_pad_37 : decode cX3_pad 37 = .ok (.iload_n 3, 1) := by decide +kernel
theorem dX3_pad_38 : decode cX3_pad 38 = .ok (.iload_n 3, 1) := by decide +kernel
theorem dX3_pad_39 : decode cX3_pad 39 = .ok (.bipush 15, 2) := by decide +kernel
theorem dX3_pad_41 : decode cX3_pad 41 = .ok (.iushr, 1) := by decide +kernel
theorem dX3_pad_42 : decode cX3_pad 42 = .ok (.ixor, 1) := by decide +kernel
theorem dX3_pad_43 : decode cX3_pad 43 = .ok (.istore_n 3, 1) := by decide +kernel
theorem dX3_pad_44 : decode cX3_pad 44 = .ok (.iload_n 3, 1) := by decide +kernel
theorem dX3_pad_45 : decode cX3_pad 45 = .ok (.ldc 108, 2) := by decide +kernel
theorem dX3_pad_47 : decode cX3_pad 47 = .ok (.imul, 1) := by decide +kernel
theorem dX3_pad_48 : decode cX3_pad 48 = .ok (.istore_n 3, 1) := by decide +kernel
theorem dX3_pad_49 : decode cX3_pad 49 = .ok (.iload_n 3, 1) := by decide +kernel
theorem dX3_pad_50 : decode cX3_pad 50 = .ok (.iload_n 3, 1) := by decide +kernel
theorem dX3_pad_51 : decode cX3_pad 51 = .ok (.bipush 12, 2) := by decide +kernel
theorem dX3_pad_53 : decode cX3_pad 53 = .ok (.iushr, 1) := by decide +kernel
theorem dX3_pad_54 : decode cX3_pad 54 = .ok (.ixor, 1) := by decide +kernel
theorem dX3_pad_55 : decode cX3_pad 55 = .ok (.istore_n 3, 1) := by decide +kernel
theorem dX3_pad_56 : decode cX3_pad 56 = .ok (.iload_n 3, 1) := by decide +kernel
theorem dX3_pad_57 : decode cX3_pad 57 = .ok (.ldc 109, 2) := by decide +kernel
theorem dX3_pad_59 : decode cX3_pad 59 = .ok (.imul, 1) := by decide +kernel
theorem dX3_pad_60 : decode cX3_pad 60 = .ok (.istore_n 3, 1) := by decide +kernel
theorem dX3_pad_61 : decode cX3_pad 61 = .ok (.iload_n 3, 1) := by decide +kernel
theorem dX3_pad_62 : decode cX3_pad 62 = .ok (.iload_n 3, 1) := by decide +kernel
theorem dX3_pad_63 : decode cX3_pad 63 = .ok (.bipush 15, 2) := by decide +kernel
theorem dX3_pad_65 : decode cX3_pad 65 = .ok (.iushr, 1) := by decide +kernel
theorem dX3_pad_66 : decode cX3_pad 66 = .ok (.ixor, 1) := by decide +kernel
theorem dX3_pad_67 : decode cX3_pad 67 = .ok (.istore_n 3, 1) := by decide +kernel
theorem dX3_pad_68 : decode cX3_pad 68 = .ok (.iload_n 3, 1) := by decide +kernel
theorem dX3_pad_69 : decode cX3_pad 69 = .ok (.ireturn, 1) := by decide +kernel
set_option maxRecDepth 20000 in
theorem ggX4_init_X1_init : GoodIn wsX4_init wsX1_init := goodIn_r _ [24, 25, 2, 3] (by decide +kernel) (by decide +kernel)
set_option maxRecDepth 20000 in
theorem gX4_init_X1_init_n9 : GoodIn wsX4_init (wsX1_init) := ggX4_init_X1_init
set_option maxRecDepth 20000 in
theorem ggX4_init_X3_init : GoodIn wsX4_init wsX3_init := goodIn_r _ [28, 29, 2, 3, 30, 31, 32, 33, 34, 13, 35, 36, 37, 38, 39, 40, 161, 162, 163, 164, 165, 166, 167, 168, 169, 170, 171] (by decide +kernel) (by decide +kernel)
set_option maxRecDepth 20000 in
theorem gX4_init_X3_init : GoodIn wsX4_init (wsX3_init) := ggX4_init_X3_init
set_option maxRecDepth 20000 in
theorem ggX4_init_X0_init : GoodIn wsX4_init wsX0_init := goodIn_r _ [42, 43, 2, 3, 44, 45, 13, 46, 47, 37, 48, 172, 173, 174, 175] (by decide +kernel) (by decide +kernel)
set_option maxRecDepth 20000 in
theorem gX4_init_X0_init_n34 : GoodIn wsX4_init (wsX0_init) := ggX4_init_X0_init
set_option maxRecDepth 20000 in
theorem ggX4_init_X2_init : GoodIn wsX4_init wsX2_init := goodIn_r _ [50, 51, 2, 3, 13, 52, 53, 176, 177, 178] (by decide +kernel) (by decide +kernel)
set_option maxRecDepth 20000 in
theorem gX4_init_X2_init_n41 : GoodIn wsX4_init (wsX2_init) := ggX4_init_X2_init
set_option maxRecDepth 20000 in
theorem ggX4_init_X4_beginAnew : GoodIn wsX4_init wsX4_beginAnew := goodIn_r _ [58, 7, 11, 12, 18, 22, 59, 60, 61, 62, 6, 63, 64, 65, 66, 67, 10, 68, 69, 35, 36, 40, 34, 38, 70, 71, 72, 73, 74, 75, 76, 17, 77, 46, 48, 78, 79, 80, 81, 21, 82, 83, 84, 85, 86, 57, 87, 14, 88, 89, 90, 91, 92, 93, 94, 95, 39, 96, 97, 98, 99, 100, 101, 102, 103, 104, 105, 106, 107, 108, 109, 110, 111, 112, 113, 114, 33, 115, 116, 117, 118, 32, 119, 120, 121, 122, 31, 123, 124, 125, 126, 127, 128, 129, 130, 131, 132, 133, 134, 135, 136, 137, 138, 139, 140, 141, 142, 30, 143, 144, 145, 146, 147, 148, 149, 150, 151, 152, 154, 155, 156, 157, 158, 159, 160, 153, 161, 162, 163, 164, 165, 166, 167, 168, 169, 170, 171, 172, 173, 174, 175, 176, 177, 178] (by decide +kernel) (by decide +kernel)
set_option maxRecDepth 20000 in
theorem gX4_init_X4_beginAnew : GoodIn wsX4_init (wsV RX4 46 RX4 yX4_beginAnew wsX4_beginAnew) := goodIn_app (goodIn_of _ (by decide +kernel)) ggX4_init_X4_beginAnew
theorem dX4_init_0 : decode cX4_init 0 = .ok (.aload_n 0, 1) := by decide +kernel
theorem dX4_init_1 : decode cX4_init 1 = .ok (.invokespecial 1, 3) := by decide +kernel
theorem dX4_init_4 : decode cX4_init 4 = .ok (.aload_n 0, 1) := by decide +kernel
theorem dX4_init_5 : decode cX4_init 5 = .ok (.new 7, 3) := by decide +kernel
theorem dX4_init_8 : decode cX4_init 8 = .ok (.dup, 1) := by decide +kernel
theorem dX4_init_9 : decode cX4_init 9 = .ok (.invokespecial 9, 3) := by decide +kernel
theorem dX4_init_12 : decode cX4_init 12 = .ok (.putfield 10, 3) := by decide +kernel
theorem dX4_init_15 : decode cX4_init 15 = .ok (.aload_n 0, 1) := by decide +kernel
theorem dX4_init_16 : decode cX4_init 16 = .ok (.new 16, 3) := by decide +kernel
theorem dX4_init_19 : decode cX4_init 19 = .ok (.dup, 1) := by decide +kernel
theorem dX4_init_20 : decode cX4_init 20 = .ok (.iconst 0, 1) := by decide +kernel
theorem dX4_init_21 : decode cX4_init 21 = .ok (.iconst 2, 1) := by decide +kernel
theorem dX4_init_22 : decode cX4_init 22 = .ok (.bipush 8, 2) := by decide +kernel
theorem dX4_init_24 : decode cX4_init 24 = .ok (.invokespecial 18, 3) := by decide +kernel
theorem dX4_init_27 : decode cX4_init 27 = .ok (.putfield 21, 3) := by decide +kernel
theorem dX4_init_30 : decode cX4_init 30 = .ok (.aload_n 0, 1) := by decide +kernel
theorem dX4_init_31 : decode cX4_init 31 = .ok (.new 16, 3) := by decide +kernel
theorem dX4_init_34 : decode cX4_init 34 = .ok (.dup, 1) := by decide +kernel
theorem dX4_init_35 : decode cX4_init 35 = .ok (.iconst 1, 1) := by decide +kernel
theorem dX4_init_36 : decode cX4_init 36 = .ok (.iconst 5, 1) := by decide +kernel
theorem dX4_init_37 : decode cX4_init 37 = .ok (.bipush 64, 2) := by decide +kernel
theorem dX4_init_39 : decode cX4_init 39 = .ok (.invokespecial 18, 3) := by decide +kernel
theorem dX4_init_42 : decode cX4_init 42 = .ok (.putfield 25, 3) := by decide +kernel
theorem dX4_init_45 : decode cX4_init 45 = .ok (.aload_n 0, 1) := by decide +kernel
theorem dX4_init_46 : decode cX4_init 46 = .ok (.bipush 8, 2) := by decide +kernel
theorem dX4_init_48 : decode cX4_init 48 = .ok (.newarray .int, 2) := by decide +kernel
theorem dX4_init_50 : decode cX4_init 50 = .ok (.putfield 28, 3) := by decide +kernel
theorem dX4_init_53 : decode cX4_init 53 = .ok (.aload_n 0, 1) := by decide +kernel
theorem dX4_init_54 : decode cX4_init 54 = .ok (.new 32, 3) := by decide +kernel
theorem dX4_init_57 : decode cX4_init 57 = .ok (.dup, 1) := by decide +kernel
theorem dX4_init_58 : decode cX4_init 58 = .ok (.invokespecial 34, 3) := by decide +kernel
theorem dX4_init_61 : decode cX4_init 61 = .ok (.putfield 35, 3) := by decide +kernel
theorem dX4_init_64 : decode cX4_init 64 = .ok (.aload_n 0, 1) := by decide +kernel
theorem dX4_init_65 : decode cX4_init 65 = .ok (.new 39, 3) := by decide +kernel
theorem dX4_init_68 : decode cX4_init 68 = .ok (.dup, 1) := by decide +kernel
theorem dX4_init_69 : decode cX4_init 69 = .ok (.invokespecial 41, 3) := by decide +kernel
theorem dX4_init_72 : decode cX4_init 72 = .ok (.putfield 42, 3) := by decide +kernel
theorem dX4_init_75 : decode cX4_init 75 = .ok (.aload_n 0, 1) := by decide +kernel
theorem dX4_init_76 : decode cX4_init 76 = .ok (.iconst 1, 1) := by decide +kernel
theorem dX4_init_77 : decode cX4_init 77 = .ok (.iconst 0, 1) := by decide +kernel
theorem dX4_init_78 : decode cX4_init 78 = .ok (.invokevirtual 46, 3) := by decide +kernel
theorem dX4_init_81 : decode cX4_init 81 = .ok (.return_, 1) := by decide +kernel
set_option maxRecDepth 20000 in
theorem ggX4_start_X4_beginAnew : GoodIn wsX4_start wsX4_beginAnew := goodIn_r _ [5, 6, 7, 8, 9, 10, 11, 12, 13, 14, 15, 16, 17, 18, 19, 20, 21, 22, 23, 24, 25, 26, 27, 28, 29, 30, 31, 32, 33, 34, 35, 36, 37, 38, 39, 40, 41, 42, 43, 44, 45, 46, 47, 48, 49, 4, 50, 51, 52, 53, 54, 55, 56, 57, 58, 59, 60, 61, 62, 63, 64, 65, 66, 67, 68, 69, 70, 71, 72, 73, 74, 75, 76, 77, 78, 79, 80, 81, 82, 83, 84, 85, 86, 87, 88, 89, 90, 91, 92, 93, 94, 95, 96, 97, 98, 99, 100, 101, 102, 103, 104, 105, 106, 107, 108, 109, 110, 111, 112, 113, 114, 115, 116, 117, 118, 119, 120, 121, 122, 123, 124, 125, 126, 127, 128, 129, 130, 131, 132, 133, 134, 135, 136, 137, 138, 139, 140, 141, 142, 143, 144, 145, 146, 147] (by decide +kernel) (by decide +kernel)
set_option maxRecDepth 20000 in
theorem gX4_start_X4_beginAnew : GoodIn wsX4_start (wsV RX4 46 RX4 yX4_beginAnew wsX4_beginAnew) := goodIn_app (goodIn_of _ (by decide +kernel)) ggX4_start_X4_beginAnew
theorem dX4_start_0 : decode cX4_start 0 = .ok (.aload_n 0, 1) := by decide +kernel
theorem dX4_start_1 : decode cX4_start 1 = .ok (.iload_n 1, 1) := by decide +kernel
theorem dX4_start_2 : decode cX4_start 2 = .ok (.iload_n 2, 1) := by decide +kernel
theorem dX4_start_3 : decode cX4_start 3 = .ok (.invokevirtual 46, 3) := by decide +kernel
theorem dX4_start_6 : decode cX4_start 6 = .ok (.return_, 1) := by decide +kernel
set_option maxRecDepth 20000 in
theorem ggX4_create_X0_add : GoodIn wsX4_create wsX0_add := goodIn_r _ [6, 7, 8, 9, 10, 11, 5, 12, 13, 14, 15, 16, 24, 25, 26, 27] (by decide +kernel) (by decide +kernel)
set_option maxRecDepth 20000 in
theorem gX4_create_X0_add : GoodIn wsX4_create (wsV RX4 50 RX0 yX0_add wsX0_add) := goodIn_app (goodIn_of _ (by decide +kernel)) ggX4_create_X0_add
theorem dX4_create_0 : decode cX4_create 0 = .ok (.aload_n 0, 1) := by decide +kernel
theorem dX4_create_1 : decode cX4_create 1 = .ok (.getfield 35, 3) := by decide +kernel
theorem dX4_create_4 : decode cX4_create 4 = .ok (.lload_n 1, 1) := by decide +kernel
theorem dX4_create_5 : decode cX4_create 5 = .ok (.invokevirtual 50, 3) := by decide +kernel
theorem dX4_create_8 : decode cX4_create 8 = .ok (.ireturn, 1) := by decide +kernel
set_option maxRecDepth 20000 in
theorem ggX4_find_X0_numberOf : GoodIn wsX4_find wsX0_numberOf := goodIn_r _ [6, 7, 8, 16, 17, 18, 19] (by decide +kernel) (by decide +kernel)
set_option maxRecDepth 20000 in
theorem gX4_find_X0_numberOf : GoodIn wsX4_find (wsV RX4 54 RX0 yX0_numberOf wsX0_numberOf) := goodIn_app (goodIn_of _ (by decide +kernel)) ggX4_find_X0_numberOf
theorem dX4_find_0 : decode cX4_find 0 = .ok (.aload_n 0, 1) := by decide +kernel
theorem dX4_find_1 : decode cX4_find 1 = .ok (.getfield 35, 3) := by decide +kernel
theorem dX4_find_4 : decode cX4_find 4 = .ok (.lload_n 1, 1) := by decide +kernel
theorem dX4_find_5 : decode cX4_find 5 = .ok (.invokevirtual 54, 3) := by decide +kernel
theorem dX4_find_8 : decode cX4_find 8 = .ok (.ireturn, 1) := by decide +kernel
set_option maxRecDepth 20000 in
theorem ggX4_remove_X0_drop : GoodIn wsX4_remove wsX0_drop := goodIn_r _ [6, 7, 8, 9, 10, 11, 12, 5, 13, 14, 15, 16, 24, 25, 26, 27] (by decide +kernel) (by decide +kernel)
set_option maxRecDepth 20000 in
theorem gX4_remove_X0_drop : GoodIn wsX4_remove (wsV RX4 57 RX0 yX0_drop wsX0_drop) := goodIn_app (goodIn_of _ (by decide +kernel)) ggX4_remove_X0_drop
theorem dX4_remove_0 : decode cX4_remove 0 = .ok (.aload_n 0, 1) := by decide +kernel
theorem dX4_remove_1 : decode cX4_remove 1 = .ok (.getfield 35, 3) := by decide +kernel
theorem dX4_remove_4 : decode cX4_remove 4 = .ok (.iload_n 1, 1) := by decide +kernel
theorem dX4_remove_5 : decode cX4_remove 5 = .ok (.invokevirtual 57, 3) := by decide +kernel
theorem dX4_remove_8 : decode cX4_remove 8 = .ok (.ireturn, 1) := by decide +kernel
set_option maxRecDepth 20000 in
theorem ggX4_size_X0_lengthOf : GoodIn wsX4_size wsX0_lengthOf := goodIn_r _ [6, 7, 15, 16, 17, 18] (by decide +kernel) (by decide +kernel)
set_option maxRecDepth 20000 in
theorem gX4_size_X0_lengthOf : GoodIn wsX4_size (wsV RX4 61 RX0 yX0_lengthOf wsX0_lengthOf) := goodIn_app (goodIn_of _ (by decide +kernel)) ggX4_size_X0_lengthOf
theorem dX4_size_0 : decode cX4_size 0 = .ok (.aload_n 0, 1) := by decide +kernel
theorem dX4_size_1 : decode cX4_size 1 = .ok (.getfield 35, 3) := by decide +kernel
theorem dX4_size_4 : decode cX4_size 4 = .ok (.iload_n 1, 1) := by decide +kernel
theorem dX4_size_5 : decode cX4_size 5 = .ok (.invokevirtual 61, 3) := by decide +kernel
theorem dX4_size_8 : decode cX4_size 8 = .ok (.ireturn, 1) := by decide +kernel
set_option maxRecDepth 20000 in
theorem ggX4_write_X0_blockToWrite : GoodIn wsX4_write wsX0_blockToWrite := goodIn_r _ [11, 12, 13, 14, 15, 10, 16, 17, 18, 19, 20, 21, 22, 23, 24, 25, 26, 27, 28, 29, 167, 168, 169, 170] (by decide +kernel) (by decide +kernel)
set_option maxRecDepth 20000 in
theorem gX4_write_X0_blockToWrite : GoodIn wsX4_write (wsV RX4 65 RX0 yX0_blockToWrite wsX0_blockToWrite) := goodIn_app (goodIn_of _ (by decide +kernel)) ggX4_write_X0_blockToWrite
set_option maxRecDepth 20000 in
theorem ggX4_write_X4_openPathOf : GoodIn wsX4_write wsX4_openPathOf := goodIn_r _ [34, 35, 36, 37, 38, 39, 6, 40, 41, 42, 43, 44, 45, 46, 47, 48, 49, 50, 51, 52, 53, 54, 55, 56, 57, 58, 59, 60, 61, 62, 63, 64, 65, 66, 67, 68, 69, 70, 71, 72, 73, 74, 75, 76, 77, 78, 79, 80, 81, 82, 83, 84, 85, 86, 87, 88, 89, 90, 91, 92, 93, 94, 95, 96, 97, 98, 99, 100, 101, 102, 103, 104, 105, 106, 107, 108, 109, 110, 111, 112, 113, 114, 115, 116, 33, 117, 118, 119, 120, 121, 122, 123, 124, 125, 126, 127, 128, 129, 130, 131, 132, 133, 134, 135, 136, 137, 138, 139, 140, 141, 142, 143, 144, 145, 146, 147, 148, 149, 150, 160, 161, 162, 163, 164, 165, 166, 171, 172, 173, 174, 175, 176, 177, 178, 179, 180, 181, 182, 183, 184, 185] (by decide +kernel) (by decide +kernel)
set_option maxRecDepth 20000 in
theorem gX4_write_X4_openPathOf : GoodIn wsX4_write (wsV RX4 72 RX4 yX4_openPathOf wsX4_openPathOf) := goodIn_app (goodIn_of _ (by decide +kernel)) ggX4_write_X4_openPathOf
set_option maxRecDepth 20000 in
theorem ggX4_write_X0_opensPart : GoodIn wsX4_write wsX0_opensPart := goodIn_r _ [21, 13, 14, 15, 10, 16, 17, 167, 168, 169, 170] (by decide +kernel) (by decide +kernel)
set_option maxRecDepth 20000 in
theorem gX4_write_X0_opensPart : GoodIn wsX4_write (wsV RX4 78 RX0 yX0_opensPart wsX0_opensPart) := goodIn_app (goodIn_of _ (by decide +kernel)) ggX4_write_X0_opensPart
set_option maxRecDepth 20000 in
theorem ggX4_write_X3_clearWords : GoodIn wsX4_write wsX3_clearWords := goodIn_r _ [155, 105, 106, 107, 57, 108, 109, 175, 176, 177, 178, 179, 180, 181, 182, 183, 184, 185] (by decide +kernel) (by decide +kernel)
set_option maxRecDepth 20000 in
theorem gX4_write_X3_clearWords : GoodIn wsX4_write (wsV RX4 82 RX3 yX3_clearWords wsX3_clearWords) := goodIn_app (goodIn_of _ (by decide +kernel)) ggX4_write_X3_clearWords
set_option maxRecDepth 20000 in
theorem ggX4_write_X3_setWord : GoodIn wsX4_write wsX3_setWord := goodIn_r _ [108, 109, 175, 176, 177, 178, 179, 180, 181, 182, 183, 184, 185] (by decide +kernel) (by decide +kernel)
set_option maxRecDepth 20000 in
theorem gX4_write_X3_setWord : GoodIn wsX4_write (wsV RX4 86 RX3 yX3_setWord wsX3_setWord) := goodIn_app (goodIn_of _ (by decide +kernel)) ggX4_write_X3_setWord
set_option maxRecDepth 20000 in
theorem ggX4_write_X3_putBack : GoodIn wsX4_write wsX3_putBack := goodIn_r _ [133, 59, 82, 60, 61, 62, 57, 63, 64, 134, 135, 136, 137, 102, 103, 104, 138, 139, 140, 141, 69, 95, 96, 97, 142, 119, 120, 121, 109, 143, 144, 145, 146, 91, 92, 93, 94, 75, 76, 77, 78, 79, 80, 81, 83, 84, 85, 86, 70, 71, 72, 73, 74, 175, 176, 177, 178, 179, 180, 181, 182, 183, 184, 185] (by decide +kernel) (by decide +kernel)
set_option maxRecDepth 20000 in
theorem gX4_write_X3_putBack : GoodIn wsX4_write (wsV RX4 89 RX3 yX3_putBack wsX3_putBack) := goodIn_app (goodIn_of _ (by decide +kernel)) ggX4_write_X3_putBack
set_option maxRecDepth 20000 in
theorem ggX4_write_X0_noteWritten : GoodIn wsX4_write wsX0_noteWritten := goodIn_r _ [159, 12, 26, 17, 18, 19, 20, 10, 21, 13, 14, 15, 16, 27, 28, 29, 167, 168, 169, 170] (by decide +kernel) (by decide +kernel)
set_option maxRecDepth 20000 in
theorem gX4_write_X0_noteWritten : GoodIn wsX4_write (wsV RX4 92 RX0 yX0_noteWritten wsX0_noteWritten) := goodIn_app (goodIn_of _ (by decide +kernel)) ggX4_write_X0_noteWritten
theorem dX4_write_0 : decode cX4_write 0 = .ok (.aload_n 0, 1) := by decide +kernel
theorem dX4_write_1 : decode cX4_write 1 = .ok (.getfield 35, 3) := by decide +kernel
theorem dX4_write_4 : decode cX4_write 4 = .ok (.iload_n 1, 1) := by decide +kernel
theorem dX4_write_5 : decode cX4_write 5 = .ok (.iload_n 2, 1) := by decide +kernel
theorem dX4_write_6 : decode cX4_write 6 = .ok (.invokevirtual 65, 3) := by decide +kernel
theorem dX4_write_9 : decode cX4_write 9 = .ok (.istore 4, 2) := by decide +kernel
theorem dX4_write_11 : decode cX4_write 11 = .ok (.iload 4, 2) := by decide +kernel
theorem dX4_write_13 : decode cX4_write 13 = .ok (.iconst (-1), 1) := by decide +kernel
theorem dX4_write_14 : decode cX4_write 14 = .ok (.if_icmp .ne 11, 3) := by decide +kernel
theorem dX4_write_17 : decode cX4_write 17 = .ok (.new 69, 3) := by decide +kernel
theorem dX4_write_20 : decode cX4_write 20 = .ok (.dup, 1) := by decide +kernel
theorem dX4_write_21 : decode cX4_write 21 = .ok (.invokespecial 71, 3) := by decide +kernel
theorem dX4_write_24 : decode cX4_write 24 = .ok (.athrow, 1) := by decide +kernel
theorem dX4_write_25 : decode cX4_write 25 = .ok (.aload_n 0, 1) := by decide +kernel
theorem dX4_write_26 : decode cX4_write 26 = .ok (.iload 4, 2) := by decide +kernel
theorem dX4_write_28 : decode cX4_write 28 = .ok (.invokevirtual 72, 3) := by decide +kernel
theorem dX4_write_31 : decode cX4_write 31 = .ok (.istore 5, 2) := by decide +kernel
theorem dX4_write_33 : decode cX4_write 33 = .ok (.iload 5, 2) := by decide +kernel
theorem dX4_write_35 : decode cX4_write 35 = .ok (.iconst (-1), 1) := by decide +kernel
theorem dX4_write_36 : decode cX4_write 36 = .ok (.if_icmp .ne 11, 3) := by decide +kernel
theorem dX4_write_39 : decode cX4_write 39 = .ok (.new 75, 3) := by decide +kernel
theorem dX4_write_42 : decode cX4_write 42 = .ok (.dup, 1) := by decide +kernel
theorem dX4_write_43 : decode cX4_write 43 = .ok (.invokespecial 77, 3) := by decide +kernel
theorem dX4_write_46 : decode cX4_write 46 = .ok (.athrow, 1) := by decide +kernel
theorem dX4_write_47 : decode cX4_write 47 = .ok (.aload_n 0, 1) := by decide +kernel
theorem dX4_write_48 : decode cX4_write 48 = .ok (.getfield 35, 3) := by decide +kernel
theorem dX4_write_51 : decode cX4_write 51 = .ok (.iload_n 1, 1) := by decide +kernel
theorem dX4_write_52 : decode cX4_write 52 = .ok (.iload_n 2, 1) := by decide +kernel
theorem dX4_write_53 : decode cX4_write 53 = .ok (.invokevirtual 78, 3) := by decide +kernel
theorem dX4_write_56 : decode cX4_write 56 = .ok (.ifCond .eq 12, 3) := by decide +kernel
theorem dX4_write_59 : decode cX4_write 59 = .ok (.aload_n 0, 1) := by decide +kernel
theorem dX4_write_60 : decode cX4_write 60 = .ok (.getfield 25, 3) := by decide +kernel
theorem dX4_write_63 : decode cX4_write 63 = .ok (.iload 4, 2) := by decide +kernel
theorem dX4_write_65 : decode cX4_write 65 = .ok (.invokevirtual 82, 3) := by decide +kernel
theorem dX4_write_68 : decode cX4_write 68 = .ok (.aload_n 0, 1) := by decide +kernel
theorem dX4_write_69 : decode cX4_write 69 = .ok (.getfield 25, 3) := by decide +kernel
theorem dX4_write_72 : decode cX4_write 72 = .ok (.iload 4, 2) := by decide +kernel
theorem dX4_write_74 : decode cX4_write 74 = .ok (.iload_n 2, 1) := by decide +kernel
theorem dX4_write_75 : decode cX4_write 75 = .ok (.iconst 4, 1) := by decide +kernel
theorem dX4_write_76 : decode cX4_write 76 = .ok (.irem, 1) := by decide +kernel
theorem dX4_write_77 : decode cX4_write 77 = .ok (.iload_n 3, 1) := by decide +kernel
theorem dX4_write_78 : decode cX4_write 78 = .ok (.invokevirtual 86, 3) := by decide +kernel
theorem dX4_write_81 : decode cX4_write 81 = .ok (.aload_n 0, 1) := by decide +kernel
theorem dX4_write_82 : decode cX4_write 82 = .ok (.getfield 25, 3) := by decide +kernel
theorem dX4_write_85 : decode cX4_write 85 = .ok (.iload 5, 2) := by decide +kernel
theorem dX4_write_87 : decode cX4_write 87 = .ok (.invokevirtual 89, 3) := by decide +kernel
theorem dX4_write_90 : decode cX4_write 90 = .ok (.aload_n 0, 1) := by decide +kernel
theorem dX4_write_91 : decode cX4_write 91 = .ok (.getfield 35, 3) := by decide +kernel
theorem dX4_write_94 : decode cX4_write 94 = .ok (.iload_n 1, 1) := by decide +kernel
theorem dX4_write_95 : decode cX4_write 95 = .ok (.iload_n 2, 1) := by decide +kernel
theorem dX4_write_96 : decode cX4_write 96 = .ok (.iload 4, 2) := by decide +kernel
theorem dX4_write_98 : decode cX4_write 98 = .ok (.invokevirtual 92, 3) := by decide +kernel
theorem dX4_write_101 : decode cX4_write 101 = .ok (.return_, 1) := by decide +kernel
set_option maxRecDepth 20000 in
theorem ggX4_read_X0_blockToRead : GoodIn wsX4_read wsX0_blockToRead := goodIn_r _ [11, 12, 13, 14, 15, 10, 16, 17, 18, 19, 20, 149, 150, 151, 152] (by decide +kernel) (by decide +kernel)
set_option maxRecDepth 20000 in
theorem gX4_read_X0_blockToRead : GoodIn wsX4_read (wsV RX4 95 RX0 yX0_blockToRead wsX0_blockToRead) := goodIn_app (goodIn_of _ (by decide +kernel)) ggX4_read_X0_blockToRead
set_option maxRecDepth 20000 in
theorem ggX4_read_X4_openPathOf : GoodIn wsX4_read wsX4_openPathOf := goodIn_r _ [25, 26, 27, 28, 29, 30, 6, 31, 32, 33, 34, 35, 36, 37, 38, 39, 40, 41, 42, 43, 44, 45, 46, 47, 48, 49, 50, 51, 52, 53, 54, 55, 56, 57, 58, 59, 60, 61, 62, 63, 64, 65, 66, 67, 68, 69, 70, 71, 72, 73, 74, 75, 76, 77, 78, 79, 80, 81, 82, 83, 84, 85, 86, 87, 88, 89, 90, 91, 92, 93, 94, 95, 96, 97, 98, 99, 100, 101, 102, 103, 104, 105, 106, 107, 24, 108, 109, 110, 111, 112, 113, 114, 115, 116, 117, 118, 119, 120, 121, 122, 123, 124, 125, 126, 127, 128, 129, 130, 131, 132, 133, 134, 135, 136, 137, 138, 139, 140, 141, 142, 143, 144, 145, 146, 147, 148, 153, 154, 155, 156, 157, 158, 159, 160, 161, 162, 163, 164, 165, 166, 167] (by decide +kernel) (by decide +kernel)
set_option maxRecDepth 20000 in
theorem gX4_read_X4_openPathOf : GoodIn wsX4_read (wsV RX4 72 RX4 yX4_openPathOf wsX4_openPathOf) := goodIn_app (goodIn_of _ (by decide +kernel)) ggX4_read_X4_openPathOf
set_option maxRecDepth 20000 in
theorem ggX4_read_X3_wordOf : GoodIn wsX4_read wsX3_wordOf := goodIn_r _ [112, 100, 157, 158, 159, 160, 161, 162, 163, 164, 165, 166, 167] (by decide +kernel) (by decide +kernel)
set_option maxRecDepth 20000 in
theorem gX4_read_X3_wordOf : GoodIn wsX4_read (wsV RX4 98 RX3 yX3_wordOf wsX3_wordOf) := goodIn_app (goodIn_of _ (by decide +kernel)) ggX4_read_X3_wordOf
set_option maxRecDepth 20000 in
theorem ggX4_read_X3_putBack : GoodIn wsX4_read wsX3_putBack := goodIn_r _ [124, 50, 73, 51, 52, 53, 48, 54, 55, 125, 126, 127, 128, 93, 94, 95, 129, 130, 131, 132, 60, 86, 87, 88, 133, 110, 111, 112, 100, 134, 135, 136, 137, 82, 83, 84, 85, 66, 67, 68, 69, 70, 71, 72, 74, 75, 76, 77, 61, 62, 63, 64, 65, 157, 158, 159, 160, 161, 162, 163, 164, 165, 166, 167] (by decide +kernel) (by decide +kernel)
set_option maxRecDepth 20000 in
theorem gX4_read_X3_putBack : GoodIn wsX4_read (wsV RX4 89 RX3 yX3_putBack wsX3_putBack) := goodIn_app (goodIn_of _ (by decide +kernel)) ggX4_read_X3_putBack
theorem dX4_read_0 : decode cX4_read 0 = .ok (.aload_n 0, 1) := by decide +kernel
theorem dX4_read_1 : decode cX4_read 1 = .ok (.getfield 35, 3) := by decide +kernel
theorem dX4_read_4 : decode cX4_read 4 = .ok (.iload_n 1, 1) := by decide +kernel
theorem dX4_read_5 : decode cX4_read 5 = .ok (.iload_n 2, 1) := by decide +kernel
theorem dX4_read_6 : decode cX4_read 6 = .ok (.invokevirtual 95, 3) := by decide +kernel
theorem dX4_read_9 : decode cX4_read 9 = .ok (.istore_n 3, 1) := by decide +kernel
theorem dX4_read_10 : decode cX4_read 10 = .ok (.iload_n 3, 1) := by decide +kernel
theorem dX4_read_11 : decode cX4_read 11 = .ok (.iconst (-1), 1) := by decide +kernel
theorem dX4_read_12 : decode cX4_read 12 = .ok (.if_icmp .ne 11, 3) := by decide +kernel
theorem dX4_read_15 : decode cX4_read 15 = .ok (.new 69, 3) := by decide +kernel
theorem dX4_read_18 : decode cX4_read 18 = .ok (.dup, 1) := by decide +kernel
theorem dX4_read_19 : decode cX4_read 19 = .ok (.invokespecial 71, 3) := by decide +kernel
theorem dX4_read_22 : decode cX4_read 22 = .ok (.athrow, 1) := by decide +kernel
theorem dX4_read_23 : decode cX4_read 23 = .ok (.aload_n 0, 1) := by decide +kernel
theorem dX4_read_24 : decode cX4_read 24 = .ok (.iload_n 3, 1) := by decide +kernel
theorem dX4_read_25 : decode cX4_read 25 = .ok (.invokevirtual 72, 3) := by decide +kernel
theorem dX4_read_28 : decode cX4_read 28 = .ok (.istore 4, 2) := by decide +kernel
theorem dX4_read_30 : decode cX4_read 30 = .ok (.iload 4, 2) := by decide +kernel
theorem dX4_read_32 : decode cX4_read 32 = .ok (.iconst (-1), 1) := by decide +kernel
theorem dX4_read_33 : decode cX4_read 33 = .ok (.if_icmp .ne 11, 3) := by decide +kernel
theorem dX4_read_36 : decode cX4_read 36 = .ok (.new 75, 3) := by decide +kernel
theorem dX4_read_39 : decode cX4_read 39 = .ok (.dup, 1) := by decide +kernel
theorem dX4_read_40 : decode cX4_read 40 = .ok (.invokespecial 77, 3) := by decide +kernel
theorem dX4_read_43 : decode cX4_read 43 = .ok (.athrow, 1) := by decide +kernel
theorem dX4_read_44 : decode cX4_read 44 = .ok (.aload_n 0, 1) := by decide +kernel
theorem dX4_read_45 : decode cX4_read 45 = .ok (.getfield 25, 3) := by decide +kernel
theorem dX4_read_48 : decode cX4_read 48 = .ok (.iload_n 3, 1) := by decide +kernel
theorem dX4_read_49 : decode cX4_read 49 = .ok (.iload_n 2, 1) := by decide +kernel
theorem dX4_read_50 : decode cX4_read 50 = .ok (.iconst 4, 1) := by decide +kernel
theorem dX4_read_51 : decode cX4_read 51 = .ok (.irem, 1) := by decide +kernel
theorem dX4_read_52 : decode cX4_read 52 = .ok (.invokevirtual 98, 3) := by decide +kernel
theorem dX4_read_55 : decode cX4_read 55 = .ok (.istore 5, 2) := by decide +kernel
theorem dX4_read_57 : decode cX4_read 57 = .ok (.aload_n 0, 1) := by decide +kernel
theorem dX4_read_58 : decode cX4_read 58 = .ok (.getfield 25, 3) := by decide +kernel
theorem dX4_read_61 : decode cX4_read 61 = .ok (.iload 4, 2) := by decide +kernel
theorem dX4_read_63 : decode cX4_read 63 = .ok (.invokevirtual 89, 3) := by decide +kernel
theorem dX4_read_66 : decode cX4_read 66 = .ok (.iload 5, 2) := by decide +kernel
theorem dX4_read_68 : decode cX4_read 68 = .ok (.ireturn, 1) := by decide +kernel
set_option maxRecDepth 20000 in
theorem ggX4_idle_X1_draw : GoodIn wsX4_idle wsX1_draw := goodIn_r _ [9, 10, 132] (by decide +kernel) (by decide +kernel)
set_option maxRecDepth 20000 in
theorem gX4_idle_X1_draw : GoodIn wsX4_idle (wsV RX4 101 RX1 yX1_draw wsX1_draw) := goodIn_app (goodIn_of _ (by decide +kernel)) ggX4_idle_X1_draw
set_option maxRecDepth 20000 in
theorem ggX4_idle_X4_openPathOf : GoodIn wsX4_idle wsX4_openPathOf := goodIn_r _ [15, 16, 17, 3, 18, 19, 4, 5, 6, 7, 8, 9, 10, 20, 21, 22, 23, 24, 25, 26, 27, 28, 29, 30, 31, 32, 33, 34, 35, 36, 37, 38, 39, 40, 41, 42, 43, 44, 45, 46, 47, 48, 49, 50, 51, 52, 53, 54, 55, 56, 57, 58, 59, 60, 61, 62, 63, 64, 65, 66, 67, 68, 69, 70, 71, 72, 73, 74, 75, 76, 77, 78, 79, 80, 81, 82, 83, 84, 85, 86, 87, 88, 89, 90, 14, 91, 92, 93, 94, 95, 96, 97, 98, 99, 100, 101, 102, 103, 104, 105, 106, 107, 108, 109, 110, 111, 112, 113, 114, 115, 116, 117, 118, 119, 120, 121, 122, 123, 124, 125, 126, 127, 128, 129, 130, 131, 132, 133, 134, 135, 136, 137, 138, 139, 140, 141, 142, 143, 144, 145, 146] (by decide +kernel) (by decide +kernel)
set_option maxRecDepth 20000 in
theorem gX4_idle_X4_openPathOf : GoodIn wsX4_idle (wsV RX4 72 RX4 yX4_openPathOf wsX4_openPathOf) := goodIn_app (goodIn_of _ (by decide +kernel)) ggX4_idle_X4_openPathOf
set_option maxRecDepth 20000 in
theorem ggX4_idle_X3_putBack : GoodIn wsX4_idle wsX3_putBack := goodIn_r _ [107, 33, 56, 34, 35, 36, 31, 37, 38, 108, 109, 110, 111, 76, 77, 78, 112, 113, 114, 115, 43, 69, 70, 71, 116, 93, 94, 95, 83, 117, 118, 119, 120, 65, 66, 67, 68, 49, 50, 51, 52, 53, 54, 55, 57, 58, 59, 60, 44, 45, 46, 47, 48, 136, 137, 138, 139, 140, 141, 142, 143, 144, 145, 146] (by decide +kernel) (by decide +kernel)
set_option maxRecDepth 20000 in
theorem gX4_idle_X3_putBack : GoodIn wsX4_idle (wsV RX4 89 RX3 yX3_putBack wsX3_putBack) := goodIn_app (goodIn_of _ (by decide +kernel)) ggX4_idle_X3_putBack
theorem dX4_idle_0 : decode cX4_idle 0 = .ok (.aload_n 0, 1) := by decide +kernel
theorem dX4_idle_1 : decode cX4_idle 1 = .ok (.aload_n 0, 1) := by decide +kernel
theorem dX4_idle_2 : decode cX4_idle 2 = .ok (.getfield 10, 3) := by decide +kernel
theorem dX4_idle_5 : decode cX4_idle 5 = .ok (.bipush 6, 2) := by decide +kernel
theorem dX4_idle_7 : decode cX4_idle 7 = .ok (.invokevirtual 101, 3) := by decide +kernel
theorem dX4_idle_10 : decode cX4_idle 10 = .ok (.invokevirtual 72, 3) := by decide +kernel
theorem dX4_idle_13 : decode cX4_idle 13 = .ok (.istore_n 1, 1) := by decide +kernel
theorem dX4_idle_14 : decode cX4_idle 14 = .ok (.iload_n 1, 1) := by decide +kernel
theorem dX4_idle_15 : decode cX4_idle 15 = .ok (.iconst (-1), 1) := by decide +kernel
theorem dX4_idle_16 : decode cX4_idle 16 = .ok (.if_icmp .ne 11, 3) := by decide +kernel
theorem dX4_idle_19 : decode cX4_idle 19 = .ok (.new 75, 3) := by decide +kernel
theorem dX4_idle_22 : decode cX4_idle 22 = .ok (.dup, 1) := by decide +kernel
theorem dX4_idle_23 : decode cX4_idle 23 = .ok (.invokespecial 77, 3) := by decide +kernel
theorem dX4_idle_26 : decode cX4_idle 26 = .ok (.athrow, 1) := by decide +kernel
theorem dX4_idle_27 : decode cX4_idle 27 = .ok (.aload_n 0, 1) := by decide +kernel
theorem dX4_idle_28 : decode cX4_idle 28 = .ok (.getfield 25, 3) := by decide +kernel
theorem dX4_idle_31 : decode cX4_idle 31 = .ok (.iload_n 1, 1) := by decide +kernel
theorem dX4_idle_32 : decode cX4_idle 32 = .ok (.invokevirtual 89, 3) := by decide +kernel
theorem dX4_idle_35 : decode cX4_idle 35 = .ok (.return_, 1) := by decide +kernel
set_option maxRecDepth 20000 in
theorem ggX4_sealed_X4_treeNumbered : GoodIn wsX4_sealed wsX4_treeNumbered := goodIn_r _ [7, 8, 9, 25, 26, 27, 28, 29, 30, 31] (by decide +kernel) (by decide +kernel)
set_option maxRecDepth 20000 in
theorem gX4_sealed_X4_treeNumbered : GoodIn wsX4_sealed (wsV RX4 104 RX4 yX4_treeNumbered wsX4_treeNumbered) := goodIn_app (goodIn_of _ (by decide +kernel)) ggX4_sealed_X4_treeNumbered
set_option maxRecDepth 20000 in
theorem ggX4_sealed_X3_hasStored : GoodIn wsX4_sealed wsX3_hasStored := goodIn_r _ [14, 15, 16, 17, 13, 18, 19, 32, 33, 34, 35, 36, 37, 38, 39, 40, 41, 42] (by decide +kernel) (by decide +kernel)
set_option maxRecDepth 20000 in
theorem gX4_sealed_X3_hasStored : GoodIn wsX4_sealed (wsV RX4 108 RX3 yX3_hasStored wsX3_hasStored) := goodIn_app (goodIn_of _ (by decide +kernel)) ggX4_sealed_X3_hasStored
set_option maxRecDepth 20000 in
theorem ggX4_sealed_X3_storedWord : GoodIn wsX4_sealed wsX3_storedWord := goodIn_r _ [23, 24, 32, 33, 34, 35, 36, 37, 38, 39, 40, 41, 42] (by decide +kernel) (by decide +kernel)
set_option maxRecDepth 20000 in
theorem gX4_sealed_X3_storedWord : GoodIn wsX4_sealed (wsV RX4 111 RX3 yX3_storedWord wsX3_storedWord) := goodIn_app (goodIn_of _ (by decide +kernel)) ggX4_sealed_X3_storedWord
theorem dX4_sealed_0 : decode cX4_sealed 0 = .ok (.aload_n 0, 1) := by decide +kernel
theorem dX4_sealed_1 : decode cX4_sealed 1 = .ok (.iload_n 1, 1) := by decide +kernel
theorem dX4_sealed_2 : decode cX4_sealed 2 = .ok (.invokevirtual 104, 3) := by decide +kernel
theorem dX4_sealed_5 : decode cX4_sealed 5 = .ok (.astore 4, 2) := by decide +kernel
theorem dX4_sealed_7 : decode cX4_sealed 7 = .ok (.aload 4, 2) := by decide +kernel
theorem dX4_sealed_9 : decode cX4_sealed 9 = .ok (.ifnull 13, 3) := by decide +kernel
theorem dX4_sealed_12 : decode cX4_sealed 12 = .ok (.aload 4, 2) := by decide +kernel
theorem dX4_sealed_14 : decode cX4_sealed 14 = .ok (.iload_n 2, 1) := by decide +kernel
theorem dX4_sealed_15 : decode cX4_sealed 15 = .ok (.iload_n 3, 1) := by decide +kernel
theorem dX4_sealed_16 : decode cX4_sealed 16 = .ok (.invokevirtual 108, 3) := by decide +kernel
theorem dX4_sealed_19 : decode cX4_sealed 19 = .ok (.ifCond .ne 11, 3) := by decide +kernel
theorem dX4_sealed_22 : decode cX4_sealed 22 = .ok (.new 69, 3) := by decide +kernel
theorem dX4_sealed_25 : decode cX4_sealed 25 = .ok (.dup, 1) := by decide +kernel
theorem dX4_sealed_26 : decode cX4_sealed 26 = .ok (.invokespecial 71, 3) := by decide +kernel
theorem dX4_sealed_29 : decode cX4_sealed 29 = .ok (.athrow, 1) := by decide +kernel
theorem dX4_sealed_30 : decode cX4_sealed 30 = .ok (.aload 4, 2) := by decide +kernel
theorem dX4_sealed_32 : decode cX4_sealed 32 = .ok (.iload_n 2, 1) := by decide +kernel
theorem dX4_sealed_33 : decode cX4_sealed 33 = .ok (.iload_n 3, 1) := by decide +kernel
theorem dX4_sealed_34 : decode cX4_sealed 34 = .ok (.invokevirtual 111, 3) := by decide +kernel
theorem dX4_sealed_37 : decode cX4_sealed 37 = .ok (.ireturn, 1) := by decide +kernel
set_option maxRecDepth 20000 in
theorem ggX4_alter_X4_treeNumbered : GoodIn wsX4_alter wsX4_treeNumbered := goodIn_r _ [5, 6, 7, 44, 45, 46, 47, 48, 49, 50] (by decide +kernel) (by decide +kernel)
set_option maxRecDepth 20000 in
theorem gX4_alter_X4_treeNumbered : GoodIn wsX4_alter (wsV RX4 104 RX4 yX4_treeNumbered wsX4_treeNumbered) := goodIn_app (goodIn_of _ (by decide +kernel)) ggX4_alter_X4_treeNumbered
set_option maxRecDepth 20000 in
theorem ggX4_alter_X3_hasStored : GoodIn wsX4_alter wsX3_hasStored := goodIn_r _ [12, 13, 14, 15, 11, 16, 17, 51, 52, 53, 54, 55, 56, 57, 58, 59, 60, 61] (by decide +kernel) (by decide +kernel)
set_option maxRecDepth 20000 in
theorem gX4_alter_X3_hasStored : GoodIn wsX4_alter (wsV RX4 108 RX3 yX3_hasStored wsX3_hasStored) := goodIn_app (goodIn_of _ (by decide +kernel)) ggX4_alter_X3_hasStored
set_option maxRecDepth 20000 in
theorem ggX4_alter_X3_spoil : GoodIn wsX4_alter wsX3_spoil := goodIn_r _ [21, 22, 23, 24, 25, 11, 26, 27, 28, 29, 30, 31, 32, 33, 34, 35, 36, 37, 38, 39, 40, 41, 42, 43, 51, 52, 53, 54, 55, 56, 57, 58, 59, 60, 61] (by decide +kernel) (by decide +kernel)
set_option maxRecDepth 20000 in
theorem gX4_alter_X3_spoil : GoodIn wsX4_alter (wsV RX4 114 RX3 yX3_spoil wsX3_spoil) := goodIn_app (goodIn_of _ (by decide +kernel)) ggX4_alter_X3_spoil
theorem dX4_alter_0 : decode cX4_alter 0 = .ok (.aload_n 0, 1) := by decide +kernel
theorem dX4_alter_1 : decode cX4_alter 1 = .ok (.iload_n 1, 1) := by decide +kernel
theorem dX4_alter_2 : decode cX4_alter 2 = .ok (.invokevirtual 104, 3) := by decide +kernel
theorem dX4_alter_5 : decode cX4_alter 5 = .ok (.astore 5, 2) := by decide +kernel
theorem dX4_alter_7 : decode cX4_alter 7 = .ok (.aload 5, 2) := by decide +kernel
theorem dX4_alter_9 : decode cX4_alter 9 = .ok (.ifnull 29, 3) := by decide +kernel
theorem dX4_alter_12 : decode cX4_alter 12 = .ok (.aload 5, 2) := by decide +kernel
theorem dX4_alter_14 : decode cX4_alter 14 = .ok (.iload_n 2, 1) := by decide +kernel
theorem dX4_alter_15 : decode cX4_alter 15 = .ok (.iload_n 3, 1) := by decide +kernel
theorem dX4_alter_16 : decode cX4_alter 16 = .ok (.invokevirtual 108, 3) := by decide +kernel
theorem dX4_alter_19 : decode cX4_alter 19 = .ok (.ifCond .eq 19, 3) := by decide +kernel
theorem dX4_alter_22 : decode cX4_alter 22 = .ok (.aload 5, 2) := by decide +kernel
theorem dX4_alter_24 : decode cX4_alter 24 = .ok (.iload_n 2, 1) := by decide +kernel
theorem dX4_alter_25 : decode cX4_alter 25 = .ok (.iload_n 3, 1) := by decide +kernel
theorem dX4_alter_26 : decode cX4_alter 26 = .ok (.iload 4, 2) := by decide +kernel
theorem dX4_alter_28 : decode cX4_alter 28 = .ok (.invokevirtual 114, 3) := by decide +kernel
theorem dX4_alter_31 : decode cX4_alter 31 = .ok (.ifCond .eq 7, 3) := by decide +kernel
theorem dX4_alter_34 : decode cX4_alter 34 = .ok (.iconst 1, 1) := by decide +kernel
theorem dX4_alter_35 : decode cX4_alter 35 = .ok (.goto 4, 3) := by decide +kernel
theorem dX4_alter_38 : decode cX4_alter 38 = .ok (.iconst 0, 1) := by decide +kernel
theorem dX4_alter_39 : decode cX4_alter 39 = .ok (.ireturn, 1) := by decide +kernel
set_option maxRecDepth 20000 in
theorem ggX4_counter_X4_treeNumbered : GoodIn wsX4_counter wsX4_treeNumbered := goodIn_r _ [5, 6, 7, 19, 20, 21, 22, 23, 24, 25] (by decide +kernel) (by decide +kernel)
set_option maxRecDepth 20000 in
theorem gX4_counter_X4_treeNumbered : GoodIn wsX4_counter (wsV RX4 104 RX4 yX4_treeNumbered wsX4_treeNumbered) := goodIn_app (goodIn_of _ (by decide +kernel)) ggX4_counter_X4_treeNumbered
set_option maxRecDepth 20000 in
theorem ggX4_counter_X3_hasBucket : GoodIn wsX4_counter wsX3_hasBucket := goodIn_r _ [12, 13, 26, 27, 28, 29, 30, 31, 32, 33, 34, 35, 36] (by decide +kernel) (by decide +kernel)
set_option maxRecDepth 20000 in
theorem gX4_counter_X3_hasBucket : GoodIn wsX4_counter (wsV RX4 118 RX3 yX3_hasBucket wsX3_hasBucket) := goodIn_app (goodIn_of _ (by decide +kernel)) ggX4_counter_X3_hasBucket
set_option maxRecDepth 20000 in
theorem ggX4_counter_X3_timesSealed : GoodIn wsX4_counter wsX3_timesSealed := goodIn_r _ [17, 18, 26, 27, 28, 29, 30, 31, 32, 33, 34, 35, 36] (by decide +kernel) (by decide +kernel)
set_option maxRecDepth 20000 in
theorem gX4_counter_X3_timesSealed : GoodIn wsX4_counter (wsV RX4 121 RX3 yX3_timesSealed wsX3_timesSealed) := goodIn_app (goodIn_of _ (by decide +kernel)) ggX4_counter_X3_timesSealed
theorem dX4_counter_0 : decode cX4_counter 0 = .ok (.aload_n 0, 1) := by decide +kernel
theorem dX4_counter_1 : decode cX4_counter 1 = .ok (.iload_n 1, 1) := by decide +kernel
theorem dX4_counter_2 : decode cX4_counter 2 = .ok (.invokevirtual 104, 3) := by decide +kernel
theorem dX4_counter_5 : decode cX4_counter 5 = .ok (.astore_n 3, 1) := by decide +kernel
theorem dX4_counter_6 : decode cX4_counter 6 = .ok (.aload_n 3, 1) := by decide +kernel
theorem dX4_counter_7 : decode cX4_counter 7 = .ok (.ifnull 11, 3) := by decide +kernel
theorem dX4_counter_10 : decode cX4_counter 10 = .ok (.aload_n 3, 1) := by decide +kernel
theorem dX4_counter_11 : decode cX4_counter 11 = .ok (.iload_n 2, 1) := by decide +kernel
theorem dX4_counter_12 : decode cX4_counter 12 = .ok (.invokevirtual 118, 3) := by decide +kernel
theorem dX4_counter_15 : decode cX4_counter 15 = .ok (.ifCond .ne 7, 3) := by decide +kernel
theorem dX4_counter_18 : decode cX4_counter 18 = .ok (.iconst (-1), 1) := by decide +kernel
theorem dX4_counter_19 : decode cX4_counter 19 = .ok (.goto 8, 3) := by decide +kernel
theorem dX4_counter_22 : decode cX4_counter 22 = .ok (.aload_n 3, 1) := by decide +kernel
theorem dX4_counter_23 : decode cX4_counter 23 = .ok (.iload_n 2, 1) := by decide +kernel
theorem dX4_counter_24 : decode cX4_counter 24 = .ok (.invokevirtual 121, 3) := by decide +kernel
theorem dX4_counter_27 : decode cX4_counter 27 = .ok (.ireturn, 1) := by decide +kernel
set_option maxRecDepth 20000 in
theorem ggX4_trace_X2_leafOf : GoodIn wsX4_trace wsX2_leafOf := goodIn_r _ [6, 7, 8, 9, 17, 18, 19] (by decide +kernel) (by decide +kernel)
set_option maxRecDepth 20000 in
theorem gX4_trace_X2_leafOf : GoodIn wsX4_trace (wsV RX4 124 RX2 yX2_leafOf wsX2_leafOf) := goodIn_app (goodIn_of _ (by decide +kernel)) ggX4_trace_X2_leafOf
theorem dX4_trace_0 : decode cX4_trace 0 = .ok (.aload_n 0, 1) := by decide +kernel
theorem dX4_trace_1 : decode cX4_trace 1 = .ok (.getfield 42, 3) := by decide +kernel
theorem dX4_trace_4 : decode cX4_trace 4 = .ok (.iload_n 1, 1) := by decide +kernel
theorem dX4_trace_5 : decode cX4_trace 5 = .ok (.iload_n 2, 1) := by decide +kernel
theorem dX4_trace_6 : decode cX4_trace 6 = .ok (.invokevirtual 124, 3) := by decide +kernel
theorem dX4_trace_9 : decode cX4_trace 9 = .ok (.ireturn, 1) := by decide +kernel
set_option maxRecDepth 20000 in
theorem ggX4_stash_X4_treeNumbered : GoodIn wsX4_stash wsX4_treeNumbered := goodIn_r _ [5, 6, 7, 15, 16, 17, 18, 19, 20, 21] (by decide +kernel) (by decide +kernel)
set_option maxRecDepth 20000 in
theorem gX4_stash_X4_treeNumbered : GoodIn wsX4_stash (wsV RX4 104 RX4 yX4_treeNumbered wsX4_treeNumbered) := goodIn_app (goodIn_of _ (by decide +kernel)) ggX4_stash_X4_treeNumbered
set_option maxRecDepth 20000 in
theorem ggX4_stash_X3_countHeld : GoodIn wsX4_stash wsX3_countHeld := goodIn_r _ [12, 13, 14, 22, 23, 24, 25, 26, 27, 28, 29, 30, 31, 32] (by decide +kernel) (by decide +kernel)
set_option maxRecDepth 20000 in
theorem gX4_stash_X3_countHeld : GoodIn wsX4_stash (wsV RX4 127 RX3 yX3_countHeld wsX3_countHeld) := goodIn_app (goodIn_of _ (by decide +kernel)) ggX4_stash_X3_countHeld
theorem dX4_stash_0 : decode cX4_stash 0 = .ok (.aload_n 0, 1) := by decide +kernel
theorem dX4_stash_1 : decode cX4_stash 1 = .ok (.iload_n 1, 1) := by decide +kernel
theorem dX4_stash_2 : decode cX4_stash 2 = .ok (.invokevirtual 104, 3) := by decide +kernel
theorem dX4_stash_5 : decode cX4_stash 5 = .ok (.astore_n 2, 1) := by decide +kernel
theorem dX4_stash_6 : decode cX4_stash 6 = .ok (.aload_n 2, 1) := by decide +kernel
theorem dX4_stash_7 : decode cX4_stash 7 = .ok (.ifnonnull 7, 3) := by decide +kernel
theorem dX4_stash_10 : decode cX4_stash 10 = .ok (.iconst (-1), 1) := by decide +kernel
theorem dX4_stash_11 : decode cX4_stash 11 = .ok (.goto 7, 3) := by decide +kernel
theorem dX4_stash_14 : decode cX4_stash 14 = .ok (.aload_n 2, 1) := by decide +kernel
theorem dX4_stash_15 : decode cX4_stash 15 = .ok (.invokevirtual 127, 3) := by decide +kernel
theorem dX4_stash_18 : decode cX4_stash 18 = .ok (.ireturn, 1) := by decide +kernel
set_option maxRecDepth 20000 in
theorem ggX4_state_X2_countAll : GoodIn wsX4_state wsX2_countAll := goodIn_r _ [8, 9, 28, 29, 30] (by decide +kernel) (by decide +kernel)
set_option maxRecDepth 20000 in
theorem gX4_state_X2_countAll : GoodIn wsX4_state (wsV RX4 131 RX2 yX2_countAll wsX2_countAll) := goodIn_app (goodIn_of _ (by decide +kernel)) ggX4_state_X2_countAll
set_option maxRecDepth 20000 in
theorem ggX4_state_X0_countFiles : GoodIn wsX4_state wsX0_countFiles := goodIn_r _ [14, 15, 31, 32, 33, 34] (by decide +kernel) (by decide +kernel)
set_option maxRecDepth 20000 in
theorem gX4_state_X0_countFiles : GoodIn wsX4_state (wsV RX4 134 RX0 yX0_countFiles wsX0_countFiles) := goodIn_app (goodIn_of _ (by decide +kernel)) ggX4_state_X0_countFiles
set_option maxRecDepth 20000 in
theorem ggX4_state_X0_countFreeBlocks : GoodIn wsX4_state wsX0_countFreeBlocks := goodIn_r _ [19, 20, 31, 32, 33, 34] (by decide +kernel) (by decide +kernel)
set_option maxRecDepth 20000 in
theorem gX4_state_X0_countFreeBlocks : GoodIn wsX4_state (wsV RX4 137 RX0 yX0_countFreeBlocks wsX0_countFreeBlocks) := goodIn_app (goodIn_of _ (by decide +kernel)) ggX4_state_X0_countFreeBlocks
theorem dX4_state_0 : decode cX4_state 0 = .ok (.iload_n 1, 1) := by decide +kernel
theorem dX4_state_1 : decode cX4_state 1 = .ok (.tableswitch 68 0 3 #[31, 39, 47, 55], 31) := by decide +kernel
theorem dX4_state_32 : decode cX4_state 32 = .ok (.aload_n 0, 1) := by decide +kernel
theorem dX4_state_33 : decode cX4_state 33 = .ok (.getfield 42, 3) := by decide +kernel
theorem dX4_state_36 : decode cX4_state 36 = .ok (.invokevirtual 131, 3) := by decide +kernel
theorem dX4_state_39 : decode cX4_state 39 = .ok (.ireturn, 1) := by decide +kernel
theorem dX4_state_40 : decode cX4_state 40 = .ok (.aload_n 0, 1) := by decide +kernel
theorem dX4_state_41 : decode cX4_state 41 = .ok (.getfield 35, 3) := by decide +kernel
theorem dX4_state_44 : decode cX4_state 44 = .ok (.invokevirtual 134, 3) := by decide +kernel
theorem dX4_state_47 : decode cX4_state 47 = .ok (.ireturn, 1) := by decide +kernel
theorem dX4_state_48 : decode cX4_state 48 = .ok (.aload_n 0, 1) := by decide +kernel
theorem dX4_state_49 : decode cX4_state 49 = .ok (.getfield 35, 3) := by decide +kernel
theorem dX4_state_52 : decode cX4_state 52 = .ok (.invokevirtual 137, 3) := by decide +kernel
theorem dX4_state_55 : decode cX4_state 55 = .ok (.ireturn, 1) := by decide +kernel
theorem dX4_state_56 : decode cX4_state 56 = .ok (.aload_n 0, 1) := by decide +kernel
theorem dX4_state_57 : decode cX4_state 57 = .ok (.getfield 140, 3) := by decide +kernel
theorem dX4_state_60 : decode cX4_state 60 = .ok (.ifCond .eq 7, 3) := by decide +kernel
theorem dX4_state_63 : decode cX4_state 63 = .ok (.iconst 1, 1) := by decide +kernel
theorem dX4_state_64 : decode cX4_state 64 = .ok (.goto 4, 3) := by decide +kernel
theorem dX4_state_67 : decode cX4_state 67 = .ok (.iconst 0, 1) := by decide +kernel
theorem dX4_state_68 : decode cX4_state 68 = .ok (.ireturn, 1) := by decide +kernel
theorem dX4_state_69 : decode cX4_state 69 = .ok (.iconst (-1), 1) := by decide +kernel
theorem dX4_state_70 : decode cX4_state 70 = .ok (.ireturn, 1) := by decide +kernel
theorem dX4_treeNumbered_0 : decode cX4_treeNumbered 0 = .ok (.iload_n 1, 1) := by decide +kernel
theorem dX4_treeNumbered_1 : decode cX4_treeNumbered 1 = .ok (.ifCond .ne 8, 3) := by decide +kernel
theorem dX4_treeNumbered_4 : decode cX4_treeNumbered 4 = .ok (.aload_n 0, 1) := by decide +kernel
theorem dX4_treeNumbered_5 : decode cX4_treeNumbered 5 = .ok (.getfield 21, 3) := by decide +kernel
theorem dX4_treeNumbered_8 : decode cX4_treeNumbered 8 = .ok (.areturn, 1) := by decide +kernel
theorem dX4_treeNumbered_9 : decode cX4_treeNumbered 9 = .ok (.iload_n 1, 1) := by decide +kernel
theorem dX4_treeNumbered_10 : decode cX4_treeNumbered 10 = .ok (.iconst 1, 1) := by decide +kernel
theorem dX4_treeNumbered_11 : decode cX4_treeNumbered 11 = .ok (.if_icmp .ne 10, 3) := by decide +kernel
theorem dX4_treeNumbered_14 : decode cX4_treeNumbered 14 = .ok (.aload_n 0, 1) := by decide +kernel
theorem dX4_treeNumbered_15 : decode cX4_treeNumbered 15 = .ok (.getfield 25, 3) := by decide +kernel
theorem dX4_treeNumbered_18 : decode cX4_treeNumbered 18 = .ok (.goto 4, 3) := by decide +kernel
theorem dX4_treeNumbered_21 : decode cX4_treeNumbered 21 = .ok (.aconst_null, 1) := by decide +kernel
theorem dX4_treeNumbered_22 : decode cX4_treeNumbered 22 = .ok (.areturn, 1) := by decide +kernel
set_option maxRecDepth 20000 in
theorem ggX4_beginAnew_X1_begin : GoodIn wsX4_beginAnew wsX1_begin := goodIn_r _ [11, 12, 125] (by decide +kernel) (by decide +kernel)
set_option maxRecDepth 20000 in
theorem gX4_beginAnew_X1_begin : GoodIn wsX4_beginAnew (wsV RX4 144 RX1 yX1_begin wsX1_begin) := goodIn_app (goodIn_of _ (by decide +kernel)) ggX4_beginAnew_X1_begin
set_option maxRecDepth 20000 in
theorem ggX4_beginAnew_X3_empty : GoodIn wsX4_beginAnew wsX3_empty := goodIn_r _ [17, 18, 19, 20, 21, 22, 23, 24, 25, 26, 27, 126, 127, 128, 129, 130, 131, 132, 133, 134, 135, 136] (by decide +kernel) (by decide +kernel)
set_option maxRecDepth 20000 in
theorem gX4_beginAnew_X3_empty : GoodIn wsX4_beginAnew (wsV RX4 147 RX3 yX3_empty wsX3_empty) := goodIn_app (goodIn_of _ (by decide +kernel)) ggX4_beginAnew_X3_empty
set_option maxRecDepth 20000 in
theorem ggX4_beginAnew_X0_empty : GoodIn wsX4_beginAnew wsX0_empty := goodIn_r _ [32, 33, 34, 35, 25, 26, 27, 137, 138, 139, 140] (by decide +kernel) (by decide +kernel)
set_option maxRecDepth 20000 in
theorem gX4_beginAnew_X0_empty : GoodIn wsX4_beginAnew (wsV RX4 150 RX0 yX0_empty wsX0_empty) := goodIn_app (goodIn_of _ (by decide +kernel)) ggX4_beginAnew_X0_empty
set_option maxRecDepth 20000 in
theorem ggX4_beginAnew_X2_empty : GoodIn wsX4_beginAnew wsX2_empty := goodIn_r _ [40, 41, 141, 142, 143] (by decide +kernel) (by decide +kernel)
set_option maxRecDepth 20000 in
theorem gX4_beginAnew_X2_empty : GoodIn wsX4_beginAnew (wsV RX4 152 RX2 yX2_empty wsX2_empty) := goodIn_app (goodIn_of _ (by decide +kernel)) ggX4_beginAnew_X2_empty
set_option maxRecDepth 20000 in
theorem ggX4_beginAnew_X4_drawAllLeaves : GoodIn wsX4_beginAnew wsX4_drawAllLeaves := goodIn_r _ [46, 47, 1, 2, 3, 48, 49, 50, 10, 51, 12, 52, 53, 54, 16, 55, 56, 57, 58, 59, 45, 60, 61, 62, 63, 64, 65, 66, 67, 21, 68, 69, 70, 71, 118, 119, 120, 121, 122, 123, 124, 125, 126, 127, 128, 129, 130, 131, 132, 133, 134, 135, 136] (by decide +kernel) (by decide +kernel)
set_option maxRecDepth 20000 in
theorem gX4_beginAnew_X4_drawAllLeaves : GoodIn wsX4_beginAnew (wsV RX4 153 RX4 yX4_drawAllLeaves wsX4_drawAllLeaves) := goodIn_app (goodIn_of _ (by decide +kernel)) ggX4_beginAnew_X4_drawAllLeaves
set_option maxRecDepth 20000 in
theorem ggX4_beginAnew_X3_settleAll : GoodIn wsX4_beginAnew wsX3_settleAll := goodIn_r _ [75, 22, 76, 77, 78, 79, 16, 80, 81, 56, 19, 82, 83, 84, 85, 86, 87, 88, 89, 90, 91, 92, 93, 23, 94, 65, 66, 67, 21, 95, 96, 97, 98, 99, 100, 101, 102, 103, 104, 105, 106, 18, 107, 108, 20, 109, 110, 111, 112, 113, 114, 115, 116, 117, 126, 127, 128, 129, 130, 131, 132, 133, 134, 135, 136] (by decide +kernel) (by decide +kernel)
set_option maxRecDepth 20000 in
theorem gX4_beginAnew_X3_settleAll : GoodIn wsX4_beginAnew (wsV RX4 156 RX3 yX3_settleAll wsX3_settleAll) := goodIn_app (goodIn_of _ (by decide +kernel)) ggX4_beginAnew_X3_settleAll
theorem dX4_beginAnew_0 : decode cX4_beginAnew 0 = .ok (.aload_n 0, 1) := by decide +kernel
theorem dX4_beginAnew_1 : decode cX4_beginAnew 1 = .ok (.getfield 10, 3) := by decide +kernel
theorem dX4_beginAnew_4 : decode cX4_beginAnew 4 = .ok (.iload_n 1, 1) := by decide +kernel
theorem dX4_beginAnew_5 : decode cX4_beginAnew 5 = .ok (.invokevirtual 144, 3) := by decide +kernel
theorem dX4_beginAnew_8 : decode cX4_beginAnew 8 = .ok (.aload_n 0, 1) := by decide +kernel
theorem dX4_beginAnew_9 : decode cX4_beginAnew 9 = .ok (.getfield 21, 3) := by decide +kernel
theorem dX4_beginAnew_12 : decode cX4_beginAnew 12 = .ok (.iload_n 2, 1) := by decide +kernel
theorem dX4_beginAnew_13 : decode cX4_beginAnew 13 = .ok (.invokevirtual 147, 3) := by decide +kernel
theorem dX4_beginAnew_16 : decode cX4_beginAnew 16 = .ok (.aload_n 0, 1) := by decide +kernel
theorem dX4_beginAnew_17 : decode cX4_beginAnew 17 = .ok (.getfield 25, 3) := by decide +kernel
theorem dX4_beginAnew_20 : decode cX4_beginAnew 20 = .ok (.iload_n 2, 1) := by decide +kernel
theorem dX4_beginAnew_21 : decode cX4_beginAnew 21 = .ok (.invokevirtual 147, 3) := by decide +kernel
theorem dX4_beginAnew_24 : decode cX4_beginAnew 24 = .ok (.aload_n 0, 1) := by decide +kernel
theorem dX4_beginAnew_25 : decode cX4_beginAnew 25 = .ok (.getfield 35, 3) := by decide +kernel
theorem dX4_beginAnew_28 : decode cX4_beginAnew 28 = .ok (.invokevirtual 150, 3) := by decide +kernel
theorem dX4_beginAnew_31 : decode cX4_beginAnew 31 = .ok (.aload_n 0, 1) := by decide +kernel
theorem dX4_beginAnew_32 : decode cX4_beginAnew 32 = .ok (.getfield 42, 3) := by decide +kernel
theorem dX4_beginAnew_35 : decode cX4_beginAnew 35 = .ok (.invokevirtual 152, 3) := by decide +kernel
theorem dX4_beginAnew_38 : decode cX4_beginAnew 38 = .ok (.aload_n 0, 1) := by decide +kernel
theorem dX4_beginAnew_39 : decode cX4_beginAnew 39 = .ok (.iconst 0, 1) := by decide +kernel
theorem dX4_beginAnew_40 : decode cX4_beginAnew 40 = .ok (.putfield 140, 3) := by decide +kernel
theorem dX4_beginAnew_43 : decode cX4_beginAnew 43 = .ok (.aload_n 0, 1) := by decide +kernel
theorem dX4_beginAnew_44 : decode cX4_beginAnew 44 = .ok (.invokevirtual 153, 3) := by decide +kernel
theorem dX4_beginAnew_47 : decode cX4_beginAnew 47 = .ok (.aload_n 0, 1) := by decide +kernel
theorem dX4_beginAnew_48 : decode cX4_beginAnew 48 = .ok (.getfield 21, 3) := by decide +kernel
theorem dX4_beginAnew_51 : decode cX4_beginAnew 51 = .ok (.invokevirtual 156, 3) := by decide +kernel
theorem dX4_beginAnew_54 : decode cX4_beginAnew 54 = .ok (.aload_n 0, 1) := by decide +kernel
theorem dX4_beginAnew_55 : decode cX4_beginAnew 55 = .ok (.getfield 25, 3) := by decide +kernel
theorem dX4_beginAnew_58 : decode cX4_beginAnew 58 = .ok (.invokevirtual 156, 3) := by decide +kernel
theorem dX4_beginAnew_61 : decode cX4_beginAnew 61 = .ok (.return_, 1) := by decide +kernel
set_option maxRecDepth 20000 in
theorem ggX4_drawAllLeaves_X1_draw : GoodIn wsX4_drawAllLeaves wsX1_draw := goodIn_r _ [9, 10, 41] (by decide +kernel) (by decide +kernel)
set_option maxRecDepth 20000 in
theorem gX4_drawAllLeaves_X1_draw : GoodIn wsX4_drawAllLeaves (wsV RX4 101 RX1 yX1_draw wsX1_draw) := goodIn_app (goodIn_of _ (by decide +kernel)) ggX4_drawAllLeaves_X1_draw
set_option maxRecDepth 20000 in
theorem ggX4_drawAllLeaves_X3_moveTo : GoodIn wsX4_drawAllLeaves wsX3_moveTo := goodIn_r _ [15, 16, 42, 43, 44, 45, 46, 47, 48, 49, 50, 51, 52] (by decide +kernel) (by decide +kernel)
set_option maxRecDepth 20000 in
theorem gX4_drawAllLeaves_X3_moveTo : GoodIn wsX4_drawAllLeaves (wsV RX4 159 RX3 yX3_moveTo wsX3_moveTo) := goodIn_app (goodIn_of _ (by decide +kernel)) ggX4_drawAllLeaves_X3_moveTo
set_option maxRecDepth 20000 in
theorem ggX4_drawAllLeaves_X4_setEntry : GoodIn wsX4_drawAllLeaves wsX4_setEntry := goodIn_r _ [21, 3, 22, 23, 20, 24, 25, 26, 27, 14, 28, 29, 30, 31, 32, 33, 34, 35, 36, 37, 38, 39, 40, 42, 43, 44, 45, 46, 47, 48, 49, 50, 51, 52] (by decide +kernel) (by decide +kernel)
set_option maxRecDepth 20000 in
theorem gX4_drawAllLeaves_X4_setEntry : GoodIn wsX4_drawAllLeaves (wsV RX4 162 RX4 yX4_setEntry wsX4_setEntry) := goodIn_app (goodIn_of _ (by decide +kernel)) ggX4_drawAllLeaves_X4_setEntry
theorem dX4_drawAllLeaves_0 : decode cX4_drawAllLeaves 0 = .ok (.iconst 0, 1) := by decide +kernel
theorem dX4_drawAllLeaves_1 : decode cX4_drawAllLeaves 1 = .ok (.istore_n 1, 1) := by decide +kernel
theorem dX4_drawAllLeaves_2 : decode cX4_drawAllLeaves 2 = .ok (.iload_n 1, 1) := by decide +kernel
theorem dX4_drawAllLeaves_3 : decode cX4_drawAllLeaves 3 = .ok (.bipush 8, 2) := by decide +kernel
theorem dX4_drawAllLeaves_5 : decode cX4_drawAllLeaves 5 = .ok (.if_icmp .ge 37, 3) := by decide +kernel
theorem dX4_drawAllLeaves_8 : decode cX4_drawAllLeaves 8 = .ok (.aload_n 0, 1) := by decide +kernel
theorem dX4_drawAllLeaves_9 : decode cX4_drawAllLeaves 9 = .ok (.getfield 28, 3) := by decide +kernel
theorem dX4_drawAllLeaves_12 : decode cX4_drawAllLeaves 12 = .ok (.iload_n 1, 1) := by decide +kernel
theorem dX4_drawAllLeaves_13 : decode cX4_drawAllLeaves 13 = .ok (.aload_n 0, 1) := by decide +kernel
theorem dX4_drawAllLeaves_14 : decode cX4_drawAllLeaves 14 = .ok (.getfield 10, 3) := by decide +kernel
theorem dX4_drawAllLeaves_17 : decode cX4_drawAllLeaves 17 = .ok (.iconst 2, 1) := by decide +kernel
theorem dX4_drawAllLeaves_18 : decode cX4_drawAllLeaves 18 = .ok (.invokevirtual 101, 3) := by decide +kernel
theorem dX4_drawAllLeaves_21 : decode cX4_drawAllLeaves 21 = .ok (.iastore, 1) := by decide +kernel
theorem dX4_drawAllLeaves_22 : decode cX4_drawAllLeaves 22 = .ok (.aload_n 0, 1) := by decide +kernel
theorem dX4_drawAllLeaves_23 : decode cX4_drawAllLeaves 23 = .ok (.getfield 21, 3) := by decide +kernel
theorem dX4_drawAllLeaves_26 : decode cX4_drawAllLeaves 26 = .ok (.iload_n 1, 1) := by decide +kernel
theorem dX4_drawAllLeaves_27 : decode cX4_drawAllLeaves 27 = .ok (.aload_n 0, 1) := by decide +kernel
theorem dX4_drawAllLeaves_28 : decode cX4_drawAllLeaves 28 = .ok (.getfield 28, 3) := by decide +kernel
theorem dX4_drawAllLeaves_31 : decode cX4_drawAllLeaves 31 = .ok (.iload_n 1, 1) := by decide +kernel
theorem dX4_drawAllLeaves_32 : decode cX4_drawAllLeaves 32 = .ok (.iaload, 1) := by decide +kernel
theorem dX4_drawAllLeaves_33 : decode cX4_drawAllLeaves 33 = .ok (.invokevirtual 159, 3) := by decide +kernel
theorem dX4_drawAllLeaves_36 : decode cX4_drawAllLeaves 36 = .ok (.iinc 1 1, 3) := by decide +kernel
theorem dX4_drawAllLeaves_39 : decode cX4_drawAllLeaves 39 = .ok (.goto (-37), 3) := by decide +kernel
theorem dX4_drawAllLeaves_42 : decode cX4_drawAllLeaves 42 = .ok (.iconst 0, 1) := by decide +kernel
theorem dX4_drawAllLeaves_43 : decode cX4_drawAllLeaves 43 = .ok (.istore_n 1, 1) := by decide +kernel
theorem dX4_drawAllLeaves_44 : decode cX4_drawAllLeaves 44 = .ok (.iload_n 1, 1) := by decide +kernel
theorem dX4_drawAllLeaves_45 : decode cX4_drawAllLeaves 45 = .ok (.bipush 64, 2) := by decide +kernel
theorem dX4_drawAllLeaves_47 : decode cX4_drawAllLeaves 47 = .ok (.if_icmp .ge 33, 3) := by decide +kernel
theorem dX4_drawAllLeaves_50 : decode cX4_drawAllLeaves 50 = .ok (.aload_n 0, 1) := by decide +kernel
theorem dX4_drawAllLeaves_51 : decode cX4_drawAllLeaves 51 = .ok (.getfield 10, 3) := by decide +kernel
theorem dX4_drawAllLeaves_54 : decode cX4_drawAllLeaves 54 = .ok (.iconst 5, 1) := by decide +kernel
theorem dX4_drawAllLeaves_55 : decode cX4_drawAllLeaves 55 = .ok (.invokevirtual 101, 3) := by decide +kernel
theorem dX4_drawAllLeaves_58 : decode cX4_drawAllLeaves 58 = .ok (.istore_n 2, 1) := by decide +kernel
theorem dX4_drawAllLeaves_59 : decode cX4_drawAllLeaves 59 = .ok (.aload_n 0, 1) := by decide +kernel
theorem dX4_drawAllLeaves_60 : decode cX4_drawAllLeaves 60 = .ok (.getfield 25, 3) := by decide +kernel
theorem dX4_drawAllLeaves_63 : decode cX4_drawAllLeaves 63 = .ok (.iload_n 1, 1) := by decide +kernel
theorem dX4_drawAllLeaves_64 : decode cX4_drawAllLeaves 64 = .ok (.iload_n 2, 1) := by decide +kernel
theorem dX4_drawAllLeaves_65 : decode cX4_drawAllLeaves 65 = .ok (.invokevirtual 159, 3) := by decide +kernel
theorem dX4_drawAllLeaves_68 : decode cX4_drawAllLeaves 68 = .ok (.aload_n 0, 1) := by decide +kernel
theorem dX4_drawAllLeaves_69 : decode cX4_drawAllLeaves 69 = .ok (.iload_n 1, 1) := by decide +kernel
theorem dX4_drawAllLeaves_70 : decode cX4_drawAllLeaves 70 = .ok (.iload_n 2, 1) := by decide +kernel
theorem dX4_drawAllLeaves_71 : decode cX4_drawAllLeaves 71 = .ok (.invokevirtual 162, 3) := by decide +kernel
theorem dX4_drawAllLeaves_74 : decode cX4_drawAllLeaves 74 = .ok (.iinc 1 1, 3) := by decide +kernel
theorem dX4_drawAllLeaves_77 : decode cX4_drawAllLeaves 77 = .ok (.goto (-33), 3) := by decide +kernel
theorem dX4_drawAllLeaves_80 : decode cX4_drawAllLeaves 80 = .ok (.return_, 1) := by decide +kernel
set_option maxRecDepth 20000 in
theorem ggX4_openPathOf_X1_draw : GoodIn wsX4_openPathOf wsX1_draw := goodIn_r _ [11, 12, 126] (by decide +kernel) (by decide +kernel)
set_option maxRecDepth 20000 in
theorem gX4_openPathOf_X1_draw : GoodIn wsX4_openPathOf (wsV RX4 101 RX1 yX1_draw wsX1_draw) := goodIn_app (goodIn_of _ (by decide +kernel)) ggX4_openPathOf_X1_draw
set_option maxRecDepth 20000 in
theorem ggX4_openPathOf_X2_add : GoodIn wsX4_openPathOf wsX2_add := goodIn_r _ [17, 18, 19, 20, 127, 128, 129] (by decide +kernel) (by decide +kernel)
set_option maxRecDepth 20000 in
theorem gX4_openPathOf_X2_add : GoodIn wsX4_openPathOf (wsV RX4 165 RX2 yX2_add wsX2_add) := goodIn_app (goodIn_of _ (by decide +kernel)) ggX4_openPathOf_X2_add
set_option maxRecDepth 20000 in
theorem ggX4_openPathOf_X3_take : GoodIn wsX4_openPathOf wsX3_take := goodIn_r _ [25, 26, 27, 28, 29, 24, 30, 31, 32, 33, 34, 35, 36, 37, 38, 39, 40, 41, 42, 43, 44, 45, 46, 47, 48, 49, 50, 51, 52, 53, 54, 55, 56, 57, 58, 59, 60, 61, 62, 63, 64, 65, 66, 67, 68, 69, 70, 71, 72, 73, 74, 75, 76, 130, 131, 132, 133, 134, 135, 136, 137, 138, 139, 140] (by decide +kernel) (by decide +kernel)
set_option maxRecDepth 20000 in
theorem gX4_openPathOf_X3_take : GoodIn wsX4_openPathOf (wsV RX4 167 RX3 yX3_take wsX3_take) := goodIn_app (goodIn_of _ (by decide +kernel)) ggX4_openPathOf_X3_take
set_option maxRecDepth 20000 in
theorem ggX4_openPathOf_X3_moveTo : GoodIn wsX4_openPathOf wsX3_moveTo := goodIn_r _ [80, 71, 130, 131, 132, 133, 134, 135, 136, 137, 138, 139, 140] (by decide +kernel) (by decide +kernel)
set_option maxRecDepth 20000 in
theorem gX4_openPathOf_X3_moveTo : GoodIn wsX4_openPathOf (wsV RX4 159 RX3 yX3_moveTo wsX3_moveTo) := goodIn_app (goodIn_of _ (by decide +kernel)) ggX4_openPathOf_X3_moveTo
set_option maxRecDepth 20000 in
theorem ggX4_openPathOf_X4_entryOf : GoodIn wsX4_openPathOf wsX4_entryOf := goodIn_r _ [85, 5, 86, 87, 88, 24, 89, 76, 90, 91, 84, 92, 119, 120, 121, 122, 123, 124, 125, 130, 131, 132, 133, 134, 135, 136, 137, 138, 139, 140] (by decide +kernel) (by decide +kernel)
set_option maxRecDepth 20000 in
theorem gX4_openPathOf_X4_entryOf : GoodIn wsX4_openPathOf (wsV RX4 170 RX4 yX4_entryOf wsX4_entryOf) := goodIn_app (goodIn_of _ (by decide +kernel)) ggX4_openPathOf_X4_entryOf
set_option maxRecDepth 20000 in
theorem ggX4_openPathOf_X4_setEntry : GoodIn wsX4_openPathOf wsX4_setEntry := goodIn_r _ [96, 5, 90, 91, 84, 92, 86, 87, 88, 24, 89, 76, 97, 73, 74, 75, 119, 120, 121, 122, 123, 124, 125, 130, 131, 132, 133, 134, 135, 136, 137, 138, 139, 140] (by decide +kernel) (by decide +kernel)
set_option maxRecDepth 20000 in
theorem gX4_openPathOf_X4_setEntry : GoodIn wsX4_openPathOf (wsV RX4 162 RX4 yX4_setEntry wsX4_setEntry) := goodIn_app (goodIn_of _ (by decide +kernel)) ggX4_openPathOf_X4_setEntry
set_option maxRecDepth 20000 in
theorem ggX4_openPathOf_X3_putBack : GoodIn wsX4_openPathOf wsX3_putBack := goodIn_r _ [101, 26, 49, 27, 28, 29, 24, 30, 31, 102, 103, 104, 105, 69, 70, 71, 106, 107, 108, 109, 36, 62, 63, 64, 110, 87, 88, 89, 76, 111, 112, 113, 114, 58, 59, 60, 61, 42, 43, 44, 45, 46, 47, 48, 50, 51, 52, 53, 37, 38, 39, 40, 41, 130, 131, 132, 133, 134, 135, 136, 137, 138, 139, 140] (by decide +kernel) (by decide +kernel)
set_option maxRecDepth 20000 in
theorem gX4_openPathOf_X3_putBack : GoodIn wsX4_openPathOf (wsV RX4 89 RX3 yX3_putBack wsX3_putBack) := goodIn_app (goodIn_of _ (by decide +kernel)) ggX4_openPathOf_X3_putBack
set_option maxRecDepth 20000 in
theorem ggX4_openPathOf_X2_setDataLeaf : GoodIn wsX4_openPathOf wsX2_setDataLeaf := goodIn_r _ [118, 19, 20, 127, 128, 129] (by decide +kernel) (by decide +kernel)
set_option maxRecDepth 20000 in
theorem gX4_openPathOf_X2_setDataLeaf : GoodIn wsX4_openPathOf (wsV RX4 173 RX2 yX2_setDataLeaf wsX2_setDataLeaf) := goodIn_app (goodIn_of _ (by decide +kernel)) ggX4_openPathOf_X2_setDataLeaf
theorem dX4_openPathOf_0 : decode cX4_openPathOf 0 = .ok (.aload_n 0, 1) := by decide +kernel
theorem dX4_openPathOf_1 : decode cX4_openPathOf 1 = .ok (.getfield 140, 3) := by decide +kernel
theorem dX4_openPathOf_4 : decode cX4_openPathOf 4 = .ok (.ifCond .eq 5, 3) := by decide +kernel
theorem dX4_openPathOf_7 : decode cX4_openPathOf 7 = .ok (.iconst (-1), 1) := by decide +kernel
theorem dX4_openPathOf_8 : decode cX4_openPathOf 8 = .ok (.ireturn, 1) := by decide +kernel
theorem dX4_openPathOf_9 : decode cX4_openPathOf 9 = .ok (.iload_n 1, 1) := by decide +kernel
theorem dX4_openPathOf_10 : decode cX4_openPathOf 10 = .ok (.bipush 8, 2) := by decide +kernel
theorem dX4_openPathOf_12 : decode cX4_openPathOf 12 = .ok (.idiv, 1) := by decide +kernel
theorem dX4_openPathOf_13 : decode cX4_openPathOf 13 = .ok (.istore_n 2, 1) := by decide +kernel
theorem dX4_openPathOf_14 : decode cX4_openPathOf 14 = .ok (.aload_n 0, 1) := by decide +kernel
theorem dX4_openPathOf_15 : decode cX4_openPathOf 15 = .ok (.getfield 28, 3) := by decide +kernel
theorem dX4_openPathOf_18 : decode cX4_openPathOf 18 = .ok (.iload_n 2, 1) := by decide +kernel
theorem dX4_openPathOf_19 : decode cX4_openPathOf 19 = .ok (.iaload, 1) := by decide +kernel
theorem dX4_openPathOf_20 : decode cX4_openPathOf 20 = .ok (.istore_n 3, 1) := by decide +kernel
theorem dX4_openPathOf_21 : decode cX4_openPathOf 21 = .ok (.aload_n 0, 1) := by decide +kernel
theorem dX4_openPathOf_22 : decode cX4_openPathOf 22 = .ok (.getfield 28, 3) := by decide +kernel
theorem dX4_openPathOf_25 : decode cX4_openPathOf 25 = .ok (.iload_n 2, 1) := by decide +kernel
theorem dX4_openPathOf_26 : decode cX4_openPathOf 26 = .ok (.aload_n 0, 1) := by decide +kernel
theorem dX4_openPathOf_27 : decode cX4_openPathOf 27 = .ok (.getfield 10, 3) := by decide +kernel
theorem dX4_openPathOf_30 : decode cX4_openPathOf 30 = .ok (.iconst 2, 1) := by decide +kernel
theorem dX4_openPathOf_31 : decode cX4_openPathOf 31 = .ok (.invokevirtual 101, 3) := by decide +kernel
theorem dX4_openPathOf_34 : decode cX4_openPathOf 34 = .ok (.iastore, 1) := by decide +kernel
theorem dX4_openPathOf_35 : decode cX4_openPathOf 35 = .ok (.aload_n 0, 1) := by decide +kernel
theorem dX4_openPathOf_36 : decode cX4_openPathOf 36 = .ok (.getfield 42, 3) := by decide +kernel
theorem dX4_openPathOf_39 : decode cX4_openPathOf 39 = .ok (.iload_n 3, 1) := by decide +kernel
theorem dX4_openPathOf_40 : decode cX4_openPathOf 40 = .ok (.invokevirtual 165, 3) := by decide +kernel
theorem dX4_openPathOf_43 : decode cX4_openPathOf 43 = .ok (.aload_n 0, 1) := by decide +kernel
theorem dX4_openPathOf_44 : decode cX4_openPathOf 44 = .ok (.getfield 21, 3) := by decide +kernel
theorem dX4_openPathOf_47 : decode cX4_openPathOf 47 = .ok (.iload_n 3, 1) := by decide +kernel
theorem dX4_openPathOf_48 : decode cX4_openPathOf 48 = .ok (.invokevirtual 167, 3) := by decide +kernel
theorem dX4_openPathOf_51 : decode cX4_openPathOf 51 = .ok (.ifCond .ne 10, 3) := by decide +kernel
theorem dX4_openPathOf_54 : decode cX4_openPathOf 54 = .ok (.aload_n 0, 1) := by decide +kernel
theorem dX4_openPathOf_55 : decode cX4_openPathOf 55 = .ok (.iconst 1, 1) := by decide +kernel
theorem dX4_openPathOf_56 : decode cX4_openPathOf 56 = .ok (.putfield 140, 3) := by decide +kernel
theorem dX4_openPathOf_59 : decode cX4_openPathOf 59 = .ok (.iconst (-1), 1) := by decide +kernel
theorem dX4_openPathOf_60 : decode cX4_openPathOf 60 = .ok (.ireturn, 1) := by decide +kernel
theorem dX4_openPathOf_61 : decode cX4_openPathOf 61 = .ok (.aload_n 0, 1) := by decide +kernel
theorem dX4_openPathOf_62 : decode cX4_openPathOf 62 = .ok (.getfield 21, 3) := by decide +kernel
theorem dX4_openPathOf_65 : decode cX4_openPathOf 65 = .ok (.iload_n 2, 1) := by decide +kernel
theorem dX4_openPathOf_66 : decode cX4_openPathOf 66 = .ok (.aload_n 0, 1) := by decide +kernel
theorem dX4_openPathOf_67 : decode cX4_openPathOf 67 = .ok (.getfield 28, 3) := by decide +kernel
theorem dX4_openPathOf_70 : decode cX4_openPathOf 70 = .ok (.iload_n 2, 1) := by decide +kernel
theorem dX4_openPathOf_71 : decode cX4_openPathOf 71 = .ok (.iaload, 1) := by decide +kernel
theorem dX4_openPathOf_72 : decode cX4_openPathOf 72 = .ok (.invokevirtual 159, 3) := by decide +kernel
theorem dX4_openPathOf_75 : decode cX4_openPathOf 75 = .ok (.aload_n 0, 1) := by decide +kernel
theorem dX4_openPathOf_76 : decode cX4_openPathOf 76 = .ok (.iload_n 1, 1) := by decide +kernel
theorem dX4_openPathOf_77 : decode cX4_openPathOf 77 = .ok (.invokevirtual 170, 3) := by decide +kernel
theorem dX4_openPathOf_80 : decode cX4_openPathOf 80 = .ok (.istore 4, 2) := by decide +kernel
theorem dX4_openPathOf_82 : decode cX4_openPathOf 82 = .ok (.aload_n 0, 1) := by decide +kernel
theorem dX4_openPathOf_83 : decode cX4_openPathOf 83 = .ok (.getfield 10, 3) := by decide +kernel
theorem dX4_openPathOf_86 : decode cX4_openPathOf 86 = .ok (.iconst 5, 1) := by decide +kernel
theorem dX4_openPathOf_87 : decode cX4_openPathOf 87 = .ok (.invokevirtual 101, 3) := by decide +kernel
theorem dX4_openPathOf_90 : decode cX4_openPathOf 90 = .ok (.istore 5, 2) := by decide +kernel
theorem dX4_openPathOf_92 : decode cX4_openPathOf 92 = .ok (.aload_n 0, 1) := by decide +kernel
theorem dX4_openPathOf_93 : decode cX4_openPathOf 93 = .ok (.iload_n 1, 1) := by decide +kernel
theorem dX4_openPathOf_94 : decode cX4_openPathOf 94 = .ok (.iload 5, 2) := by decide +kernel
theorem dX4_openPathOf_96 : decode cX4_openPathOf 96 = .ok (.invokevirtual 162, 3) := by decide +kernel
theorem dX4_openPathOf_99 : decode cX4_openPathOf 99 = .ok (.aload_n 0, 1) := by decide +kernel
theorem dX4_openPathOf_100 : decode cX4_openPathOf 100 = .ok (.getfield 21, 3) := by decide +kernel
theorem dX4_openPathOf_103 : decode cX4_openPathOf 103 = .ok (.iload_n 3, 1) := by decide +kernel
theorem dX4_openPathOf_104 : decode cX4_openPathOf 104 = .ok (.invokevirtual 89, 3) := by decide +kernel
theorem dX4_openPathOf_107 : decode cX4_openPathOf 107 = .ok (.aload_n 0, 1) := by decide +kernel
theorem dX4_openPathOf_108 : decode cX4_openPathOf 108 = .ok (.getfield 42, 3) := by decide +kernel
theorem dX4_openPathOf_111 : decode cX4_openPathOf 111 = .ok (.iload 4, 2) := by decide +kernel
theorem dX4_openPathOf_113 : decode cX4_openPathOf 113 = .ok (.invokevirtual 173, 3) := by decide +kernel
theorem dX4_openPathOf_116 : decode cX4_openPathOf 116 = .ok (.aload_n 0, 1) := by decide +kernel
theorem dX4_openPathOf_117 : decode cX4_openPathOf 117 = .ok (.getfield 25, 3) := by decide +kernel
theorem dX4_openPathOf_120 : decode cX4_openPathOf 120 = .ok (.iload 4, 2) := by decide +kernel
theorem dX4_openPathOf_122 : decode cX4_openPathOf 122 = .ok (.invokevirtual 167, 3) := by decide +kernel
theorem dX4_openPathOf_125 : decode cX4_openPathOf 125 = .ok (.ifCond .ne 10, 3) := by decide +kernel
theorem dX4_openPathOf_128 : decode cX4_openPathOf 128 = .ok (.aload_n 0, 1) := by decide +kernel
theorem dX4_openPathOf_129 : decode cX4_openPathOf 129 = .ok (.iconst 1, 1) := by decide +kernel
theorem dX4_openPathOf_130 : decode cX4_openPathOf 130 = .ok (.putfield 140, 3) := by decide +kernel
theorem dX4_openPathOf_133 : decode cX4_openPathOf 133 = .ok (.iconst (-1), 1) := by decide +kernel
theorem dX4_openPathOf_134 : decode cX4_openPathOf 134 = .ok (.ireturn, 1) := by decide +kernel
theorem dX4_openPathOf_135 : decode cX4_openPathOf 135 = .ok (.aload_n 0, 1) := by decide +kernel
theorem dX4_openPathOf_136 : decode cX4_openPathOf 136 = .ok (.getfield 25, 3) := by decide +kernel
theorem dX4_openPathOf_139 : decode cX4_openPathOf 139 = .ok (.iload_n 1, 1) := by decide +kernel
theorem dX4_openPathOf_140 : decode cX4_openPathOf 140 = .ok (.iload 5, 2) := by decide +kernel
theorem dX4_openPathOf_142 : decode cX4_openPathOf 142 = .ok (.invokevirtual 159, 3) := by decide +kernel
theorem dX4_openPathOf_145 : decode cX4_openPathOf 145 = .ok (.iload 4, 2) := by decide +kernel
theorem dX4_openPathOf_147 : decode cX4_openPathOf 147 = .ok (.ireturn, 1) := by decide +kernel
set_option maxRecDepth 20000 in
theorem ggX4_entryOf_X3_wordOf : GoodIn wsX4_entryOf wsX3_wordOf := goodIn_r _ [6, 7, 19, 20, 21, 22, 23, 24, 25, 26, 27, 28, 29] (by decide +kernel) (by decide +kernel)
set_option maxRecDepth 20000 in
theorem gX4_entryOf_X3_wordOf : GoodIn wsX4_entryOf (wsV RX4 98 RX3 yX3_wordOf wsX3_wordOf) := goodIn_app (goodIn_of _ (by decide +kernel)) ggX4_entryOf_X3_wordOf
set_option maxRecDepth 20000 in
theorem ggX4_entryOf_X4_entryShift : GoodIn wsX4_entryOf wsX4_entryShift := goodIn_r _ [11] (by decide +kernel) (by decide +kernel)
set_option maxRecDepth 20000 in
theorem gX4_entryOf_X4_entryShift : GoodIn wsX4_entryOf (va_wsS RX4 176 yX4_entryShift wsX4_entryShift) := goodIn_app (goodIn_of _ (by decide +kernel)) ggX4_entryOf_X4_entryShift
theorem dX4_entryOf_0 : decode cX4_entryOf 0 = .ok (.iload_n 1, 1) := by decide +kernel
theorem dX4_entryOf_1 : decode cX4_entryOf 1 = .ok (.bipush 8, 2) := by decide +kernel
theorem dX4_entryOf_3 : decode cX4_entryOf 3 = .ok (.irem, 1) := by decide +kernel
theorem dX4_entryOf_4 : decode cX4_entryOf 4 = .ok (.istore_n 2, 1) := by decide +kernel
theorem dX4_entryOf_5 : decode cX4_entryOf 5 = .ok (.aload_n 0, 1) := by decide +kernel
theorem dX4_entryOf_6 : decode cX4_entryOf 6 = .ok (.getfield 21, 3) := by decide +kernel
theorem dX4_entryOf_9 : decode cX4_entryOf 9 = .ok (.iload_n 1, 1) := by decide +kernel
theorem dX4_entryOf_10 : decode cX4_entryOf 10 = .ok (.bipush 8, 2) := by decide +kernel
theorem dX4_entryOf_12 : decode cX4_entryOf 12 = .ok (.idiv, 1) := by decide +kernel
theorem dX4_entryOf_13 : decode cX4_entryOf 13 = .ok (.iload_n 2, 1) := by decide +kernel
theorem dX4_entryOf_14 : decode cX4_entryOf 14 = .ok (.iconst 2, 1) := by decide +kernel
theorem dX4_entryOf_15 : decode cX4_entryOf 15 = .ok (.idiv, 1) := by decide +kernel
theorem dX4_entryOf_16 : decode cX4_entryOf 16 = .ok (.invokevirtual 98, 3) := by decide +kernel
theorem dX4_entryOf_19 : decode cX4_entryOf 19 = .ok (.istore_n 3, 1) := by decide +kernel
theorem dX4_entryOf_20 : decode cX4_entryOf 20 = .ok (.iload_n 3, 1) := by decide +kernel
theorem dX4_entryOf_21 : decode cX4_entryOf 21 = .ok (.iload_n 2, 1) := by decide +kernel
theorem dX4_entryOf_22 : decode cX4_entryOf 22 = .ok (.invokestatic 176, 3) := by decide +kernel
theorem dX4_entryOf_25 : decode cX4_entryOf 25 = .ok (.iushr, 1) := by decide +kernel
theorem dX4_entryOf_26 : decode cX4_entryOf 26 = .ok (.bipush 31, 2) := by decide +kernel
theorem dX4_entryOf_28 : decode cX4_entryOf 28 = .ok (.iand, 1) := by decide +kernel
theorem dX4_entryOf_29 : decode cX4_entryOf 29 = .ok (.ireturn, 1) := by decide +kernel
set_option maxRecDepth 20000 in
theorem ggX4_setEntry_X4_entryShift : GoodIn wsX4_setEntry wsX4_entryShift := goodIn_r _ [5] (by decide +kernel) (by decide +kernel)
set_option maxRecDepth 20000 in
theorem gX4_setEntry_X4_entryShift : GoodIn wsX4_setEntry (va_wsS RX4 176 yX4_entryShift wsX4_entryShift) := goodIn_app (goodIn_of _ (by decide +kernel)) ggX4_setEntry_X4_entryShift
set_option maxRecDepth 20000 in
theorem ggX4_setEntry_X3_wordOf : GoodIn wsX4_setEntry wsX3_wordOf := goodIn_r _ [10, 11, 23, 24, 25, 26, 27, 28, 29, 30, 31, 32, 33] (by decide +kernel) (by decide +kernel)
set_option maxRecDepth 20000 in
theorem gX4_setEntry_X3_wordOf : GoodIn wsX4_setEntry (wsV RX4 98 RX3 yX3_wordOf wsX3_wordOf) := goodIn_app (goodIn_of _ (by decide +kernel)) ggX4_setEntry_X3_wordOf
set_option maxRecDepth 20000 in
theorem ggX4_setEntry_X3_setWord : GoodIn wsX4_setEntry wsX3_setWord := goodIn_r _ [15, 11, 23, 24, 25, 26, 27, 28, 29, 30, 31, 32, 33] (by decide +kernel) (by decide +kernel)
set_option maxRecDepth 20000 in
theorem gX4_setEntry_X3_setWord : GoodIn wsX4_setEntry (wsV RX4 86 RX3 yX3_setWord wsX3_setWord) := goodIn_app (goodIn_of _ (by decide +kernel)) ggX4_setEntry_X3_setWord
theorem dX4_setEntry_0 : decode cX4_setEntry 0 = .ok (.iload_n 1, 1) := by decide +kernel
theorem dX4_setEntry_1 : decode cX4_setEntry 1 = .ok (.bipush 8, 2) := by decide +kernel
theorem dX4_setEntry_3 : decode cX4_setEntry 3 = .ok (.irem, 1) := by decide +kernel
theorem dX4_setEntry_4 : decode cX4_setEntry 4 = .ok (.istore_n 3, 1) := by decide +kernel
theorem dX4_setEntry_5 : decode cX4_setEntry 5 = .ok (.iload_n 3, 1) := by decide +kernel
theorem dX4_setEntry_6 : decode cX4_setEntry 6 = .ok (.invokestatic 176, 3) := by decide +kernel
theorem dX4_setEntry_9 : decode cX4_setEntry 9 = .ok (.istore 4, 2) := by decide +kernel
theorem dX4_setEntry_11 : decode cX4_setEntry 11 = .ok (.aload_n 0, 1) := by decide +kernel
theorem dX4_setEntry_12 : decode cX4_setEntry 12 = .ok (.getfield 21, 3) := by decide +kernel
theorem dX4_setEntry_15 : decode cX4_setEntry 15 = .ok (.iload_n 1, 1) := by decide +kernel
theorem dX4_setEntry_16 : decode cX4_setEntry 16 = .ok (.bipush 8, 2) := by decide +kernel
theorem dX4_setEntry_18 : decode cX4_setEntry 18 = .ok (.idiv, 1) := by decide +kernel
theorem dX4_setEntry_19 : decode cX4_setEntry 19 = .ok (.iload_n 3, 1) := by decide +kernel
theorem dX4_setEntry_20 : decode cX4_setEntry 20 = .ok (.iconst 2, 1) := by decide +kernel
theorem dX4_setEntry_21 : decode cX4_setEntry 21 = .ok (.idiv, 1) := by decide +kernel
theorem dX4_setEntry_22 : decode cX4_setEntry 22 = .ok (.invokevirtual 98, 3) := by decide +kernel
theorem dX4_setEntry_25 : decode cX4_setEntry 25 = .ok (.bipush 31, 2) := by decide +kernel
theorem dX4_setEntry_27 : decode cX4_setEntry 27 = .ok (.iload 4, 2) := by decide +kernel
theorem dX4_setEntry_29 : decode cX4_setEntry 29 = .ok (.ishl, 1) := by decide +kernel
theorem dX4_setEntry_30 : decode cX4_setEntry 30 = .ok (.iconst (-1), 1) := by decide +kernel
theorem dX4_setEntry_31 : decode cX4_setEntry 31 = .ok (.ixor, 1) := by decide +kernel
theorem dX4_setEntry_32 : decode cX4_setEntry 32 = .ok (.iand, 1) := by decide +kernel
theorem dX4_setEntry_33 : decode cX4_setEntry 33 = .ok (.istore 5, 2) := by decide +kernel
theorem dX4_setEntry_35 : decode cX4_setEntry 35 = .ok (.aload_n 0, 1) := by decide +kernel
theorem dX4_setEntry_36 : decode cX4_setEntry 36 = .ok (.getfield 21, 3) := by decide +kernel
theorem dX4_setEntry_39 : decode cX4_setEntry 39 = .ok (.iload_n 1, 1) := by decide +kernel
theorem dX4_setEntry_40 : decode cX4_setEntry 40 = .ok (.bipush 8, 2) := by decide +kernel
theorem dX4_setEntry_42 : decode cX4_setEntry 42 = .ok (.idiv, 1) := by decide +kernel
theorem dX4_setEntry_43 : decode cX4_setEntry 43 = .ok (.iload_n 3, 1) := by decide +kernel
theorem dX4_setEntry_44 : decode cX4_setEntry 44 = .ok (.iconst 2, 1) := by decide +kernel
theorem dX4_setEntry_45 : decode cX4_setEntry 45 = .ok (.idiv, 1) := by decide +kernel
theorem dX4_setEntry_46 : decode cX4_setEntry 46 = .ok (.iload 5, 2) := by decide +kernel
theorem dX4_setEntry_48 : decode cX4_setEntry 48 = .ok (.iload_n 2, 1) := by decide +kernel
theorem dX4_setEntry_49 : decode cX4_setEntry 49 = .ok (.iload 4, 2) := by decide +kernel
theorem dX4_setEntry_51 : decode cX4_setEntry 51 = .ok (.ishl, 1) := by decide +kernel
theorem dX4_setEntry_52 : decode cX4_setEntry 52 = .ok (.ior, 1) := by decide +kernel
theorem dX4_setEntry_53 : decode cX4_setEntry 53 = .ok (.invokevirtual 86, 3) := by decide +kernel
theorem dX4_setEntry_56 : decode cX4_setEntry 56 = .ok (.return_, 1) := by decide +kernel
theorem dX4_entryShift_0 : decode cX4_entryShift 0 = .ok (.bipush 16, 2) := by decide +kernel
theorem dX4_entryShift_2 : decode cX4_entryShift 2 = .ok (.iload_n 0, 1) := by decide +kernel
theorem dX4_entryShift_3 : decode cX4_entryShift 3 = .ok (.iconst 2, 1) := by decide +kernel
theorem dX4_entryShift_4 : decode cX4_entryShift 4 = .ok (.irem, 1) := by decide +kernel
theorem dX4_entryShift_5 : decode cX4_entryShift 5 = .ok (.imul, 1) := by decide +kernel
theorem dX4_entryShift_6 : decode cX4_entryShift 6 = .ok (.ireturn, 1) := by decide +kernel
set_option maxRecDepth 20000 in
theorem ggX5_init_X5_begin : GoodIn wsX5_init wsX5_begin := goodIn_r _ [25, 26, 27, 28, 29, 15, 20, 6, 10, 9, 11, 8, 5, 12, 30, 31, 32, 24, 33, 34, 35, 36, 37, 38, 39, 40, 41, 42, 43, 44, 45, 46, 47, 48, 49, 50, 51, 52, 53, 54, 55, 56, 57, 58, 59, 60, 61, 62, 63, 64, 65, 66, 67, 68, 69, 70, 71, 72, 73, 74, 75, 76, 77, 78, 79, 80, 81, 82, 83, 84, 85, 86, 87, 88, 89, 90, 91, 92, 93] (by decide +kernel) (by decide +kernel)
set_option maxRecDepth 20000 in
theorem gX5_init_X5_begin : GoodIn wsX5_init (wsV RX5 54 RX5 yX5_begin wsX5_begin) := goodIn_app (goodIn_of _ (by decide +kernel)) ggX5_init_X5_begin
theorem dX5_init_0 : decode cX5_init 0 = .ok (.aload_n 0, 1) := by decide +kernel
theorem dX5_init_1 : decode cX5_init 1 = .ok (.invokespecial 1, 3) := by decide +kernel
theorem dX5_init_4 : decode cX5_init 4 = .ok (.aload_n 0, 1) := by decide +kernel
theorem dX5_init_5 : decode cX5_init 5 = .ok (.sipush 1750, 3) := by decide +kernel
theorem dX5_init_8 : decode cX5_init 8 = .ok (.newarray .int, 2) := by decide +kernel
theorem dX5_init_10 : decode cX5_init 10 = .ok (.putfield 7, 3) := by decide +kernel
theorem dX5_init_13 : decode cX5_init 13 = .ok (.aload_n 0, 1) := by decide +kernel
theorem dX5_init_14 : decode cX5_init 14 = .ok (.bipush 70, 2) := by decide +kernel
theorem dX5_init_16 : decode cX5_init 16 = .ok (.newarray .int, 2) := by decide +kernel
theorem dX5_init_18 : decode cX5_init 18 = .ok (.putfield 13, 3) := by decide +kernel
theorem dX5_init_21 : decode cX5_init 21 = .ok (.aload_n 0, 1) := by decide +kernel
theorem dX5_init_22 : decode cX5_init 22 = .ok (.bipush 72, 2) := by decide +kernel
theorem dX5_init_24 : decode cX5_init 24 = .ok (.newarray .boolean, 2) := by decide +kernel
theorem dX5_init_26 : decode cX5_init 26 = .ok (.putfield 16, 3) := by decide +kernel
theorem dX5_init_29 : decode cX5_init 29 = .ok (.aload_n 0, 1) := by decide +kernel
theorem dX5_init_30 : decode cX5_init 30 = .ok (.bipush 72, 2) := by decide +kernel
theorem dX5_init_32 : decode cX5_init 32 = .ok (.newarray .int, 2) := by decide +kernel
theorem dX5_init_34 : decode cX5_init 34 = .ok (.putfield 20, 3) := by decide +kernel
theorem dX5_init_37 : decode cX5_init 37 = .ok (.aload_n 0, 1) := by decide +kernel
theorem dX5_init_38 : decode cX5_init 38 = .ok (.sipush 288, 3) := by decide +kernel
theorem dX5_init_41 : decode cX5_init 41 = .ok (.newarray .int, 2) := by decide +kernel
theorem dX5_init_43 : decode cX5_init 43 = .ok (.putfield 23, 3) := by decide +kernel
theorem dX5_init_46 : decode cX5_init 46 = .ok (.aload_n 0, 1) := by decide +kernel
theorem dX5_init_47 : decode cX5_init 47 = .ok (.bipush 8, 2) := by decide +kernel
theorem dX5_init_49 : decode cX5_init 49 = .ok (.newarray .int, 2) := by decide +kernel
theorem dX5_init_51 : decode cX5_init 51 = .ok (.putfield 26, 3) := by decide +kernel
theorem dX5_init_54 : decode cX5_init 54 = .ok (.aload_n 0, 1) := by decide +kernel
theorem dX5_init_55 : decode cX5_init 55 = .ok (.bipush 24, 2) := by decide +kernel
theorem dX5_init_57 : decode cX5_init 57 = .ok (.newarray .int, 2) := by decide +kernel
theorem dX5_init_59 : decode cX5_init 59 = .ok (.putfield 29, 3) := by decide +kernel
theorem dX5_init_62 : decode cX5_init 62 = .ok (.aload_n 0, 1) := by decide +kernel
theorem dX5_init_63 : decode cX5_init 63 = .ok (.bipush 64, 2) := by decide +kernel
theorem dX5_init_65 : decode cX5_init 65 = .ok (.newarray .int, 2) := by decide +kernel
theorem dX5_init_67 : decode cX5_init 67 = .ok (.putfield 32, 3) := by decide +kernel
theorem dX5_init_70 : decode cX5_init 70 = .ok (.aload_n 0, 1) := by decide +kernel
theorem dX5_init_71 : decode cX5_init 71 = .ok (.bipush 64, 2) := by decide +kernel
theorem dX5_init_73 : decode cX5_init 73 = .ok (.newarray .int, 2) := by decide +kernel
theorem dX5_init_75 : decode cX5_init 75 = .ok (.putfield 35, 3) := by decide +kernel
theorem dX5_init_78 : decode cX5_init 78 = .ok (.aload_n 0, 1) := by decide +kernel
theorem dX5_init_79 : decode cX5_init 79 = .ok (.bipush 8, 2) := by decide +kernel
theorem dX5_init_81 : decode cX5_init 81 = .ok (.newarray .boolean, 2) := by decide +kernel
theorem dX5_init_83 : decode cX5_init 83 = .ok (.putfield 38, 3) := by decide +kernel
theorem dX5_init_86 : decode cX5_init 86 = .ok (.aload_n 0, 1) := by decide +kernel
theorem dX5_init_87 : decode cX5_init 87 = .ok (.bipush 8, 2) := by decide +kernel
theorem dX5_init_89 : decode cX5_init 89 = .ok (.newarray .long, 2) := by decide +kernel
theorem dX5_init_91 : decode cX5_init 91 = .ok (.putfield 41, 3) := by decide +kernel
theorem dX5_init_94 : decode cX5_init 94 = .ok (.aload_n 0, 1) := by decide +kernel
theorem dX5_init_95 : decode cX5_init 95 = .ok (.bipush 8, 2) := by decide +kernel
theorem dX5_init_97 : decode cX5_init 97 = .ok (.newarray .int, 2) := by decide +kernel
theorem dX5_init_99 : decode cX5_init 99 = .ok (.putfield 45, 3) := by decide +kernel
theorem dX5_init_102 : decode cX5_init 102 = .ok (.aload_n 0, 1) := by decide +kernel
theorem dX5_init_103 : decode cX5_init 103 = .ok (.bipush 48, 2) := by decide +kernel
theorem dX5_init_105 : decode cX5_init 105 = .ok (.newarray .int, 2) := by decide +kernel
theorem dX5_init_107 : decode cX5_init 107 = .ok (.putfield 48, 3) := by decide +kernel
theorem dX5_init_110 : decode cX5_init 110 = .ok (.aload_n 0, 1) := by decide +kernel
theorem dX5_init_111 : decode cX5_init 111 = .ok (.bipush 64, 2) := by decide +kernel
theorem dX5_init_113 : decode cX5_init 113 = .ok (.newarray .boolean, 2) := by decide +kernel
theorem dX5_init_115 : decode cX5_init 115 = .ok (.putfield 51, 3) := by decide +kernel
theorem dX5_init_118 : decode cX5_init 118 = .ok (.aload_n 0, 1) := by decide +kernel
theorem dX5_init_119 : decode cX5_init 119 = .ok (.iconst 1, 1) := by decide +kernel
theorem dX5_init_120 : decode cX5_init 120 = .ok (.iconst 0, 1) := by decide +kernel
theorem dX5_init_121 : decode cX5_init 121 = .ok (.invokevirtual 54, 3) := by decide +kernel
theorem dX5_init_124 : decode cX5_init 124 = .ok (.return_, 1) := by decide +kernel
theorem dX5_thrown_0 : decode cX5_thrown 0 = .ok (.aload_n 0, 1) := by decide +kernel
theorem dX5_thrown_1 : decode cX5_thrown 1 = .ok (.getfield 58, 3) := by decide +kernel
theorem dX5_thrown_4 : decode cX5_thrown 4 = .ok (.ireturn, 1) := by decide +kernel
theorem dX5_raise_0 : decode cX5_raise 0 = .ok (.aload_n 0, 1) := by decide +kernel
theorem dX5_raise_1 : decode cX5_raise 1 = .ok (.iload_n 1, 1) := by decide +kernel
theorem dX5_raise_2 : decode cX5_raise 2 = .ok (.putfield 58, 3) := by decide +kernel
theorem dX5_raise_5 : decode cX5_raise 5 = .ok (.iconst 0, 1) := by decide +kernel
theorem dX5_raise_6 : decode cX5_raise 6 = .ok (.ireturn, 1) := by decide +kernel
theorem dX5_draw_0 : decode cX5_draw 0 = .ok (.aload_n 0, 1) := by decide +kernel
theorem dX5_draw_1 : decode cX5_draw 1 = .ok (.dup, 1) := by decide +kernel
theorem dX5_draw_2 : decode cX5_draw 2 = .ok (.getfield 62, 3) := by decide +kernel
theorem dX5_draw_5 : decode cX5_draw 5 = .ok (.aload_n 0, 1) := by decide +kernel
theorem dX5_draw_6 : decode cX5_draw 6 = .ok (.getfield 62, 3) := by decide +kernel
theorem dX5_draw_9 : decode cX5_draw 9 = .ok (.bipush 13, 2) := by decide +kernel
theorem dX5_draw_11 : decode cX5_draw 11 = .ok (.ishl, 1) := by decide +kernel
theorem dX5_draw_12 : decode cX5_draw 12 = .ok (.ixor, 1) := by decide +kernel
theorem dX5_draw_13 : decode cX5_draw 13 = .ok (.putfield 62, 3) := by decide +kernel
theorem dX5_draw_16 : decode cX5_draw 16 = .ok (.aload_n 0, 1) := by decide +kernel
theorem dX5_draw_17 : decode cX5_draw 17 = .ok (.dup, 1) := by decide +kernel
theorem dX5_draw_18 : decode cX5_draw 18 = .ok (.getfield 62, 3) := by decide +kernel
theorem dX5_draw_21 : decode cX5_draw 21 = .ok (.aload_n 0, 1) := by decide +kernel
theorem dX5_draw_22 : decode cX5_draw 22 = .ok (.getfield 62, 3) := by decide +kernel
theorem dX5_draw_25 : decode cX5_draw 25 = .ok (.bipush 17, 2) := by decide +kernel
theorem dX5_draw_27 : decode cX5_draw 27 = .ok (.iushr, 1) := by decide +kernel
theorem dX5_draw_28 : decode cX5_draw 28 = .ok (.ixor, 1) := by decide +kernel
theorem dX5_draw_29 : decode cX5_draw 29 = .ok (.putfield 62, 3) := by decide +kernel
theorem dX5_draw_32 : decode cX5_draw 32 = .ok (.aload_n 0, 1) := by decide +kernel
theorem dX5_draw_33 : decode cX5_draw 33 = .ok (.dup, 1) := by decide +kernel
theorem dX5_draw_34 : decode cX5_draw 34 = .ok (.getfield 62, 3) := by decide +kernel
theorem dX5_draw_37 : decode cX5_draw 37 = .ok (.aload_n 0, 1) := by decide +kernel
theorem dX5_draw_38 : decode cX5_draw 38 = .ok (.getfield 62, 3) := by decide +kernel
theorem dX5_draw_41 : decode cX5_draw 41 = .ok (.iconst 5, 1) := by decide +kernel
theorem dX5_draw_42 : decode cX5_draw 42 = .ok (.ishl, 1) := by decide +kernel
theorem dX5_draw_43 : decode cX5_draw 43 = .ok (.ixor, 1) := by decide +kernel
theorem dX5_draw_44 : decode cX5_draw 44 = .ok (.putfield 62, 3) := by decide +kernel
theorem dX5_draw_47 : decode cX5_draw 47 = .ok (.aload_n 0, 1) := by decide +kernel
theorem dX5_draw_48 : decode cX5_draw 48 = .ok (.getfield 62, 3) := by decide +kernel
theorem dX5_draw_51 : decode cX5_draw 51 = .ok (.bipush 32, 2) := by decide +kernel
theorem dX5_draw_53 : decode cX5_draw 53 = .ok (.iload_n 1, 1) := by decide +kernel
theorem dX5_draw_54 : decode cX5_draw 54 = .ok (.isub, 1) := by decide +kernel
theorem dX5_draw_55 : decode cX5_draw 55 = .ok (.iushr, 1) := by decide +kernel
theorem dX5_draw_56 : decode cX5_draw 56 = .ok (.ireturn, 1) := by decide +kernel
theorem dX5_buckets_0 : decode cX5_buckets 0 = .ok (.iload_n 0, 1) := by decide +kernel
theorem dX5_buckets_1 : decode cX5_buckets 1 = .ok (.ifCond .ne 8, 3) := by decide +kernel
theorem dX5_buckets_4 : decode cX5_buckets 4 = .ok (.bipush 7, 2) := by decide +kernel
theorem dX5_buckets_6 : decode cX5_buckets 6 = .ok (.goto 5, 3) := by decide +kernel
theorem dX5_buckets_9 : decode cX5_buckets 9 = .ok (.bipush 63, 2) := by decide +kernel
theorem dX5_buckets_11 : decode cX5_buckets 11 = .ok (.ireturn, 1) := by decide +kernel
theorem dX5_levels_0 : decode cX5_levels 0 = .ok (.iload_n 0, 1) := by decide +kernel
theorem dX5_levels_1 : decode cX5_levels 1 = .ok (.ifCond .ne 7, 3) := by decide +kernel
theorem dX5_levels_4 : decode cX5_levels 4 = .ok (.iconst 3, 1) := by decide +kernel
theorem dX5_levels_5 : decode cX5_levels 5 = .ok (.goto 5, 3) := by decide +kernel
theorem dX5_levels_8 : decode cX5_levels 8 = .ok (.bipush 6, 2) := by decide +kernel
theorem dX5_levels_10 : decode cX5_levels 10 = .ok (.ireturn, 1) := by decide +kernel
theorem dX5_place_0 : decode cX5_place 0 = .ok (.iload_n 0, 1) := by decide +kernel
theorem dX5_place_1 : decode cX5_place 1 = .ok (.ifCond .ne 7, 3) := by decide +kernel
theorem dX5_place_4 : decode cX5_place 4 = .ok (.iload_n 1, 1) := by decide +kernel
theorem dX5_place_5 : decode cX5_place 5 = .ok (.goto 7, 3) := by decide +kernel
theorem dX5_place_8 : decode cX5_place 8 = .ok (.bipush 7, 2) := by decide +kernel
theorem dX5_place_10 : decode cX5_place 10 = .ok (.iload_n 1, 1) := by decide +kernel
theorem dX5_place_11 : decode cX5_place 11 = .ok (.iadd, 1) := by decide +kernel
theorem dX5_place_12 : decode cX5_place 12 = .ok (.ireturn, 1) := by decide +kernel
theorem dX5_first_0 : decode cX5_first 0 = .ok (.iload_n 0, 1) := by decide +kernel
theorem dX5_first_1 : decode cX5_first 1 = .ok (.ifCond .ne 7, 3) := by decide +kernel
theorem dX5_first_4 : decode cX5_first 4 = .ok (.iconst 0, 1) := by decide +kernel
theorem dX5_first_5 : decode cX5_first 5 = .ok (.goto 5, 3) := by decide +kernel
theorem dX5_first_8 : decode cX5_first 8 = .ok (.bipush 8, 2) := by decide +kernel
theorem dX5_first_10 : decode cX5_first 10 = .ok (.ireturn, 1) := by decide +kernel
theorem dX5_blocks_0 : decode cX5_blocks 0 = .ok (.iload_n 0, 1) := by decide +kernel
theorem dX5_blocks_1 : decode cX5_blocks 1 = .ok (.ifCond .ne 8, 3) := by decide +kernel
theorem dX5_blocks_4 : decode cX5_blocks 4 = .ok (.bipush 8, 2) := by decide +kernel
theorem dX5_blocks_6 : decode cX5_blocks 6 = .ok (.goto 5, 3) := by decide +kernel
theorem dX5_blocks_9 : decode cX5_blocks 9 = .ok (.bipush 64, 2) := by decide +kernel
theorem dX5_blocks_11 : decode cX5_blocks 11 = .ok (.ireturn, 1) := by decide +kernel
set_option maxRecDepth 20000 in
theorem ggX5_onPath_X5_buckets : GoodIn wsX5_onPath wsX5_buckets := goodIn_r _ [4] (by decide +kernel) (by decide +kernel)
set_option maxRecDepth 20000 in
theorem gX5_onPath_X5_buckets : GoodIn wsX5_onPath (va_wsS RX5 65 yX5_buckets wsX5_buckets) := goodIn_app (goodIn_of _ (by decide +kernel)) ggX5_onPath_X5_buckets
theorem dX5_onPath_0 : decode cX5_onPath 0 = .ok (.iload_n 0, 1) := by decide +kernel
theorem dX5_onPath_1 : decode cX5_onPath 1 = .ok (.invokestatic 65, 3) := by decide +kernel
theorem dX5_onPath_4 : decode cX5_onPath 4 = .ok (.iconst 2, 1) := by decide +kernel
theorem dX5_onPath_5 : decode cX5_onPath 5 = .ok (.idiv, 1) := by decide +kernel
theorem dX5_onPath_6 : decode cX5_onPath 6 = .ok (.iload_n 1, 1) := by decide +kernel
theorem dX5_onPath_7 : decode cX5_onPath 7 = .ok (.iadd, 1) := by decide +kernel
theorem dX5_onPath_8 : decode cX5_onPath 8 = .ok (.istore_n 3, 1) := by decide +kernel
theorem dX5_onPath_9 : decode cX5_onPath 9 = .ok (.iconst 0, 1) := by decide +kernel
theorem dX5_onPath_10 : decode cX5_onPath 10 = .ok (.istore 4, 2) := by decide +kernel
theorem dX5_onPath_12 : decode cX5_onPath 12 = .ok (.iload 4, 2) := by decide +kernel
theorem dX5_onPath_14 : decode cX5_onPath 14 = .ok (.iload_n 2, 1) := by decide +kernel
theorem dX5_onPath_15 : decode cX5_onPath 15 = .ok (.if_icmp .ge 15, 3) := by decide +kernel
theorem dX5_onPath_18 : decode cX5_onPath 18 = .ok (.iload_n 3, 1) := by decide +kernel
theorem dX5_onPath_19 : decode cX5_onPath 19 = .ok (.iconst 1, 1) := by decide +kernel
theorem dX5_onPath_20 : decode cX5_onPath 20 = .ok (.isub, 1) := by decide +kernel
theorem dX5_onPath_21 : decode cX5_onPath 21 = .ok (.iconst 2, 1) := by decide +kernel
theorem dX5_onPath_22 : decode cX5_onPath 22 = .ok (.idiv, 1) := by decide +kernel
theorem dX5_onPath_23 : decode cX5_onPath 23 = .ok (.istore_n 3, 1) := by decide +kernel
theorem dX5_onPath_24 : decode cX5_onPath 24 = .ok (.iinc 4 1, 3) := by decide +kernel
theorem dX5_onPath_27 : decode cX5_onPath 27 = .ok (.goto (-15), 3) := by decide +kernel
theorem dX5_onPath_30 : decode cX5_onPath 30 = .ok (.iload_n 3, 1) := by decide +kernel
theorem dX5_onPath_31 : decode cX5_onPath 31 = .ok (.ireturn, 1) := by decide +kernel
set_option maxRecDepth 20000 in
theorem ggX5_passes_X5_levels : GoodIn wsX5_passes wsX5_levels := goodIn_r _ [4] (by decide +kernel) (by decide +kernel)
set_option maxRecDepth 20000 in
theorem gX5_passes_X5_levels : GoodIn wsX5_passes (va_wsS RX5 69 yX5_levels wsX5_levels) := goodIn_app (goodIn_of _ (by decide +kernel)) ggX5_passes_X5_levels
set_option maxRecDepth 20000 in
theorem ggX5_passes_X5_onPath : GoodIn wsX5_passes wsX5_onPath := goodIn_r _ [7, 8, 9, 3, 10] (by decide +kernel) (by decide +kernel)
set_option maxRecDepth 20000 in
theorem gX5_passes_X5_onPath : GoodIn wsX5_passes (va_wsS RX5 72 yX5_onPath wsX5_onPath) := goodIn_app (goodIn_of _ (by decide +kernel)) ggX5_passes_X5_onPath
theorem dX5_passes_0 : decode cX5_passes 0 = .ok (.iconst 0, 1) := by decide +kernel
theorem dX5_passes_1 : decode cX5_passes 1 = .ok (.istore_n 3, 1) := by decide +kernel
theorem dX5_passes_2 : decode cX5_passes 2 = .ok (.iload_n 3, 1) := by decide +kernel
theorem dX5_passes_3 : decode cX5_passes 3 = .ok (.iload_n 0, 1) := by decide +kernel
theorem dX5_passes_4 : decode cX5_passes 4 = .ok (.invokestatic 69, 3) := by decide +kernel
theorem dX5_passes_7 : decode cX5_passes 7 = .ok (.if_icmp .ge 21, 3) := by decide +kernel
theorem dX5_passes_10 : decode cX5_passes 10 = .ok (.iload_n 0, 1) := by decide +kernel
theorem dX5_passes_11 : decode cX5_passes 11 = .ok (.iload_n 1, 1) := by decide +kernel
theorem dX5_passes_12 : decode cX5_passes 12 = .ok (.iload_n 3, 1) := by decide +kernel
theorem dX5_passes_13 : decode cX5_passes 13 = .ok (.invokestatic 72, 3) := by decide +kernel
theorem dX5_passes_16 : decode cX5_passes 16 = .ok (.iload_n 2, 1) := by decide +kernel
theorem dX5_passes_17 : decode cX5_passes 17 = .ok (.if_icmp .ne 5, 3) := by decide +kernel
theorem dX5_passes_20 : decode cX5_passes 20 = .ok (.iconst 1, 1) := by decide +kernel
theorem dX5_passes_21 : decode cX5_passes 21 = .ok (.ireturn, 1) := by decide +kernel
theorem dX5_passes_22 : decode cX5_passes 22 = .ok (.iinc 3 1, 3) := by decide +kernel
theorem dX5_passes_25 : decode cX5_passes 25 = .ok (.goto (-23), 3) := by decide +kernel
theorem dX5_passes_28 : decode cX5_passes 28 = .ok (.iconst 0, 1) := by decide +kernel
theorem dX5_passes_29 : decode cX5_passes 29 = .ok (.ireturn, 1) := by decide +kernel
set_option maxRecDepth 20000 in
theorem ggX5_pad_X5_place : GoodIn wsX5_pad wsX5_place := goodIn_r _ [11] (by decide +kernel) (by decide +kernel)
set_option maxRecDepth 20000 in
theorem gX5_pad_X5_place : GoodIn wsX5_pad (va_wsS RX5 80 yX5_place wsX5_place) := goodIn_app (goodIn_of _ (by decide +kernel)) ggX5_pad_X5_place
theorem dX5_pad_0 : decode cX5_pad 0 = .ok (.aload_n 0, 1) := by decide +kernel
theorem dX5_pad_1 : decode cX5_pad 1 = .ok (.getfield 76, 3) := by decide +kernel
theorem dX5_pad_4 : decode cX5_pad 4 = .ok (.bipush 64, 2) := by decide +kernel
theorem dX5_pad_6 : decode cX5_pad 6 = .ok (.iload_n 1, 1) := by decide +kernel
end
section
theorem dX5_pad_7 : decode cX5_pad 7 = .ok (.imul, 1) := by decide +kernel
theorem dX5_pad_8 : decode cX5_pad 8 = .ok (.iload_n 2, 1) := by decide +kernel
theorem dX5_pad_9 : decode cX5_pad 9 = .ok (.iadd, 1) := by decide +kernel
theorem dX5_pad_10 : decode cX5_pad 10 = .ok (.iconst 1, 1) := by decide +kernel
theorem dX5_pad_11 : decode cX5_pad 11 = .ok (.iadd, 1) := by decide +kernel
theorem dX5_pad_12 : decode cX5_pad 12 = .ok (.ldc 79, 2) := by decide +kernel
theorem dX5_pad_14 : decode cX5_pad 14 = .ok (.imul, 1) := by decide +kernel
theorem dX5_pad_15 : decode cX5_pad 15 = .ok (.ixor, 1) := by decide +kernel
theorem dX5_pad_16 : decode cX5_pad 16 = .ok (.aload_n 0, 1) := by decide +kernel
theorem dX5_pad_17 : decode cX5_pad 17 = .ok (.getfield 13, 3) := by decide +kernel
theorem dX5_pad_20 : decode cX5_pad 20 = .ok (.iload_n 1, 1) := by decide +kernel
theorem dX5_pad_21 : decode cX5_pad 21 = .ok (.iload_n 2, 1) := by decide +kernel
theorem dX5_pad_22 : decode cX5_pad 22 = .ok (.invokestatic 80, 3) := by decide +kernel
theorem dX5_pad_25 : decode cX5_pad 25 = .ok (.iaload, 1) := by decide +kernel
theorem dX5_pad_26 : decode cX5_pad 26 = .ok (.ldc 84, 2) := by decide +kernel
theorem dX5_pad_28 : decode cX5_pad 28 = .ok (.imul, 1) := by decide +kernel
theorem dX5_pad_29 : decode cX5_pad 29 = .ok (.ixor, 1) := by decide +kernel
theorem dX5_pad_30 : decode cX5_pad 30 = .ok (.iload_n 3, 1) := by decide +kernel
theorem dX5_pad_31 : decode cX5_pad 31 = .ok (.iconst 1, 1) := by decide +kernel
theorem dX5_pad_32 : decode cX5_pad 32 = .ok (.iadd, 1) := by decide +kernel
theorem dX5_pad_33 : decode cX5_pad 33 = .ok (.ldc 85, 2) := by decide +kernel
theorem dX5_pad_35 : decode cX5_pad 35 = .ok (.imul, 1) := by decide +kernel
theorem dX5_pad_36 : decode cX5_pad 36 = .ok (.ixor, 1) := by decide +kernel
theorem dX5_pad_37 : decode cX5_pad 37 = .ok (.istore 4, 2) := by decide +kernel
theorem dX5_pad_39 : decode cX5_pad 39 = .ok (.iload 4, 2) := by decide +kernel
theorem dX5_pad_41 : decode cX5_pad 41 = .ok (.iload 4, 2) := by decide +kernel
theorem dX5_pad_43 : decode cX5_pad 43 = .ok (.bipush 15, 2) := by decide +kernel
theorem dX5_pad_45 : decode cX5_pad 45 = .ok (.iushr, 1) := by decide +kernel
theorem dX5_pad_46 : decode cX5_pad 46 = .ok (.ixor, 1) := by decide +kernel
theorem dX5_pad_47 : decode cX5_pad 47 = .ok (.istore 4, 2) := by decide +kernel
theorem dX5_pad_49 : decode cX5_pad 49 = .ok (.iload 4, 2) := by decide +kernel
theorem dX5_pad_51 : decode cX5_pad 51 = .ok (.ldc 86, 2) := by decide +kernel
theorem dX5_pad_53 : decode cX5_pad 53 = .ok (.imul, 1) := by decide +kernel
theorem dX5_pad_54 : decode cX5_pad 54 = .ok (.istore 4, 2) := by decide +kernel
theorem dX5_pad_56 : decode cX5_pad 56 = .ok (.iload 4, 2) := by decide +kernel
theorem dX5_pad_58 : decode cX5_pad 58 = .ok (.iload 4, 2) := by decide +kernel
theorem dX5_pad_60 : decode cX5_pad 60 = .ok (.bipush 12, 2) := by decide +kernel
theorem dX5_pad_62 : decode cX5_pad 62 = .ok (.iushr, 1) := by decide +kernel
theorem dX5_pad_63 : decode cX5_pad 63 = .ok (.ixor, 1) := by decide +kernel
theorem dX5_pad_64 : decode cX5_pad 64 = .ok (.istore 4, 2) := by decide +kernel
theorem dX5_pad_66 : decode cX5_pad 66 = .ok (.iload 4, 2) := by decide +kernel
theorem dX5_pad_68 : decode cX5_pad 68 = .ok (.ldc 87, 2) := by decide +kernel
theorem dX5_pad_70 : decode cX5_pad 70 = .ok (.imul, 1) := by decide +kernel
theorem dX5_pad_71 : decode cX5_pad 71 = .ok (.istore 4, 2) := by decide +kernel
theorem dX5_pad_73 : decode cX5_pad 73 = .ok (.iload 4, 2) := by decide +kernel
theorem dX5_pad_75 : decode cX5_pad 75 = .ok (.iload 4, 2) := by decide +kernel
theorem dX5_pad_77 : decode cX5_pad 77 = .ok (.bipush 15, 2) := by decide +kernel
theorem dX5_pad_79 : decode cX5_pad 79 = .ok (.iushr, 1) := by decide +kernel
theorem dX5_pad_80 : decode cX5_pad 80 = .ok (.ixor, 1) := by decide +kernel
theorem dX5_pad_81 : decode cX5_pad 81 = .ok (.ireturn, 1) := by decide +kernel
set_option maxRecDepth 20000 in
theorem ggX5_tag_X5_pad : GoodIn wsX5_tag wsX5_pad := goodIn_r _ [7, 8, 9, 10, 11, 12, 13, 14, 15, 16, 6, 17, 18, 19, 20, 21, 22, 23, 24, 25, 26, 27, 28, 29, 30, 31, 32, 33, 34, 35, 36, 37] (by decide +kernel) (by decide +kernel)
set_option maxRecDepth 20000 in
theorem gX5_tag_X5_pad : GoodIn wsX5_tag (wsV RX5 88 RX5 yX5_pad wsX5_pad) := goodIn_app (goodIn_of _ (by decide +kernel)) ggX5_tag_X5_pad
set_option maxRecDepth 20000 in
theorem ggX5_tag_X5_place : GoodIn wsX5_tag wsX5_place := goodIn_r _ [17] (by decide +kernel) (by decide +kernel)
set_option maxRecDepth 20000 in
theorem gX5_tag_X5_place : GoodIn wsX5_tag (va_wsS RX5 80 yX5_place wsX5_place) := goodIn_app (goodIn_of _ (by decide +kernel)) ggX5_tag_X5_place
theorem dX5_tag_0 : decode cX5_tag 0 = .ok (.aload_n 0, 1) := by decide +kernel
theorem dX5_tag_1 : decode cX5_tag 1 = .ok (.iload_n 1, 1) := by decide +kernel
theorem dX5_tag_2 : decode cX5_tag 2 = .ok (.iload_n 2, 1) := by decide +kernel
theorem dX5_tag_3 : decode cX5_tag 3 = .ok (.bipush 24, 2) := by decide +kernel
theorem dX5_tag_5 : decode cX5_tag 5 = .ok (.invokevirtual 88, 3) := by decide +kernel
theorem dX5_tag_8 : decode cX5_tag 8 = .ok (.istore_n 3, 1) := by decide +kernel
theorem dX5_tag_9 : decode cX5_tag 9 = .ok (.iconst 0, 1) := by decide +kernel
theorem dX5_tag_10 : decode cX5_tag 10 = .ok (.istore 4, 2) := by decide +kernel
theorem dX5_tag_12 : decode cX5_tag 12 = .ok (.iload 4, 2) := by decide +kernel
theorem dX5_tag_14 : decode cX5_tag 14 = .ok (.bipush 24, 2) := by decide +kernel
theorem dX5_tag_16 : decode cX5_tag 16 = .ok (.if_icmp .ge 31, 3) := by decide +kernel
theorem dX5_tag_19 : decode cX5_tag 19 = .ok (.iload_n 3, 1) := by decide +kernel
theorem dX5_tag_20 : decode cX5_tag 20 = .ok (.aload_n 0, 1) := by decide +kernel
theorem dX5_tag_21 : decode cX5_tag 21 = .ok (.getfield 7, 3) := by decide +kernel
theorem dX5_tag_24 : decode cX5_tag 24 = .ok (.bipush 25, 2) := by decide +kernel
theorem dX5_tag_26 : decode cX5_tag 26 = .ok (.iload_n 1, 1) := by decide +kernel
theorem dX5_tag_27 : decode cX5_tag 27 = .ok (.iload_n 2, 1) := by decide +kernel
theorem dX5_tag_28 : decode cX5_tag 28 = .ok (.invokestatic 80, 3) := by decide +kernel
theorem dX5_tag_31 : decode cX5_tag 31 = .ok (.imul, 1) := by decide +kernel
theorem dX5_tag_32 : decode cX5_tag 32 = .ok (.iload 4, 2) := by decide +kernel
theorem dX5_tag_34 : decode cX5_tag 34 = .ok (.iadd, 1) := by decide +kernel
theorem dX5_tag_35 : decode cX5_tag 35 = .ok (.iaload, 1) := by decide +kernel
theorem dX5_tag_36 : decode cX5_tag 36 = .ok (.ixor, 1) := by decide +kernel
theorem dX5_tag_37 : decode cX5_tag 37 = .ok (.ldc 91, 2) := by decide +kernel
theorem dX5_tag_39 : decode cX5_tag 39 = .ok (.imul, 1) := by decide +kernel
theorem dX5_tag_40 : decode cX5_tag 40 = .ok (.istore_n 3, 1) := by decide +kernel
theorem dX5_tag_41 : decode cX5_tag 41 = .ok (.iinc 4 1, 3) := by decide +kernel
theorem dX5_tag_44 : decode cX5_tag 44 = .ok (.goto (-32), 3) := by decide +kernel
theorem dX5_tag_47 : decode cX5_tag 47 = .ok (.iload_n 3, 1) := by decide +kernel
theorem dX5_tag_48 : decode cX5_tag 48 = .ok (.ireturn, 1) := by decide +kernel
set_option maxRecDepth 20000 in
theorem ggX5_seal_X5_place : GoodIn wsX5_seal wsX5_place := goodIn_r _ [6] (by decide +kernel) (by decide +kernel)
set_option maxRecDepth 20000 in
theorem gX5_seal_X5_place : GoodIn wsX5_seal (va_wsS RX5 80 yX5_place wsX5_place) := goodIn_app (goodIn_of _ (by decide +kernel)) ggX5_seal_X5_place
set_option maxRecDepth 20000 in
theorem ggX5_seal_X5_pad : GoodIn wsX5_seal wsX5_pad := goodIn_r _ [10, 11, 12, 13, 14, 15, 16, 17, 3, 4, 5, 6, 23, 24, 25, 26, 27, 28, 29, 30, 31, 32, 33, 34, 35, 36, 37, 38, 39, 40, 41, 42] (by decide +kernel) (by decide +kernel)
set_option maxRecDepth 20000 in
theorem gX5_seal_X5_pad : GoodIn wsX5_seal (wsV RX5 88 RX5 yX5_pad wsX5_pad) := goodIn_app (goodIn_of _ (by decide +kernel)) ggX5_seal_X5_pad
set_option maxRecDepth 20000 in
theorem ggX5_seal_X5_tag : GoodIn wsX5_seal wsX5_tag := goodIn_r _ [21, 1, 22, 7, 8, 9, 5, 10, 11, 12, 13, 14, 15, 16, 17, 3, 4, 6, 23, 24, 25, 26, 27, 28, 29, 30, 31, 32, 33, 34, 35, 36, 37, 38, 39, 40, 41, 42] (by decide +kernel) (by decide +kernel)
set_option maxRecDepth 20000 in
theorem gX5_seal_X5_tag : GoodIn wsX5_seal (wsV RX5 92 RX5 yX5_tag wsX5_tag) := goodIn_app (goodIn_of _ (by decide +kernel)) ggX5_seal_X5_tag
theorem dX5_seal_0 : decode cX5_seal 0 = .ok (.bipush 25, 2) := by decide +kernel
theorem dX5_seal_2 : decode cX5_seal 2 = .ok (.iload_n 1, 1) := by decide +kernel
theorem dX5_seal_3 : decode cX5_seal 3 = .ok (.iload_n 2, 1) := by decide +kernel
theorem dX5_seal_4 : decode cX5_seal 4 = .ok (.invokestatic 80, 3) := by decide +kernel
theorem dX5_seal_7 : decode cX5_seal 7 = .ok (.imul, 1) := by decide +kernel
theorem dX5_seal_8 : decode cX5_seal 8 = .ok (.istore_n 3, 1) := by decide +kernel
theorem dX5_seal_9 : decode cX5_seal 9 = .ok (.iconst 0, 1) := by decide +kernel
theorem dX5_seal_10 : decode cX5_seal 10 = .ok (.istore 4, 2) := by decide +kernel
theorem dX5_seal_12 : decode cX5_seal 12 = .ok (.iload 4, 2) := by decide +kernel
theorem dX5_seal_14 : decode cX5_seal 14 = .ok (.bipush 24, 2) := by decide +kernel
theorem dX5_seal_16 : decode cX5_seal 16 = .ok (.if_icmp .ge 34, 3) := by decide +kernel
theorem dX5_seal_19 : decode cX5_seal 19 = .ok (.aload_n 0, 1) := by decide +kernel
theorem dX5_seal_20 : decode cX5_seal 20 = .ok (.getfield 7, 3) := by decide +kernel
theorem dX5_seal_23 : decode cX5_seal 23 = .ok (.iload_n 3, 1) := by decide +kernel
theorem dX5_seal_24 : decode cX5_seal 24 = .ok (.iload 4, 2) := by decide +kernel
theorem dX5_seal_26 : decode cX5_seal 26 = .ok (.iadd, 1) := by decide +kernel
theorem dX5_seal_27 : decode cX5_seal 27 = .ok (.aload_n 0, 1) := by decide +kernel
theorem dX5_seal_28 : decode cX5_seal 28 = .ok (.getfield 29, 3) := by decide +kernel
theorem dX5_seal_31 : decode cX5_seal 31 = .ok (.iload 4, 2) := by decide +kernel
theorem dX5_seal_33 : decode cX5_seal 33 = .ok (.iaload, 1) := by decide +kernel
theorem dX5_seal_34 : decode cX5_seal 34 = .ok (.aload_n 0, 1) := by decide +kernel
theorem dX5_seal_35 : decode cX5_seal 35 = .ok (.iload_n 1, 1) := by decide +kernel
theorem dX5_seal_36 : decode cX5_seal 36 = .ok (.iload_n 2, 1) := by decide +kernel
theorem dX5_seal_37 : decode cX5_seal 37 = .ok (.iload 4, 2) := by decide +kernel
theorem dX5_seal_39 : decode cX5_seal 39 = .ok (.invokevirtual 88, 3) := by decide +kernel
theorem dX5_seal_42 : decode cX5_seal 42 = .ok (.ixor, 1) := by decide +kernel
theorem dX5_seal_43 : decode cX5_seal 43 = .ok (.iastore, 1) := by decide +kernel
theorem dX5_seal_44 : decode cX5_seal 44 = .ok (.iinc 4 1, 3) := by decide +kernel
theorem dX5_seal_47 : decode cX5_seal 47 = .ok (.goto (-35), 3) := by decide +kernel
theorem dX5_seal_50 : decode cX5_seal 50 = .ok (.aload_n 0, 1) := by decide +kernel
theorem dX5_seal_51 : decode cX5_seal 51 = .ok (.getfield 7, 3) := by decide +kernel
theorem dX5_seal_54 : decode cX5_seal 54 = .ok (.iload_n 3, 1) := by decide +kernel
theorem dX5_seal_55 : decode cX5_seal 55 = .ok (.bipush 24, 2) := by decide +kernel
theorem dX5_seal_57 : decode cX5_seal 57 = .ok (.iadd, 1) := by decide +kernel
theorem dX5_seal_58 : decode cX5_seal 58 = .ok (.aload_n 0, 1) := by decide +kernel
theorem dX5_seal_59 : decode cX5_seal 59 = .ok (.iload_n 1, 1) := by decide +kernel
theorem dX5_seal_60 : decode cX5_seal 60 = .ok (.iload_n 2, 1) := by decide +kernel
theorem dX5_seal_61 : decode cX5_seal 61 = .ok (.invokevirtual 92, 3) := by decide +kernel
theorem dX5_seal_64 : decode cX5_seal 64 = .ok (.iastore, 1) := by decide +kernel
theorem dX5_seal_65 : decode cX5_seal 65 = .ok (.return_, 1) := by decide +kernel
theorem dX5_clear_0 : decode cX5_clear 0 = .ok (.iconst 0, 1) := by decide +kernel
theorem dX5_clear_1 : decode cX5_clear 1 = .ok (.istore_n 1, 1) := by decide +kernel
theorem dX5_clear_2 : decode cX5_clear 2 = .ok (.iload_n 1, 1) := by decide +kernel
theorem dX5_clear_3 : decode cX5_clear 3 = .ok (.bipush 24, 2) := by decide +kernel
theorem dX5_clear_5 : decode cX5_clear 5 = .ok (.if_icmp .ge 16, 3) := by decide +kernel
theorem dX5_clear_8 : decode cX5_clear 8 = .ok (.aload_n 0, 1) := by decide +kernel
theorem dX5_clear_9 : decode cX5_clear 9 = .ok (.getfield 29, 3) := by decide +kernel
theorem dX5_clear_12 : decode cX5_clear 12 = .ok (.iload_n 1, 1) := by decide +kernel
theorem dX5_clear_13 : decode cX5_clear 13 = .ok (.iconst 0, 1) := by decide +kernel
theorem dX5_clear_14 : decode cX5_clear 14 = .ok (.iastore, 1) := by decide +kernel
theorem dX5_clear_15 : decode cX5_clear 15 = .ok (.iinc 1 1, 3) := by decide +kernel
theorem dX5_clear_18 : decode cX5_clear 18 = .ok (.goto (-16), 3) := by decide +kernel
theorem dX5_clear_21 : decode cX5_clear 21 = .ok (.return_, 1) := by decide +kernel
set_option maxRecDepth 20000 in
theorem ggX5_put_X5_first : GoodIn wsX5_put wsX5_first := goodIn_r _ [8] (by decide +kernel) (by decide +kernel)
set_option maxRecDepth 20000 in
theorem gX5_put_X5_first : GoodIn wsX5_put (va_wsS RX5 95 yX5_first wsX5_first) := goodIn_app (goodIn_of _ (by decide +kernel)) ggX5_put_X5_first
theorem dX5_put_0 : decode cX5_put 0 = .ok (.iload_n 1, 1) := by decide +kernel
theorem dX5_put_1 : decode cX5_put 1 = .ok (.invokestatic 95, 3) := by decide +kernel
theorem dX5_put_4 : decode cX5_put 4 = .ok (.iload_n 3, 1) := by decide +kernel
theorem dX5_put_5 : decode cX5_put 5 = .ok (.iadd, 1) := by decide +kernel
theorem dX5_put_6 : decode cX5_put 6 = .ok (.istore 4, 2) := by decide +kernel
theorem dX5_put_8 : decode cX5_put 8 = .ok (.aload_n 0, 1) := by decide +kernel
theorem dX5_put_9 : decode cX5_put 9 = .ok (.getfield 29, 3) := by decide +kernel
theorem dX5_put_12 : decode cX5_put 12 = .ok (.bipush 6, 2) := by decide +kernel
theorem dX5_put_14 : decode cX5_put 14 = .ok (.iload_n 2, 1) := by decide +kernel
theorem dX5_put_15 : decode cX5_put 15 = .ok (.imul, 1) := by decide +kernel
theorem dX5_put_16 : decode cX5_put 16 = .ok (.iload_n 3, 1) := by decide +kernel
theorem dX5_put_17 : decode cX5_put 17 = .ok (.iconst 1, 1) := by decide +kernel
theorem dX5_put_18 : decode cX5_put 18 = .ok (.iadd, 1) := by decide +kernel
theorem dX5_put_19 : decode cX5_put 19 = .ok (.iastore, 1) := by decide +kernel
theorem dX5_put_20 : decode cX5_put 20 = .ok (.aload_n 0, 1) := by decide +kernel
theorem dX5_put_21 : decode cX5_put 21 = .ok (.getfield 29, 3) := by decide +kernel
theorem dX5_put_24 : decode cX5_put 24 = .ok (.bipush 6, 2) := by decide +kernel
theorem dX5_put_26 : decode cX5_put 26 = .ok (.iload_n 2, 1) := by decide +kernel
theorem dX5_put_27 : decode cX5_put 27 = .ok (.imul, 1) := by decide +kernel
theorem dX5_put_28 : decode cX5_put 28 = .ok (.iconst 1, 1) := by decide +kernel
theorem dX5_put_29 : decode cX5_put 29 = .ok (.iadd, 1) := by decide +kernel
theorem dX5_put_30 : decode cX5_put 30 = .ok (.aload_n 0, 1) := by decide +kernel
theorem dX5_put_31 : decode cX5_put 31 = .ok (.getfield 20, 3) := by decide +kernel
theorem dX5_put_34 : decode cX5_put 34 = .ok (.iload 4, 2) := by decide +kernel
theorem dX5_put_36 : decode cX5_put 36 = .ok (.iaload, 1) := by decide +kernel
theorem dX5_put_37 : decode cX5_put 37 = .ok (.iastore, 1) := by decide +kernel
theorem dX5_put_38 : decode cX5_put 38 = .ok (.iconst 0, 1) := by decide +kernel
theorem dX5_put_39 : decode cX5_put 39 = .ok (.istore 5, 2) := by decide +kernel
theorem dX5_put_41 : decode cX5_put 41 = .ok (.iload 5, 2) := by decide +kernel
theorem dX5_put_43 : decode cX5_put 43 = .ok (.iconst 4, 1) := by decide +kernel
theorem dX5_put_44 : decode cX5_put 44 = .ok (.if_icmp .ge 35, 3) := by decide +kernel
theorem dX5_put_47 : decode cX5_put 47 = .ok (.aload_n 0, 1) := by decide +kernel
theorem dX5_put_48 : decode cX5_put 48 = .ok (.getfield 29, 3) := by decide +kernel
theorem dX5_put_51 : decode cX5_put 51 = .ok (.bipush 6, 2) := by decide +kernel
theorem dX5_put_53 : decode cX5_put 53 = .ok (.iload_n 2, 1) := by decide +kernel
theorem dX5_put_54 : decode cX5_put 54 = .ok (.imul, 1) := by decide +kernel
theorem dX5_put_55 : decode cX5_put 55 = .ok (.iconst 2, 1) := by decide +kernel
theorem dX5_put_56 : decode cX5_put 56 = .ok (.iadd, 1) := by decide +kernel
theorem dX5_put_57 : decode cX5_put 57 = .ok (.iload 5, 2) := by decide +kernel
theorem dX5_put_59 : decode cX5_put 59 = .ok (.iadd, 1) := by decide +kernel
theorem dX5_put_60 : decode cX5_put 60 = .ok (.aload_n 0, 1) := by decide +kernel
theorem dX5_put_61 : decode cX5_put 61 = .ok (.getfield 23, 3) := by decide +kernel
theorem dX5_put_64 : decode cX5_put 64 = .ok (.iconst 4, 1) := by decide +kernel
theorem dX5_put_65 : decode cX5_put 65 = .ok (.iload 4, 2) := by decide +kernel
theorem dX5_put_67 : decode cX5_put 67 = .ok (.imul, 1) := by decide +kernel
theorem dX5_put_68 : decode cX5_put 68 = .ok (.iload 5, 2) := by decide +kernel
theorem dX5_put_70 : decode cX5_put 70 = .ok (.iadd, 1) := by decide +kernel
theorem dX5_put_71 : decode cX5_put 71 = .ok (.iaload, 1) := by decide +kernel
theorem dX5_put_72 : decode cX5_put 72 = .ok (.iastore, 1) := by decide +kernel
theorem dX5_put_73 : decode cX5_put 73 = .ok (.iinc 5 1, 3) := by decide +kernel
theorem dX5_put_76 : decode cX5_put 76 = .ok (.goto (-35), 3) := by decide +kernel
theorem dX5_put_79 : decode cX5_put 79 = .ok (.aload_n 0, 1) := by decide +kernel
theorem dX5_put_80 : decode cX5_put 80 = .ok (.getfield 16, 3) := by decide +kernel
theorem dX5_put_83 : decode cX5_put 83 = .ok (.iload 4, 2) := by decide +kernel
theorem dX5_put_85 : decode cX5_put 85 = .ok (.iconst 0, 1) := by decide +kernel
theorem dX5_put_86 : decode cX5_put 86 = .ok (.bastore, 1) := by decide +kernel
theorem dX5_put_87 : decode cX5_put 87 = .ok (.return_, 1) := by decide +kernel
set_option maxRecDepth 20000 in
theorem ggX5_take_X5_levels : GoodIn wsX5_take wsX5_levels := goodIn_r _ [5] (by decide +kernel) (by decide +kernel)
set_option maxRecDepth 20000 in
theorem gX5_take_X5_levels : GoodIn wsX5_take (va_wsS RX5 69 yX5_levels wsX5_levels) := goodIn_app (goodIn_of _ (by decide +kernel)) ggX5_take_X5_levels
set_option maxRecDepth 20000 in
theorem ggX5_take_X5_onPath : GoodIn wsX5_take wsX5_onPath := goodIn_r _ [8, 9, 10, 4, 11] (by decide +kernel) (by decide +kernel)
set_option maxRecDepth 20000 in
theorem gX5_take_X5_onPath : GoodIn wsX5_take (va_wsS RX5 72 yX5_onPath wsX5_onPath) := goodIn_app (goodIn_of _ (by decide +kernel)) ggX5_take_X5_onPath
set_option maxRecDepth 20000 in
theorem ggX5_take_X5_place : GoodIn wsX5_take wsX5_place := goodIn_r _ [14] (by decide +kernel) (by decide +kernel)
set_option maxRecDepth 20000 in
theorem gX5_take_X5_place : GoodIn wsX5_take (va_wsS RX5 80 yX5_place wsX5_place) := goodIn_app (goodIn_of _ (by decide +kernel)) ggX5_take_X5_place
set_option maxRecDepth 20000 in
theorem ggX5_take_X5_tag : GoodIn wsX5_take wsX5_tag := goodIn_r _ [18, 1, 19, 20, 21, 22, 4, 23, 24, 25, 26, 27, 28, 29, 30, 12, 13, 14, 48, 49, 50, 51, 52, 53, 54, 55, 56, 57, 58, 59, 60, 61, 62, 63, 64, 65, 66, 67] (by decide +kernel) (by decide +kernel)
set_option maxRecDepth 20000 in
theorem gX5_take_X5_tag : GoodIn wsX5_take (wsV RX5 92 RX5 yX5_tag wsX5_tag) := goodIn_app (goodIn_of _ (by decide +kernel)) ggX5_take_X5_tag
set_option maxRecDepth 20000 in
theorem ggX5_take_X5_open : GoodIn wsX5_take wsX5_open := goodIn_r _ [34, 35, 36, 37, 38, 39, 40, 4, 41, 1, 12, 13, 14, 20, 21, 22, 23, 24, 25, 26, 27, 28, 29, 30, 42, 43, 44, 45, 46, 47, 48, 49, 50, 51, 52, 53, 54, 55, 56, 57, 58, 59, 60, 61, 62, 63, 64, 65, 66, 67] (by decide +kernel) (by decide +kernel)
set_option maxRecDepth 20000 in
theorem gX5_take_X5_open : GoodIn wsX5_take (wsV RX5 98 RX5 yX5_open wsX5_open) := goodIn_app (goodIn_of _ (by decide +kernel)) ggX5_take_X5_open
theorem dX5_take_0 : decode cX5_take 0 = .ok (.iconst 0, 1) := by decide +kernel
theorem dX5_take_1 : decode cX5_take 1 = .ok (.istore_n 3, 1) := by decide +kernel
theorem dX5_take_2 : decode cX5_take 2 = .ok (.iload_n 3, 1) := by decide +kernel
theorem dX5_take_3 : decode cX5_take 3 = .ok (.iload_n 1, 1) := by decide +kernel
theorem dX5_take_4 : decode cX5_take 4 = .ok (.invokestatic 69, 3) := by decide +kernel
theorem dX5_take_7 : decode cX5_take 7 = .ok (.if_icmp .ge 46, 3) := by decide +kernel
theorem dX5_take_10 : decode cX5_take 10 = .ok (.iload_n 1, 1) := by decide +kernel
theorem dX5_take_11 : decode cX5_take 11 = .ok (.iload_n 2, 1) := by decide +kernel
theorem dX5_take_12 : decode cX5_take 12 = .ok (.iload_n 3, 1) := by decide +kernel
theorem dX5_take_13 : decode cX5_take 13 = .ok (.invokestatic 72, 3) := by decide +kernel
theorem dX5_take_16 : decode cX5_take 16 = .ok (.istore 4, 2) := by decide +kernel
theorem dX5_take_18 : decode cX5_take 18 = .ok (.aload_n 0, 1) := by decide +kernel
theorem dX5_take_19 : decode cX5_take 19 = .ok (.getfield 7, 3) := by decide +kernel
theorem dX5_take_22 : decode cX5_take 22 = .ok (.bipush 25, 2) := by decide +kernel
theorem dX5_take_24 : decode cX5_take 24 = .ok (.iload_n 1, 1) := by decide +kernel
theorem dX5_take_25 : decode cX5_take 25 = .ok (.iload 4, 2) := by decide +kernel
theorem dX5_take_27 : decode cX5_take 27 = .ok (.invokestatic 80, 3) := by decide +kernel
theorem dX5_take_30 : decode cX5_take 30 = .ok (.imul, 1) := by decide +kernel
theorem dX5_take_31 : decode cX5_take 31 = .ok (.bipush 24, 2) := by decide +kernel
theorem dX5_take_33 : decode cX5_take 33 = .ok (.iadd, 1) := by decide +kernel
theorem dX5_take_34 : decode cX5_take 34 = .ok (.iaload, 1) := by decide +kernel
theorem dX5_take_35 : decode cX5_take 35 = .ok (.aload_n 0, 1) := by decide +kernel
theorem dX5_take_36 : decode cX5_take 36 = .ok (.iload_n 1, 1) := by decide +kernel
theorem dX5_take_37 : decode cX5_take 37 = .ok (.iload 4, 2) := by decide +kernel
theorem dX5_take_39 : decode cX5_take 39 = .ok (.invokevirtual 92, 3) := by decide +kernel
theorem dX5_take_42 : decode cX5_take 42 = .ok (.if_icmp .eq 5, 3) := by decide +kernel
theorem dX5_take_45 : decode cX5_take 45 = .ok (.iconst 0, 1) := by decide +kernel
theorem dX5_take_46 : decode cX5_take 46 = .ok (.ireturn, 1) := by decide +kernel
theorem dX5_take_47 : decode cX5_take 47 = .ok (.iinc 3 1, 3) := by decide +kernel
theorem dX5_take_50 : decode cX5_take 50 = .ok (.goto (-48), 3) := by decide +kernel
theorem dX5_take_53 : decode cX5_take 53 = .ok (.iconst 0, 1) := by decide +kernel
theorem dX5_take_54 : decode cX5_take 54 = .ok (.istore_n 3, 1) := by decide +kernel
theorem dX5_take_55 : decode cX5_take 55 = .ok (.iload_n 3, 1) := by decide +kernel
theorem dX5_take_56 : decode cX5_take 56 = .ok (.iload_n 1, 1) := by decide +kernel
theorem dX5_take_57 : decode cX5_take 57 = .ok (.invokestatic 69, 3) := by decide +kernel
theorem dX5_take_60 : decode cX5_take 60 = .ok (.if_icmp .ge 41, 3) := by decide +kernel
theorem dX5_take_63 : decode cX5_take 63 = .ok (.iload_n 1, 1) := by decide +kernel
theorem dX5_take_64 : decode cX5_take 64 = .ok (.iload_n 2, 1) := by decide +kernel
theorem dX5_take_65 : decode cX5_take 65 = .ok (.iload_n 3, 1) := by decide +kernel
theorem dX5_take_66 : decode cX5_take 66 = .ok (.invokestatic 72, 3) := by decide +kernel
theorem dX5_take_69 : decode cX5_take 69 = .ok (.istore 4, 2) := by decide +kernel
theorem dX5_take_71 : decode cX5_take 71 = .ok (.iconst 0, 1) := by decide +kernel
theorem dX5_take_72 : decode cX5_take 72 = .ok (.istore 5, 2) := by decide +kernel
theorem dX5_take_74 : decode cX5_take 74 = .ok (.iload 5, 2) := by decide +kernel
theorem dX5_take_76 : decode cX5_take 76 = .ok (.iconst 4, 1) := by decide +kernel
theorem dX5_take_77 : decode cX5_take 77 = .ok (.if_icmp .ge 18, 3) := by decide +kernel
theorem dX5_take_80 : decode cX5_take 80 = .ok (.aload_n 0, 1) := by decide +kernel
theorem dX5_take_81 : decode cX5_take 81 = .ok (.iload_n 1, 1) := by decide +kernel
theorem dX5_take_82 : decode cX5_take 82 = .ok (.iload 4, 2) := by decide +kernel
theorem dX5_take_84 : decode cX5_take 84 = .ok (.iload 5, 2) := by decide +kernel
theorem dX5_take_86 : decode cX5_take 86 = .ok (.invokevirtual 98, 3) := by decide +kernel
theorem dX5_take_89 : decode cX5_take 89 = .ok (.iinc 5 1, 3) := by decide +kernel
theorem dX5_take_92 : decode cX5_take 92 = .ok (.goto (-18), 3) := by decide +kernel
theorem dX5_take_95 : decode cX5_take 95 = .ok (.iinc 3 1, 3) := by decide +kernel
theorem dX5_take_98 : decode cX5_take 98 = .ok (.goto (-43), 3) := by decide +kernel
theorem dX5_take_101 : decode cX5_take 101 = .ok (.iconst 1, 1) := by decide +kernel
theorem dX5_take_102 : decode cX5_take 102 = .ok (.ireturn, 1) := by decide +kernel
set_option maxRecDepth 20000 in
theorem ggX5_plainWord_X5_place : GoodIn wsX5_plainWord wsX5_place := goodIn_r _ [5] (by decide +kernel) (by decide +kernel)
set_option maxRecDepth 20000 in
theorem gX5_plainWord_X5_place : GoodIn wsX5_plainWord (va_wsS RX5 80 yX5_place wsX5_place) := goodIn_app (goodIn_of _ (by decide +kernel)) ggX5_plainWord_X5_place
set_option maxRecDepth 20000 in
theorem ggX5_plainWord_X5_pad : GoodIn wsX5_plainWord wsX5_pad := goodIn_r _ [9, 10, 11, 12, 13, 14, 15, 16, 2, 3, 4, 5, 17, 18, 19, 20, 21, 22, 23, 24, 25, 26, 27, 28, 29, 30, 31, 32, 33, 34, 35, 36] (by decide +kernel) (by decide +kernel)
set_option maxRecDepth 20000 in
theorem gX5_plainWord_X5_pad : GoodIn wsX5_plainWord (wsV RX5 88 RX5 yX5_pad wsX5_pad) := goodIn_app (goodIn_of _ (by decide +kernel)) ggX5_plainWord_X5_pad
theorem dX5_plainWord_0 : decode cX5_plainWord 0 = .ok (.aload_n 0, 1) := by decide +kernel
theorem dX5_plainWord_1 : decode cX5_plainWord 1 = .ok (.getfield 7, 3) := by decide +kernel
theorem dX5_plainWord_4 : decode cX5_plainWord 4 = .ok (.bipush 25, 2) := by decide +kernel
theorem dX5_plainWord_6 : decode cX5_plainWord 6 = .ok (.iload_n 1, 1) := by decide +kernel
theorem dX5_plainWord_7 : decode cX5_plainWord 7 = .ok (.iload_n 2, 1) := by decide +kernel
theorem dX5_plainWord_8 : decode cX5_plainWord 8 = .ok (.invokestatic 80, 3) := by decide +kernel
theorem dX5_plainWord_11 : decode cX5_plainWord 11 = .ok (.imul, 1) := by decide +kernel
theorem dX5_plainWord_12 : decode cX5_plainWord 12 = .ok (.iload_n 3, 1) := by decide +kernel
theorem dX5_plainWord_13 : decode cX5_plainWord 13 = .ok (.iadd, 1) := by decide +kernel
theorem dX5_plainWord_14 : decode cX5_plainWord 14 = .ok (.iaload, 1) := by decide +kernel
theorem dX5_plainWord_15 : decode cX5_plainWord 15 = .ok (.aload_n 0, 1) := by decide +kernel
theorem dX5_plainWord_16 : decode cX5_plainWord 16 = .ok (.iload_n 1, 1) := by decide +kernel
theorem dX5_plainWord_17 : decode cX5_plainWord 17 = .ok (.iload_n 2, 1) := by decide +kernel
theorem dX5_plainWord_18 : decode cX5_plainWord 18 = .ok (.iload_n 3, 1) := by decide +kernel
theorem dX5_plainWord_19 : decode cX5_plainWord 19 = .ok (.invokevirtual 88, 3) := by decide +kernel
theorem dX5_plainWord_22 : decode cX5_plainWord 22 = .ok (.ixor, 1) := by decide +kernel
theorem dX5_plainWord_23 : decode cX5_plainWord 23 = .ok (.ireturn, 1) := by decide +kernel
set_option maxRecDepth 20000 in
theorem ggX5_open_X5_plainWord : GoodIn wsX5_open wsX5_plainWord := goodIn_r _ [8, 9, 10, 11, 7, 12, 13, 14, 15, 16, 17, 18, 19, 20, 21, 22, 23, 30, 31, 32, 33, 34, 35, 36, 37, 38, 39, 40, 41, 42, 43, 44, 45, 46, 47, 48, 49] (by decide +kernel) (by decide +kernel)
set_option maxRecDepth 20000 in
theorem gX5_open_X5_plainWord : GoodIn wsX5_open (wsV RX5 102 RX5 yX5_plainWord wsX5_plainWord) := goodIn_app (goodIn_of _ (by decide +kernel)) ggX5_open_X5_plainWord
set_option maxRecDepth 20000 in
theorem ggX5_open_X5_blocks : GoodIn wsX5_open wsX5_blocks := goodIn_r _ [26] (by decide +kernel) (by decide +kernel)
set_option maxRecDepth 20000 in
theorem gX5_open_X5_blocks : GoodIn wsX5_open (va_wsS RX5 105 yX5_blocks wsX5_blocks) := goodIn_app (goodIn_of _ (by decide +kernel)) ggX5_open_X5_blocks
set_option maxRecDepth 20000 in
theorem ggX5_open_X5_first : GoodIn wsX5_open wsX5_first := goodIn_r _ [29] (by decide +kernel) (by decide +kernel)
set_option maxRecDepth 20000 in
theorem gX5_open_X5_first : GoodIn wsX5_open (va_wsS RX5 95 yX5_first wsX5_first) := goodIn_app (goodIn_of _ (by decide +kernel)) ggX5_open_X5_first
theorem dX5_open_0 : decode cX5_open 0 = .ok (.aload_n 0, 1) := by decide +kernel
theorem dX5_open_1 : decode cX5_open 1 = .ok (.iload_n 1, 1) := by decide +kernel
theorem dX5_open_2 : decode cX5_open 2 = .ok (.iload_n 2, 1) := by decide +kernel
theorem dX5_open_3 : decode cX5_open 3 = .ok (.bipush 6, 2) := by decide +kernel
theorem dX5_open_5 : decode cX5_open 5 = .ok (.iload_n 3, 1) := by decide +kernel
theorem dX5_open_6 : decode cX5_open 6 = .ok (.imul, 1) := by decide +kernel
theorem dX5_open_7 : decode cX5_open 7 = .ok (.invokevirtual 102, 3) := by decide +kernel
theorem dX5_open_10 : decode cX5_open 10 = .ok (.iconst 1, 1) := by decide +kernel
theorem dX5_open_11 : decode cX5_open 11 = .ok (.isub, 1) := by decide +kernel
theorem dX5_open_12 : decode cX5_open 12 = .ok (.istore 4, 2) := by decide +kernel
theorem dX5_open_14 : decode cX5_open 14 = .ok (.iload 4, 2) := by decide +kernel
theorem dX5_open_16 : decode cX5_open 16 = .ok (.ifCond .lt 12, 3) := by decide +kernel
theorem dX5_open_19 : decode cX5_open 19 = .ok (.iload 4, 2) := by decide +kernel
theorem dX5_open_21 : decode cX5_open 21 = .ok (.iload_n 1, 1) := by decide +kernel
theorem dX5_open_22 : decode cX5_open 22 = .ok (.invokestatic 105, 3) := by decide +kernel
theorem dX5_open_25 : decode cX5_open 25 = .ok (.if_icmp .lt 4, 3) := by decide +kernel
theorem dX5_open_28 : decode cX5_open 28 = .ok (.return_, 1) := by decide +kernel
theorem dX5_open_29 : decode cX5_open 29 = .ok (.iload_n 1, 1) := by decide +kernel
theorem dX5_open_30 : decode cX5_open 30 = .ok (.invokestatic 95, 3) := by decide +kernel
theorem dX5_open_33 : decode cX5_open 33 = .ok (.iload 4, 2) := by decide +kernel
theorem dX5_open_35 : decode cX5_open 35 = .ok (.iadd, 1) := by decide +kernel
theorem dX5_open_36 : decode cX5_open 36 = .ok (.istore 5, 2) := by decide +kernel
theorem dX5_open_38 : decode cX5_open 38 = .ok (.aload_n 0, 1) := by decide +kernel
theorem dX5_open_39 : decode cX5_open 39 = .ok (.getfield 16, 3) := by decide +kernel
theorem dX5_open_42 : decode cX5_open 42 = .ok (.iload 5, 2) := by decide +kernel
theorem dX5_open_44 : decode cX5_open 44 = .ok (.iconst 1, 1) := by decide +kernel
theorem dX5_open_45 : decode cX5_open 45 = .ok (.bastore, 1) := by decide +kernel
theorem dX5_open_46 : decode cX5_open 46 = .ok (.aload_n 0, 1) := by decide +kernel
theorem dX5_open_47 : decode cX5_open 47 = .ok (.getfield 20, 3) := by decide +kernel
theorem dX5_open_50 : decode cX5_open 50 = .ok (.iload 5, 2) := by decide +kernel
theorem dX5_open_52 : decode cX5_open 52 = .ok (.aload_n 0, 1) := by decide +kernel
theorem dX5_open_53 : decode cX5_open 53 = .ok (.iload_n 1, 1) := by decide +kernel
theorem dX5_open_54 : decode cX5_open 54 = .ok (.iload_n 2, 1) := by decide +kernel
theorem dX5_open_55 : decode cX5_open 55 = .ok (.bipush 6, 2) := by decide +kernel
theorem dX5_open_57 : decode cX5_open 57 = .ok (.iload_n 3, 1) := by decide +kernel
theorem dX5_open_58 : decode cX5_open 58 = .ok (.imul, 1) := by decide +kernel
theorem dX5_open_59 : decode cX5_open 59 = .ok (.iconst 1, 1) := by decide +kernel
theorem dX5_open_60 : decode cX5_open 60 = .ok (.iadd, 1) := by decide +kernel
theorem dX5_open_61 : decode cX5_open 61 = .ok (.invokevirtual 102, 3) := by decide +kernel
theorem dX5_open_64 : decode cX5_open 64 = .ok (.iastore, 1) := by decide +kernel
theorem dX5_open_65 : decode cX5_open 65 = .ok (.iconst 0, 1) := by decide +kernel
theorem dX5_open_66 : decode cX5_open 66 = .ok (.istore 6, 2) := by decide +kernel
theorem dX5_open_68 : decode cX5_open 68 = .ok (.iload 6, 2) := by decide +kernel
theorem dX5_open_70 : decode cX5_open 70 = .ok (.iconst 4, 1) := by decide +kernel
theorem dX5_open_71 : decode cX5_open 71 = .ok (.if_icmp .ge 36, 3) := by decide +kernel
theorem dX5_open_74 : decode cX5_open 74 = .ok (.aload_n 0, 1) := by decide +kernel
theorem dX5_open_75 : decode cX5_open 75 = .ok (.getfield 23, 3) := by decide +kernel
theorem dX5_open_78 : decode cX5_open 78 = .ok (.iconst 4, 1) := by decide +kernel
theorem dX5_open_79 : decode cX5_open 79 = .ok (.iload 5, 2) := by decide +kernel
theorem dX5_open_81 : decode cX5_open 81 = .ok (.imul, 1) := by decide +kernel
theorem dX5_open_82 : decode cX5_open 82 = .ok (.iload 6, 2) := by decide +kernel
theorem dX5_open_84 : decode cX5_open 84 = .ok (.iadd, 1) := by decide +kernel
theorem dX5_open_85 : decode cX5_open 85 = .ok (.aload_n 0, 1) := by decide +kernel
theorem dX5_open_86 : decode cX5_open 86 = .ok (.iload_n 1, 1) := by decide +kernel
theorem dX5_open_87 : decode cX5_open 87 = .ok (.iload_n 2, 1) := by decide +kernel
theorem dX5_open_88 : decode cX5_open 88 = .ok (.bipush 6, 2) := by decide +kernel
theorem dX5_open_90 : decode cX5_open 90 = .ok (.iload_n 3, 1) := by decide +kernel
theorem dX5_open_91 : decode cX5_open 91 = .ok (.imul, 1) := by decide +kernel
theorem dX5_open_92 : decode cX5_open 92 = .ok (.iconst 2, 1) := by decide +kernel
theorem dX5_open_93 : decode cX5_open 93 = .ok (.iadd, 1) := by decide +kernel
theorem dX5_open_94 : decode cX5_open 94 = .ok (.iload 6, 2) := by decide +kernel
theorem dX5_open_96 : decode cX5_open 96 = .ok (.iadd, 1) := by decide +kernel
theorem dX5_open_97 : decode cX5_open 97 = .ok (.invokevirtual 102, 3) := by decide +kernel
theorem dX5_open_100 : decode cX5_open 100 = .ok (.iastore, 1) := by decide +kernel
theorem dX5_open_101 : decode cX5_open 101 = .ok (.iinc 6 1, 3) := by decide +kernel
theorem dX5_open_104 : decode cX5_open 104 = .ok (.goto (-36), 3) := by decide +kernel
theorem dX5_open_107 : decode cX5_open 107 = .ok (.return_, 1) := by decide +kernel
set_option maxRecDepth 20000 in
theorem ggX5_putBack_X5_levels : GoodIn wsX5_putBack wsX5_levels := goodIn_r _ [7] (by decide +kernel) (by decide +kernel)
set_option maxRecDepth 20000 in
theorem gX5_putBack_X5_levels : GoodIn wsX5_putBack (va_wsS RX5 69 yX5_levels wsX5_levels) := goodIn_app (goodIn_of _ (by decide +kernel)) ggX5_putBack_X5_levels
set_option maxRecDepth 20000 in
theorem ggX5_putBack_X5_onPath : GoodIn wsX5_putBack wsX5_onPath := goodIn_r _ [10, 11, 12, 6, 13] (by decide +kernel) (by decide +kernel)
set_option maxRecDepth 20000 in
theorem gX5_putBack_X5_onPath : GoodIn wsX5_putBack (va_wsS RX5 72 yX5_onPath wsX5_onPath) := goodIn_app (goodIn_of _ (by decide +kernel)) ggX5_putBack_X5_onPath
set_option maxRecDepth 20000 in
theorem ggX5_putBack_X5_clear : GoodIn wsX5_putBack wsX5_clear := goodIn_r _ [17, 18, 56, 57, 58, 59, 60, 61, 62, 63, 64, 65, 66, 67, 68, 69, 70, 71, 72, 73, 74, 75] (by decide +kernel) (by decide +kernel)
set_option maxRecDepth 20000 in
theorem gX5_putBack_X5_clear : GoodIn wsX5_putBack (wsV RX5 108 RX5 yX5_clear wsX5_clear) := goodIn_app (goodIn_of _ (by decide +kernel)) ggX5_putBack_X5_clear
set_option maxRecDepth 20000 in
theorem ggX5_putBack_X5_blocks : GoodIn wsX5_putBack wsX5_blocks := goodIn_r _ [21] (by decide +kernel) (by decide +kernel)
set_option maxRecDepth 20000 in
theorem gX5_putBack_X5_blocks : GoodIn wsX5_putBack (va_wsS RX5 105 yX5_blocks wsX5_blocks) := goodIn_app (goodIn_of _ (by decide +kernel)) ggX5_putBack_X5_blocks
set_option maxRecDepth 20000 in
theorem ggX5_putBack_X5_first : GoodIn wsX5_putBack wsX5_first := goodIn_r _ [24] (by decide +kernel) (by decide +kernel)
set_option maxRecDepth 20000 in
theorem gX5_putBack_X5_first : GoodIn wsX5_putBack (va_wsS RX5 95 yX5_first wsX5_first) := goodIn_app (goodIn_of _ (by decide +kernel)) ggX5_putBack_X5_first
set_option maxRecDepth 20000 in
theorem ggX5_putBack_X5_passes : GoodIn wsX5_putBack wsX5_passes := goodIn_r _ [27, 4, 5, 6, 7, 8, 9, 10, 11, 12, 13] (by decide +kernel) (by decide +kernel)
set_option maxRecDepth 20000 in
theorem gX5_putBack_X5_passes : GoodIn wsX5_putBack (va_wsS RX5 111 yX5_passes wsX5_passes) := goodIn_app (goodIn_of _ (by decide +kernel)) ggX5_putBack_X5_passes
set_option maxRecDepth 20000 in
theorem ggX5_putBack_X5_put : GoodIn wsX5_putBack wsX5_put := goodIn_r _ [31, 18, 2, 32, 1, 22, 23, 6, 24, 56, 57, 58, 59, 60, 61, 62, 63, 64, 65, 66, 67, 68, 69, 70, 71, 72, 73, 74, 75] (by decide +kernel) (by decide +kernel)
set_option maxRecDepth 20000 in
theorem gX5_putBack_X5_put : GoodIn wsX5_putBack (wsV RX5 115 RX5 yX5_put wsX5_put) := goodIn_app (goodIn_of _ (by decide +kernel)) ggX5_putBack_X5_put
set_option maxRecDepth 20000 in
theorem ggX5_putBack_X5_place : GoodIn wsX5_putBack wsX5_place := goodIn_r _ [35] (by decide +kernel) (by decide +kernel)
set_option maxRecDepth 20000 in
theorem gX5_putBack_X5_place : GoodIn wsX5_putBack (va_wsS RX5 80 yX5_place wsX5_place) := goodIn_app (goodIn_of _ (by decide +kernel)) ggX5_putBack_X5_place
set_option maxRecDepth 20000 in
theorem ggX5_putBack_X5_seal : GoodIn wsX5_putBack wsX5_seal := goodIn_r _ [39, 40, 18, 33, 34, 6, 35, 41, 42, 43, 44, 45, 46, 3, 47, 48, 49, 50, 51, 52, 53, 54, 55, 56, 57, 58, 59, 60, 61, 62, 63, 64, 65, 66, 67, 68, 69, 70, 71, 72, 73, 74, 75] (by decide +kernel) (by decide +kernel)
set_option maxRecDepth 20000 in
theorem gX5_putBack_X5_seal : GoodIn wsX5_putBack (wsV RX5 118 RX5 yX5_seal wsX5_seal) := goodIn_app (goodIn_of _ (by decide +kernel)) ggX5_putBack_X5_seal
theorem dX5_putBack_0 : decode cX5_putBack 0 = .ok (.iconst 0, 1) := by decide +kernel
theorem dX5_putBack_1 : decode cX5_putBack 1 = .ok (.istore_n 3, 1) := by decide +kernel
theorem dX5_putBack_2 : decode cX5_putBack 2 = .ok (.iload_n 3, 1) := by decide +kernel
theorem dX5_putBack_3 : decode cX5_putBack 3 = .ok (.iload_n 1, 1) := by decide +kernel
theorem dX5_putBack_4 : decode cX5_putBack 4 = .ok (.invokestatic 69, 3) := by decide +kernel
theorem dX5_putBack_7 : decode cX5_putBack 7 = .ok (.if_icmp .ge 120, 3) := by decide +kernel
theorem dX5_putBack_10 : decode cX5_putBack 10 = .ok (.iload_n 1, 1) := by decide +kernel
theorem dX5_putBack_11 : decode cX5_putBack 11 = .ok (.iload_n 2, 1) := by decide +kernel
theorem dX5_putBack_12 : decode cX5_putBack 12 = .ok (.iload_n 3, 1) := by decide +kernel
theorem dX5_putBack_13 : decode cX5_putBack 13 = .ok (.invokestatic 72, 3) := by decide +kernel
theorem dX5_putBack_16 : decode cX5_putBack 16 = .ok (.istore 4, 2) := by decide +kernel
theorem dX5_putBack_18 : decode cX5_putBack 18 = .ok (.aload_n 0, 1) := by decide +kernel
theorem dX5_putBack_19 : decode cX5_putBack 19 = .ok (.invokevirtual 108, 3) := by decide +kernel
theorem dX5_putBack_22 : decode cX5_putBack 22 = .ok (.iconst 0, 1) := by decide +kernel
theorem dX5_putBack_23 : decode cX5_putBack 23 = .ok (.istore 5, 2) := by decide +kernel
theorem dX5_putBack_25 : decode cX5_putBack 25 = .ok (.iconst 0, 1) := by decide +kernel
theorem dX5_putBack_26 : decode cX5_putBack 26 = .ok (.istore 6, 2) := by decide +kernel
theorem dX5_putBack_28 : decode cX5_putBack 28 = .ok (.iload 6, 2) := by decide +kernel
theorem dX5_putBack_30 : decode cX5_putBack 30 = .ok (.iload_n 1, 1) := by decide +kernel
theorem dX5_putBack_31 : decode cX5_putBack 31 = .ok (.invokestatic 105, 3) := by decide +kernel
theorem dX5_putBack_34 : decode cX5_putBack 34 = .ok (.if_icmp .ge 65, 3) := by decide +kernel
theorem dX5_putBack_37 : decode cX5_putBack 37 = .ok (.iload 5, 2) := by decide +kernel
theorem dX5_putBack_39 : decode cX5_putBack 39 = .ok (.iconst 4, 1) := by decide +kernel
theorem dX5_putBack_40 : decode cX5_putBack 40 = .ok (.if_icmp .ge 59, 3) := by decide +kernel
theorem dX5_putBack_43 : decode cX5_putBack 43 = .ok (.iload_n 1, 1) := by decide +kernel
theorem dX5_putBack_44 : decode cX5_putBack 44 = .ok (.invokestatic 95, 3) := by decide +kernel
theorem dX5_putBack_47 : decode cX5_putBack 47 = .ok (.iload 6, 2) := by decide +kernel
theorem dX5_putBack_49 : decode cX5_putBack 49 = .ok (.iadd, 1) := by decide +kernel
theorem dX5_putBack_50 : decode cX5_putBack 50 = .ok (.istore 7, 2) := by decide +kernel
theorem dX5_putBack_52 : decode cX5_putBack 52 = .ok (.aload_n 0, 1) := by decide +kernel
theorem dX5_putBack_53 : decode cX5_putBack 53 = .ok (.getfield 16, 3) := by decide +kernel
theorem dX5_putBack_56 : decode cX5_putBack 56 = .ok (.iload 7, 2) := by decide +kernel
theorem dX5_putBack_58 : decode cX5_putBack 58 = .ok (.baload, 1) := by decide +kernel
theorem dX5_putBack_59 : decode cX5_putBack 59 = .ok (.ifCond .eq 34, 3) := by decide +kernel
theorem dX5_putBack_62 : decode cX5_putBack 62 = .ok (.iload_n 1, 1) := by decide +kernel
theorem dX5_putBack_63 : decode cX5_putBack 63 = .ok (.aload_n 0, 1) := by decide +kernel
theorem dX5_putBack_64 : decode cX5_putBack 64 = .ok (.getfield 20, 3) := by decide +kernel
theorem dX5_putBack_67 : decode cX5_putBack 67 = .ok (.iload 7, 2) := by decide +kernel
theorem dX5_putBack_69 : decode cX5_putBack 69 = .ok (.iaload, 1) := by decide +kernel
theorem dX5_putBack_70 : decode cX5_putBack 70 = .ok (.iload 4, 2) := by decide +kernel
theorem dX5_putBack_72 : decode cX5_putBack 72 = .ok (.invokestatic 111, 3) := by decide +kernel
theorem dX5_putBack_75 : decode cX5_putBack 75 = .ok (.ifCond .ne 6, 3) := by decide +kernel
theorem dX5_putBack_78 : decode cX5_putBack 78 = .ok (.goto 15, 3) := by decide +kernel
theorem dX5_putBack_81 : decode cX5_putBack 81 = .ok (.aload_n 0, 1) := by decide +kernel
theorem dX5_putBack_82 : decode cX5_putBack 82 = .ok (.iload_n 1, 1) := by decide +kernel
theorem dX5_putBack_83 : decode cX5_putBack 83 = .ok (.iload 5, 2) := by decide +kernel
theorem dX5_putBack_85 : decode cX5_putBack 85 = .ok (.iload 6, 2) := by decide +kernel
theorem dX5_putBack_87 : decode cX5_putBack 87 = .ok (.invokevirtual 115, 3) := by decide +kernel
theorem dX5_putBack_90 : decode cX5_putBack 90 = .ok (.iinc 5 1, 3) := by decide +kernel
theorem dX5_putBack_93 : decode cX5_putBack 93 = .ok (.iinc 6 1, 3) := by decide +kernel
theorem dX5_putBack_96 : decode cX5_putBack 96 = .ok (.goto (-68), 3) := by decide +kernel
theorem dX5_putBack_99 : decode cX5_putBack 99 = .ok (.aload_n 0, 1) := by decide +kernel
theorem dX5_putBack_100 : decode cX5_putBack 100 = .ok (.getfield 13, 3) := by decide +kernel
theorem dX5_putBack_103 : decode cX5_putBack 103 = .ok (.iload_n 1, 1) := by decide +kernel
theorem dX5_putBack_104 : decode cX5_putBack 104 = .ok (.iload 4, 2) := by decide +kernel
theorem dX5_putBack_106 : decode cX5_putBack 106 = .ok (.invokestatic 80, 3) := by decide +kernel
theorem dX5_putBack_109 : decode cX5_putBack 109 = .ok (.dup2, 1) := by decide +kernel
theorem dX5_putBack_110 : decode cX5_putBack 110 = .ok (.iaload, 1) := by decide +kernel
theorem dX5_putBack_111 : decode cX5_putBack 111 = .ok (.iconst 1, 1) := by decide +kernel
theorem dX5_putBack_112 : decode cX5_putBack 112 = .ok (.iadd, 1) := by decide +kernel
theorem dX5_putBack_113 : decode cX5_putBack 113 = .ok (.iastore, 1) := by decide +kernel
theorem dX5_putBack_114 : decode cX5_putBack 114 = .ok (.aload_n 0, 1) := by decide +kernel
theorem dX5_putBack_115 : decode cX5_putBack 115 = .ok (.iload_n 1, 1) := by decide +kernel
theorem dX5_putBack_116 : decode cX5_putBack 116 = .ok (.iload 4, 2) := by decide +kernel
theorem dX5_putBack_118 : decode cX5_putBack 118 = .ok (.invokevirtual 118, 3) := by decide +kernel
theorem dX5_putBack_121 : decode cX5_putBack 121 = .ok (.iinc 3 1, 3) := by decide +kernel
theorem dX5_putBack_124 : decode cX5_putBack 124 = .ok (.goto (-122), 3) := by decide +kernel
theorem dX5_putBack_127 : decode cX5_putBack 127 = .ok (.return_, 1) := by decide +kernel
set_option maxRecDepth 20000 in
theorem ggX5_access_X5_draw : GoodIn wsX5_access wsX5_draw := goodIn_r _ [13, 14, 83, 84, 85, 86, 87, 88, 89, 90, 91, 92, 93, 94, 95, 96, 97, 98, 99, 100, 101, 102] (by decide +kernel) (by decide +kernel)
set_option maxRecDepth 20000 in
theorem gX5_access_X5_draw : GoodIn wsX5_access (wsV RX5 121 RX5 yX5_draw wsX5_draw) := goodIn_app (goodIn_of _ (by decide +kernel)) ggX5_access_X5_draw
set_option maxRecDepth 20000 in
theorem ggX5_access_X5_take : GoodIn wsX5_access wsX5_take := goodIn_r _ [18, 19, 20, 21, 12, 22, 23, 24, 25, 26, 27, 28, 29, 30, 31, 32, 33, 34, 35, 36, 37, 38, 39, 40, 41, 42, 43, 44, 45, 46, 47, 48, 49, 50, 51, 52, 6, 7, 53, 54, 55, 56, 57, 58, 59, 60, 61, 62, 83, 84, 85, 86, 87, 88, 89, 90, 91, 92, 93, 94, 95, 96, 97, 98, 99, 100, 101, 102] (by decide +kernel) (by decide +kernel)
set_option maxRecDepth 20000 in
theorem gX5_access_X5_take : GoodIn wsX5_access (wsV RX5 127 RX5 yX5_take wsX5_take) := goodIn_app (goodIn_of _ (by decide +kernel)) ggX5_access_X5_take
set_option maxRecDepth 20000 in
theorem ggX5_access_X5_putBack : GoodIn wsX5_access wsX5_putBack := goodIn_r _ [66, 52, 6, 43, 20, 21, 12, 22, 23, 24, 25, 26, 27, 28, 67, 68, 69, 70, 71, 57, 58, 59, 60, 61, 62, 72, 73, 74, 75, 76, 77, 78, 7, 29, 30, 31, 79, 80, 81, 82, 19, 37, 38, 39, 40, 41, 42, 44, 45, 46, 47, 32, 33, 34, 35, 36, 83, 84, 85, 86, 87, 88, 89, 90, 91, 92, 93, 94, 95, 96, 97, 98, 99, 100, 101, 102] (by decide +kernel) (by decide +kernel)
set_option maxRecDepth 20000 in
theorem gX5_access_X5_putBack : GoodIn wsX5_access (wsV RX5 135 RX5 yX5_putBack wsX5_putBack) := goodIn_app (goodIn_of _ (by decide +kernel)) ggX5_access_X5_putBack
theorem dX5_access_0 : decode cX5_access 0 = .ok (.iload_n 1, 1) := by decide +kernel
theorem dX5_access_1 : decode cX5_access 1 = .ok (.bipush 8, 2) := by decide +kernel
theorem dX5_access_3 : decode cX5_access 3 = .ok (.idiv, 1) := by decide +kernel
theorem dX5_access_4 : decode cX5_access 4 = .ok (.istore 6, 2) := by decide +kernel
theorem dX5_access_6 : decode cX5_access 6 = .ok (.iload_n 1, 1) := by decide +kernel
theorem dX5_access_7 : decode cX5_access 7 = .ok (.bipush 8, 2) := by decide +kernel
theorem dX5_access_9 : decode cX5_access 9 = .ok (.irem, 1) := by decide +kernel
theorem dX5_access_10 : decode cX5_access 10 = .ok (.istore 7, 2) := by decide +kernel
theorem dX5_access_12 : decode cX5_access 12 = .ok (.aload_n 0, 1) := by decide +kernel
theorem dX5_access_13 : decode cX5_access 13 = .ok (.getfield 26, 3) := by decide +kernel
theorem dX5_access_16 : decode cX5_access 16 = .ok (.iload 6, 2) := by decide +kernel
theorem dX5_access_18 : decode cX5_access 18 = .ok (.iaload, 1) := by decide +kernel
theorem dX5_access_19 : decode cX5_access 19 = .ok (.istore 8, 2) := by decide +kernel
theorem dX5_access_21 : decode cX5_access 21 = .ok (.aload_n 0, 1) := by decide +kernel
theorem dX5_access_22 : decode cX5_access 22 = .ok (.getfield 26, 3) := by decide +kernel
theorem dX5_access_25 : decode cX5_access 25 = .ok (.iload 6, 2) := by decide +kernel
theorem dX5_access_27 : decode cX5_access 27 = .ok (.aload_n 0, 1) := by decide +kernel
theorem dX5_access_28 : decode cX5_access 28 = .ok (.iconst 2, 1) := by decide +kernel
theorem dX5_access_29 : decode cX5_access 29 = .ok (.invokevirtual 121, 3) := by decide +kernel
theorem dX5_access_32 : decode cX5_access 32 = .ok (.iastore, 1) := by decide +kernel
theorem dX5_access_33 : decode cX5_access 33 = .ok (.aload_n 0, 1) := by decide +kernel
theorem dX5_access_34 : decode cX5_access 34 = .ok (.getfield 32, 3) := by decide +kernel
theorem dX5_access_37 : decode cX5_access 37 = .ok (.aload_n 0, 1) := by decide +kernel
theorem dX5_access_38 : decode cX5_access 38 = .ok (.getfield 124, 3) := by decide +kernel
theorem dX5_access_41 : decode cX5_access 41 = .ok (.bipush 64, 2) := by decide +kernel
theorem dX5_access_43 : decode cX5_access 43 = .ok (.irem, 1) := by decide +kernel
theorem dX5_access_44 : decode cX5_access 44 = .ok (.iload 8, 2) := by decide +kernel
theorem dX5_access_46 : decode cX5_access 46 = .ok (.iastore, 1) := by decide +kernel
theorem dX5_access_47 : decode cX5_access 47 = .ok (.aload_n 0, 1) := by decide +kernel
theorem dX5_access_48 : decode cX5_access 48 = .ok (.getfield 35, 3) := by decide +kernel
theorem dX5_access_51 : decode cX5_access 51 = .ok (.aload_n 0, 1) := by decide +kernel
theorem dX5_access_52 : decode cX5_access 52 = .ok (.getfield 124, 3) := by decide +kernel
theorem dX5_access_55 : decode cX5_access 55 = .ok (.bipush 64, 2) := by decide +kernel
theorem dX5_access_57 : decode cX5_access 57 = .ok (.irem, 1) := by decide +kernel
theorem dX5_access_58 : decode cX5_access 58 = .ok (.iconst (-1), 1) := by decide +kernel
theorem dX5_access_59 : decode cX5_access 59 = .ok (.iastore, 1) := by decide +kernel
theorem dX5_access_60 : decode cX5_access 60 = .ok (.aload_n 0, 1) := by decide +kernel
theorem dX5_access_61 : decode cX5_access 61 = .ok (.dup, 1) := by decide +kernel
theorem dX5_access_62 : decode cX5_access 62 = .ok (.getfield 124, 3) := by decide +kernel
theorem dX5_access_65 : decode cX5_access 65 = .ok (.iconst 1, 1) := by decide +kernel
theorem dX5_access_66 : decode cX5_access 66 = .ok (.iadd, 1) := by decide +kernel
theorem dX5_access_67 : decode cX5_access 67 = .ok (.putfield 124, 3) := by decide +kernel
theorem dX5_access_70 : decode cX5_access 70 = .ok (.aload_n 0, 1) := by decide +kernel
theorem dX5_access_71 : decode cX5_access 71 = .ok (.iconst 0, 1) := by decide +kernel
theorem dX5_access_72 : decode cX5_access 72 = .ok (.iload 8, 2) := by decide +kernel
theorem dX5_access_74 : decode cX5_access 74 = .ok (.invokevirtual 127, 3) := by decide +kernel
theorem dX5_access_77 : decode cX5_access 77 = .ok (.ifCond .ne 10, 3) := by decide +kernel
theorem dX5_access_80 : decode cX5_access 80 = .ok (.aload_n 0, 1) := by decide +kernel
theorem dX5_access_81 : decode cX5_access 81 = .ok (.iconst 1, 1) := by decide +kernel
theorem dX5_access_82 : decode cX5_access 82 = .ok (.putfield 131, 3) := by decide +kernel
theorem dX5_access_85 : decode cX5_access 85 = .ok (.iconst 0, 1) := by decide +kernel
theorem dX5_access_86 : decode cX5_access 86 = .ok (.ireturn, 1) := by decide +kernel
theorem dX5_access_87 : decode cX5_access 87 = .ok (.aload_n 0, 1) := by decide +kernel
theorem dX5_access_88 : decode cX5_access 88 = .ok (.getfield 20, 3) := by decide +kernel
theorem dX5_access_91 : decode cX5_access 91 = .ok (.iload 6, 2) := by decide +kernel
theorem dX5_access_93 : decode cX5_access 93 = .ok (.aload_n 0, 1) := by decide +kernel
theorem dX5_access_94 : decode cX5_access 94 = .ok (.getfield 26, 3) := by decide +kernel
theorem dX5_access_97 : decode cX5_access 97 = .ok (.iload 6, 2) := by decide +kernel
theorem dX5_access_99 : decode cX5_access 99 = .ok (.iaload, 1) := by decide +kernel
theorem dX5_access_100 : decode cX5_access 100 = .ok (.iastore, 1) := by decide +kernel
theorem dX5_access_101 : decode cX5_access 101 = .ok (.bipush 16, 2) := by decide +kernel
theorem dX5_access_103 : decode cX5_access 103 = .ok (.iload 7, 2) := by decide +kernel
theorem dX5_access_105 : decode cX5_access 105 = .ok (.iconst 2, 1) := by decide +kernel
theorem dX5_access_106 : decode cX5_access 106 = .ok (.irem, 1) := by decide +kernel
theorem dX5_access_107 : decode cX5_access 107 = .ok (.imul, 1) := by decide +kernel
theorem dX5_access_108 : decode cX5_access 108 = .ok (.istore 9, 2) := by decide +kernel
theorem dX5_access_110 : decode cX5_access 110 = .ok (.aload_n 0, 1) := by decide +kernel
theorem dX5_access_111 : decode cX5_access 111 = .ok (.getfield 23, 3) := by decide +kernel
theorem dX5_access_114 : decode cX5_access 114 = .ok (.iconst 4, 1) := by decide +kernel
theorem dX5_access_115 : decode cX5_access 115 = .ok (.iload 6, 2) := by decide +kernel
theorem dX5_access_117 : decode cX5_access 117 = .ok (.imul, 1) := by decide +kernel
theorem dX5_access_118 : decode cX5_access 118 = .ok (.iload 7, 2) := by decide +kernel
theorem dX5_access_120 : decode cX5_access 120 = .ok (.iconst 2, 1) := by decide +kernel
theorem dX5_access_121 : decode cX5_access 121 = .ok (.idiv, 1) := by decide +kernel
theorem dX5_access_122 : decode cX5_access 122 = .ok (.iadd, 1) := by decide +kernel
theorem dX5_access_123 : decode cX5_access 123 = .ok (.iaload, 1) := by decide +kernel
theorem dX5_access_124 : decode cX5_access 124 = .ok (.iload 9, 2) := by decide +kernel
theorem dX5_access_126 : decode cX5_access 126 = .ok (.ishr, 1) := by decide +kernel
theorem dX5_access_127 : decode cX5_access 127 = .ok (.bipush 31, 2) := by decide +kernel
theorem dX5_access_129 : decode cX5_access 129 = .ok (.iand, 1) := by decide +kernel
theorem dX5_access_130 : decode cX5_access 130 = .ok (.istore 10, 2) := by decide +kernel
theorem dX5_access_132 : decode cX5_access 132 = .ok (.aload_n 0, 1) := by decide +kernel
theorem dX5_access_133 : decode cX5_access 133 = .ok (.iconst 5, 1) := by decide +kernel
theorem dX5_access_134 : decode cX5_access 134 = .ok (.invokevirtual 121, 3) := by decide +kernel
theorem dX5_access_137 : decode cX5_access 137 = .ok (.istore 11, 2) := by decide +kernel
theorem dX5_access_139 : decode cX5_access 139 = .ok (.aload_n 0, 1) := by decide +kernel
theorem dX5_access_140 : decode cX5_access 140 = .ok (.getfield 23, 3) := by decide +kernel
theorem dX5_access_143 : decode cX5_access 143 = .ok (.iconst 4, 1) := by decide +kernel
theorem dX5_access_144 : decode cX5_access 144 = .ok (.iload 6, 2) := by decide +kernel
theorem dX5_access_146 : decode cX5_access 146 = .ok (.imul, 1) := by decide +kernel
theorem dX5_access_147 : decode cX5_access 147 = .ok (.iload 7, 2) := by decide +kernel
theorem dX5_access_149 : decode cX5_access 149 = .ok (.iconst 2, 1) := by decide +kernel
theorem dX5_access_150 : decode cX5_access 150 = .ok (.idiv, 1) := by decide +kernel
theorem dX5_access_151 : decode cX5_access 151 = .ok (.iadd, 1) := by decide +kernel
theorem dX5_access_152 : decode cX5_access 152 = .ok (.aload_n 0, 1) := by decide +kernel
theorem dX5_access_153 : decode cX5_access 153 = .ok (.getfield 23, 3) := by decide +kernel
theorem dX5_access_156 : decode cX5_access 156 = .ok (.iconst 4, 1) := by decide +kernel
theorem dX5_access_157 : decode cX5_access 157 = .ok (.iload 6, 2) := by decide +kernel
theorem dX5_access_159 : decode cX5_access 159 = .ok (.imul, 1) := by decide +kernel
theorem dX5_access_160 : decode cX5_access 160 = .ok (.iload 7, 2) := by decide +kernel
theorem dX5_access_162 : decode cX5_access 162 = .ok (.iconst 2, 1) := by decide +kernel
theorem dX5_access_163 : decode cX5_access 163 = .ok (.idiv, 1) := by decide +kernel
theorem dX5_access_164 : decode cX5_access 164 = .ok (.iadd, 1) := by decide +kernel
theorem dX5_access_165 : decode cX5_access 165 = .ok (.iaload, 1) := by decide +kernel
theorem dX5_access_166 : decode cX5_access 166 = .ok (.bipush 31, 2) := by decide +kernel
theorem dX5_access_168 : decode cX5_access 168 = .ok (.iload 9, 2) := by decide +kernel
theorem dX5_access_170 : decode cX5_access 170 = .ok (.ishl, 1) := by decide +kernel
theorem dX5_access_171 : decode cX5_access 171 = .ok (.iconst (-1), 1) := by decide +kernel
theorem dX5_access_172 : decode cX5_access 172 = .ok (.ixor, 1) := by decide +kernel
theorem dX5_access_173 : decode cX5_access 173 = .ok (.iand, 1) := by decide +kernel
theorem dX5_access_174 : decode cX5_access 174 = .ok (.iload 11, 2) := by decide +kernel
theorem dX5_access_176 : decode cX5_access 176 = .ok (.iload 9, 2) := by decide +kernel
theorem dX5_access_178 : decode cX5_access 178 = .ok (.ishl, 1) := by decide +kernel
theorem dX5_access_179 : decode cX5_access 179 = .ok (.ior, 1) := by decide +kernel
theorem dX5_access_180 : decode cX5_access 180 = .ok (.iastore, 1) := by decide +kernel
theorem dX5_access_181 : decode cX5_access 181 = .ok (.aload_n 0, 1) := by decide +kernel
theorem dX5_access_182 : decode cX5_access 182 = .ok (.iconst 0, 1) := by decide +kernel
theorem dX5_access_183 : decode cX5_access 183 = .ok (.iload 8, 2) := by decide +kernel
theorem dX5_access_185 : decode cX5_access 185 = .ok (.invokevirtual 135, 3) := by decide +kernel
theorem dX5_access_188 : decode cX5_access 188 = .ok (.aload_n 0, 1) := by decide +kernel
theorem dX5_access_189 : decode cX5_access 189 = .ok (.getfield 35, 3) := by decide +kernel
theorem dX5_access_192 : decode cX5_access 192 = .ok (.aload_n 0, 1) := by decide +kernel
theorem dX5_access_193 : decode cX5_access 193 = .ok (.getfield 124, 3) := by decide +kernel
theorem dX5_access_196 : decode cX5_access 196 = .ok (.iconst 1, 1) := by decide +kernel
theorem dX5_access_197 : decode cX5_access 197 = .ok (.isub, 1) := by decide +kernel
theorem dX5_access_198 : decode cX5_access 198 = .ok (.bipush 64, 2) := by decide +kernel
theorem dX5_access_200 : decode cX5_access 200 = .ok (.irem, 1) := by decide +kernel
theorem dX5_access_201 : decode cX5_access 201 = .ok (.iload 10, 2) := by decide +kernel
theorem dX5_access_203 : decode cX5_access 203 = .ok (.iastore, 1) := by decide +kernel
theorem dX5_access_204 : decode cX5_access 204 = .ok (.aload_n 0, 1) := by decide +kernel
theorem dX5_access_205 : decode cX5_access 205 = .ok (.iconst 1, 1) := by decide +kernel
theorem dX5_access_206 : decode cX5_access 206 = .ok (.iload 10, 2) := by decide +kernel
theorem dX5_access_208 : decode cX5_access 208 = .ok (.invokevirtual 127, 3) := by decide +kernel
theorem dX5_access_211 : decode cX5_access 211 = .ok (.ifCond .ne 10, 3) := by decide +kernel
theorem dX5_access_214 : decode cX5_access 214 = .ok (.aload_n 0, 1) := by decide +kernel
theorem dX5_access_215 : decode cX5_access 215 = .ok (.iconst 1, 1) := by decide +kernel
theorem dX5_access_216 : decode cX5_access 216 = .ok (.putfield 131, 3) := by decide +kernel
theorem dX5_access_219 : decode cX5_access 219 = .ok (.iconst 0, 1) := by decide +kernel
theorem dX5_access_220 : decode cX5_access 220 = .ok (.ireturn, 1) := by decide +kernel
theorem dX5_access_221 : decode cX5_access 221 = .ok (.bipush 8, 2) := by decide +kernel
theorem dX5_access_223 : decode cX5_access 223 = .ok (.iload_n 1, 1) := by decide +kernel
theorem dX5_access_224 : decode cX5_access 224 = .ok (.iadd, 1) := by decide +kernel
theorem dX5_access_225 : decode cX5_access 225 = .ok (.istore 12, 2) := by decide +kernel
theorem dX5_access_227 : decode cX5_access 227 = .ok (.aload_n 0, 1) := by decide +kernel
theorem dX5_access_228 : decode cX5_access 228 = .ok (.getfield 20, 3) := by decide +kernel
theorem dX5_access_231 : decode cX5_access 231 = .ok (.iload 12, 2) := by decide +kernel
theorem dX5_access_233 : decode cX5_access 233 = .ok (.iload 11, 2) := by decide +kernel
theorem dX5_access_235 : decode cX5_access 235 = .ok (.iastore, 1) := by decide +kernel
theorem dX5_access_236 : decode cX5_access 236 = .ok (.iconst 0, 1) := by decide +kernel
theorem dX5_access_237 : decode cX5_access 237 = .ok (.istore 13, 2) := by decide +kernel
theorem dX5_access_239 : decode cX5_access 239 = .ok (.iload 13, 2) := by decide +kernel
theorem dX5_access_241 : decode cX5_access 241 = .ok (.iconst 4, 1) := by decide +kernel
theorem dX5_access_242 : decode cX5_access 242 = .ok (.if_icmp .ge 27, 3) := by decide +kernel
theorem dX5_access_245 : decode cX5_access 245 = .ok (.iload 4, 2) := by decide +kernel
theorem dX5_access_247 : decode cX5_access 247 = .ok (.ifCond .eq 22, 3) := by decide +kernel
theorem dX5_access_250 : decode cX5_access 250 = .ok (.aload_n 0, 1) := by decide +kernel
theorem dX5_access_251 : decode cX5_access 251 = .ok (.getfield 23, 3) := by decide +kernel
theorem dX5_access_254 : decode cX5_access 254 = .ok (.iconst 4, 1) := by decide +kernel
theorem dX5_access_255 : decode cX5_access 255 = .ok (.iload 12, 2) := by decide +kernel
theorem dX5_access_257 : decode cX5_access 257 = .ok (.imul, 1) := by decide +kernel
theorem dX5_access_258 : decode cX5_access 258 = .ok (.iload 13, 2) := by decide +kernel
theorem dX5_access_260 : decode cX5_access 260 = .ok (.iadd, 1) := by decide +kernel
theorem dX5_access_261 : decode cX5_access 261 = .ok (.iconst 0, 1) := by decide +kernel
theorem dX5_access_262 : decode cX5_access 262 = .ok (.iastore, 1) := by decide +kernel
theorem dX5_access_263 : decode cX5_access 263 = .ok (.iinc 13 1, 3) := by decide +kernel
theorem dX5_access_266 : decode cX5_access 266 = .ok (.goto (-27), 3) := by decide +kernel
theorem dX5_access_269 : decode cX5_access 269 = .ok (.iload_n 3, 1) := by decide +kernel
theorem dX5_access_270 : decode cX5_access 270 = .ok (.ifCond .eq 16, 3) := by decide +kernel
theorem dX5_access_273 : decode cX5_access 273 = .ok (.aload_n 0, 1) := by decide +kernel
theorem dX5_access_274 : decode cX5_access 274 = .ok (.getfield 23, 3) := by decide +kernel
theorem dX5_access_277 : decode cX5_access 277 = .ok (.iconst 4, 1) := by decide +kernel
theorem dX5_access_278 : decode cX5_access 278 = .ok (.iload 12, 2) := by decide +kernel
theorem dX5_access_280 : decode cX5_access 280 = .ok (.imul, 1) := by decide +kernel
theorem dX5_access_281 : decode cX5_access 281 = .ok (.iload_n 2, 1) := by decide +kernel
theorem dX5_access_282 : decode cX5_access 282 = .ok (.iadd, 1) := by decide +kernel
theorem dX5_access_283 : decode cX5_access 283 = .ok (.iload 5, 2) := by decide +kernel
theorem dX5_access_285 : decode cX5_access 285 = .ok (.iastore, 1) := by decide +kernel
theorem dX5_access_286 : decode cX5_access 286 = .ok (.aload_n 0, 1) := by decide +kernel
theorem dX5_access_287 : decode cX5_access 287 = .ok (.aload_n 0, 1) := by decide +kernel
theorem dX5_access_288 : decode cX5_access 288 = .ok (.getfield 23, 3) := by decide +kernel
theorem dX5_access_291 : decode cX5_access 291 = .ok (.iconst 4, 1) := by decide +kernel
theorem dX5_access_292 : decode cX5_access 292 = .ok (.iload 12, 2) := by decide +kernel
theorem dX5_access_294 : decode cX5_access 294 = .ok (.imul, 1) := by decide +kernel
theorem dX5_access_295 : decode cX5_access 295 = .ok (.iload_n 2, 1) := by decide +kernel
theorem dX5_access_296 : decode cX5_access 296 = .ok (.iadd, 1) := by decide +kernel
theorem dX5_access_297 : decode cX5_access 297 = .ok (.iaload, 1) := by decide +kernel
theorem dX5_access_298 : decode cX5_access 298 = .ok (.putfield 138, 3) := by decide +kernel
theorem dX5_access_301 : decode cX5_access 301 = .ok (.aload_n 0, 1) := by decide +kernel
theorem dX5_access_302 : decode cX5_access 302 = .ok (.iconst 1, 1) := by decide +kernel
theorem dX5_access_303 : decode cX5_access 303 = .ok (.iload 10, 2) := by decide +kernel
theorem dX5_access_305 : decode cX5_access 305 = .ok (.invokevirtual 135, 3) := by decide +kernel
theorem dX5_access_308 : decode cX5_access 308 = .ok (.iconst 1, 1) := by decide +kernel
theorem dX5_access_309 : decode cX5_access 309 = .ok (.ireturn, 1) := by decide +kernel
set_option maxRecDepth 20000 in
theorem ggX5_begin_X5_draw : GoodIn wsX5_begin wsX5_draw := goodIn_r _ [18, 1, 59, 60, 61, 62, 63, 64, 65, 66, 67, 68, 69, 70, 71, 72, 73, 74, 75, 76, 77, 78] (by decide +kernel) (by decide +kernel)
set_option maxRecDepth 20000 in
theorem gX5_begin_X5_draw : GoodIn wsX5_begin (wsV RX5 121 RX5 yX5_draw wsX5_draw) := goodIn_app (goodIn_of _ (by decide +kernel)) ggX5_begin_X5_draw
set_option maxRecDepth 20000 in
theorem ggX5_begin_X5_blocks : GoodIn wsX5_begin wsX5_blocks := goodIn_r _ [21] (by decide +kernel) (by decide +kernel)
set_option maxRecDepth 20000 in
theorem gX5_begin_X5_blocks : GoodIn wsX5_begin (va_wsS RX5 105 yX5_blocks wsX5_blocks) := goodIn_app (goodIn_of _ (by decide +kernel)) ggX5_begin_X5_blocks
set_option maxRecDepth 20000 in
theorem ggX5_begin_X5_settle : GoodIn wsX5_begin wsX5_settle := goodIn_r _ [25, 11, 9, 12, 8, 26, 27, 17, 28, 29, 30, 31, 32, 33, 34, 35, 36, 37, 38, 39, 40, 59, 60, 61, 62, 63, 64, 65, 66, 67, 68, 69, 70, 71, 72, 73, 74, 75, 76, 77, 78] (by decide +kernel) (by decide +kernel)
set_option maxRecDepth 20000 in
theorem gX5_begin_X5_settle : GoodIn wsX5_begin (wsV RX5 141 RX5 yX5_settle wsX5_settle) := goodIn_app (goodIn_of _ (by decide +kernel)) ggX5_begin_X5_settle
set_option maxRecDepth 20000 in
theorem ggX5_begin_X5_buckets : GoodIn wsX5_begin wsX5_buckets := goodIn_r _ [37] (by decide +kernel) (by decide +kernel)
set_option maxRecDepth 20000 in
theorem gX5_begin_X5_buckets : GoodIn wsX5_begin (va_wsS RX5 65 yX5_buckets wsX5_buckets) := goodIn_app (goodIn_of _ (by decide +kernel)) ggX5_begin_X5_buckets
set_option maxRecDepth 20000 in
theorem ggX5_begin_X5_place : GoodIn wsX5_begin wsX5_place := goodIn_r _ [40] (by decide +kernel) (by decide +kernel)
set_option maxRecDepth 20000 in
theorem gX5_begin_X5_place : GoodIn wsX5_begin (va_wsS RX5 80 yX5_place wsX5_place) := goodIn_app (goodIn_of _ (by decide +kernel)) ggX5_begin_X5_place
set_option maxRecDepth 20000 in
theorem ggX5_begin_X5_seal : GoodIn wsX5_begin wsX5_seal := goodIn_r _ [44, 12, 13, 38, 39, 17, 40, 45, 46, 47, 48, 2, 49, 7, 50, 51, 52, 53, 54, 55, 56, 57, 58, 59, 60, 61, 62, 63, 64, 65, 66, 67, 68, 69, 70, 71, 72, 73, 74, 75, 76, 77, 78] (by decide +kernel) (by decide +kernel)
set_option maxRecDepth 20000 in
theorem gX5_begin_X5_seal : GoodIn wsX5_begin (wsV RX5 118 RX5 yX5_seal wsX5_seal) := goodIn_app (goodIn_of _ (by decide +kernel)) ggX5_begin_X5_seal
theorem dX5_begin_0 : decode cX5_begin 0 = .ok (.aload_n 0, 1) := by decide +kernel
theorem dX5_begin_1 : decode cX5_begin 1 = .ok (.iload_n 1, 1) := by decide +kernel
theorem dX5_begin_2 : decode cX5_begin 2 = .ok (.ifCond .ne 7, 3) := by decide +kernel
theorem dX5_begin_5 : decode cX5_begin 5 = .ok (.iconst 1, 1) := by decide +kernel
theorem dX5_begin_6 : decode cX5_begin 6 = .ok (.goto 4, 3) := by decide +kernel
theorem dX5_begin_9 : decode cX5_begin 9 = .ok (.iload_n 1, 1) := by decide +kernel
theorem dX5_begin_10 : decode cX5_begin 10 = .ok (.putfield 62, 3) := by decide +kernel
theorem dX5_begin_13 : decode cX5_begin 13 = .ok (.aload_n 0, 1) := by decide +kernel
theorem dX5_begin_14 : decode cX5_begin 14 = .ok (.iload_n 2, 1) := by decide +kernel
theorem dX5_begin_15 : decode cX5_begin 15 = .ok (.putfield 76, 3) := by decide +kernel
theorem dX5_begin_18 : decode cX5_begin 18 = .ok (.aload_n 0, 1) := by decide +kernel
theorem dX5_begin_19 : decode cX5_begin 19 = .ok (.iconst 0, 1) := by decide +kernel
theorem dX5_begin_20 : decode cX5_begin 20 = .ok (.putfield 131, 3) := by decide +kernel
theorem dX5_begin_23 : decode cX5_begin 23 = .ok (.aload_n 0, 1) := by decide +kernel
theorem dX5_begin_24 : decode cX5_begin 24 = .ok (.iconst 0, 1) := by decide +kernel
theorem dX5_begin_25 : decode cX5_begin 25 = .ok (.putfield 124, 3) := by decide +kernel
theorem dX5_begin_28 : decode cX5_begin 28 = .ok (.iconst 0, 1) := by decide +kernel
theorem dX5_begin_29 : decode cX5_begin 29 = .ok (.istore_n 3, 1) := by decide +kernel
theorem dX5_begin_30 : decode cX5_begin 30 = .ok (.iload_n 3, 1) := by decide +kernel
theorem dX5_begin_31 : decode cX5_begin 31 = .ok (.bipush 8, 2) := by decide +kernel
theorem dX5_begin_33 : decode cX5_begin 33 = .ok (.if_icmp .ge 16, 3) := by decide +kernel
theorem dX5_begin_36 : decode cX5_begin 36 = .ok (.aload_n 0, 1) := by decide +kernel
theorem dX5_begin_37 : decode cX5_begin 37 = .ok (.getfield 38, 3) := by decide +kernel
theorem dX5_begin_40 : decode cX5_begin 40 = .ok (.iload_n 3, 1) := by decide +kernel
theorem dX5_begin_41 : decode cX5_begin 41 = .ok (.iconst 0, 1) := by decide +kernel
theorem dX5_begin_42 : decode cX5_begin 42 = .ok (.bastore, 1) := by decide +kernel
theorem dX5_begin_43 : decode cX5_begin 43 = .ok (.iinc 3 1, 3) := by decide +kernel
theorem dX5_begin_46 : decode cX5_begin 46 = .ok (.goto (-16), 3) := by decide +kernel
theorem dX5_begin_49 : decode cX5_begin 49 = .ok (.iconst 0, 1) := by decide +kernel
theorem dX5_begin_50 : decode cX5_begin 50 = .ok (.istore_n 3, 1) := by decide +kernel
theorem dX5_begin_51 : decode cX5_begin 51 = .ok (.iload_n 3, 1) := by decide +kernel
theorem dX5_begin_52 : decode cX5_begin 52 = .ok (.bipush 64, 2) := by decide +kernel
theorem dX5_begin_54 : decode cX5_begin 54 = .ok (.if_icmp .ge 16, 3) := by decide +kernel
theorem dX5_begin_57 : decode cX5_begin 57 = .ok (.aload_n 0, 1) := by decide +kernel
theorem dX5_begin_58 : decode cX5_begin 58 = .ok (.getfield 51, 3) := by decide +kernel
theorem dX5_begin_61 : decode cX5_begin 61 = .ok (.iload_n 3, 1) := by decide +kernel
theorem dX5_begin_62 : decode cX5_begin 62 = .ok (.iconst 0, 1) := by decide +kernel
theorem dX5_begin_63 : decode cX5_begin 63 = .ok (.bastore, 1) := by decide +kernel
theorem dX5_begin_64 : decode cX5_begin 64 = .ok (.iinc 3 1, 3) := by decide +kernel
theorem dX5_begin_67 : decode cX5_begin 67 = .ok (.goto (-16), 3) := by decide +kernel
theorem dX5_begin_70 : decode cX5_begin 70 = .ok (.iconst 0, 1) := by decide +kernel
theorem dX5_begin_71 : decode cX5_begin 71 = .ok (.istore_n 3, 1) := by decide +kernel
theorem dX5_begin_72 : decode cX5_begin 72 = .ok (.iload_n 3, 1) := by decide +kernel
theorem dX5_begin_73 : decode cX5_begin 73 = .ok (.bipush 70, 2) := by decide +kernel
theorem dX5_begin_75 : decode cX5_begin 75 = .ok (.if_icmp .ge 16, 3) := by decide +kernel
theorem dX5_begin_78 : decode cX5_begin 78 = .ok (.aload_n 0, 1) := by decide +kernel
theorem dX5_begin_79 : decode cX5_begin 79 = .ok (.getfield 13, 3) := by decide +kernel
theorem dX5_begin_82 : decode cX5_begin 82 = .ok (.iload_n 3, 1) := by decide +kernel
theorem dX5_begin_83 : decode cX5_begin 83 = .ok (.iconst 1, 1) := by decide +kernel
theorem dX5_begin_84 : decode cX5_begin 84 = .ok (.iastore, 1) := by decide +kernel
theorem dX5_begin_85 : decode cX5_begin 85 = .ok (.iinc 3 1, 3) := by decide +kernel
theorem dX5_begin_88 : decode cX5_begin 88 = .ok (.goto (-16), 3) := by decide +kernel
theorem dX5_begin_91 : decode cX5_begin 91 = .ok (.iconst 0, 1) := by decide +kernel
theorem dX5_begin_92 : decode cX5_begin 92 = .ok (.istore_n 3, 1) := by decide +kernel
theorem dX5_begin_93 : decode cX5_begin 93 = .ok (.iload_n 3, 1) := by decide +kernel
theorem dX5_begin_94 : decode cX5_begin 94 = .ok (.sipush 288, 3) := by decide +kernel
theorem dX5_begin_97 : decode cX5_begin 97 = .ok (.if_icmp .ge 16, 3) := by decide +kernel
theorem dX5_begin_100 : decode cX5_begin 100 = .ok (.aload_n 0, 1) := by decide +kernel
theorem dX5_begin_101 : decode cX5_begin 101 = .ok (.getfield 23, 3) := by decide +kernel
theorem dX5_begin_104 : decode cX5_begin 104 = .ok (.iload_n 3, 1) := by decide +kernel
theorem dX5_begin_105 : decode cX5_begin 105 = .ok (.iconst 0, 1) := by decide +kernel
theorem dX5_begin_106 : decode cX5_begin 106 = .ok (.iastore, 1) := by decide +kernel
theorem dX5_begin_107 : decode cX5_begin 107 = .ok (.iinc 3 1, 3) := by decide +kernel
theorem dX5_begin_110 : decode cX5_begin 110 = .ok (.goto (-17), 3) := by decide +kernel
theorem dX5_begin_113 : decode cX5_begin 113 = .ok (.iconst 0, 1) := by decide +kernel
theorem dX5_begin_114 : decode cX5_begin 114 = .ok (.istore_n 3, 1) := by decide +kernel
theorem dX5_begin_115 : decode cX5_begin 115 = .ok (.iload_n 3, 1) := by decide +kernel
theorem dX5_begin_116 : decode cX5_begin 116 = .ok (.bipush 8, 2) := by decide +kernel
theorem dX5_begin_118 : decode cX5_begin 118 = .ok (.if_icmp .ge 32, 3) := by decide +kernel
theorem dX5_begin_121 : decode cX5_begin 121 = .ok (.aload_n 0, 1) := by decide +kernel
theorem dX5_begin_122 : decode cX5_begin 122 = .ok (.getfield 20, 3) := by decide +kernel
theorem dX5_begin_125 : decode cX5_begin 125 = .ok (.iload_n 3, 1) := by decide +kernel
theorem dX5_begin_126 : decode cX5_begin 126 = .ok (.aload_n 0, 1) := by decide +kernel
theorem dX5_begin_127 : decode cX5_begin 127 = .ok (.iconst 2, 1) := by decide +kernel
theorem dX5_begin_128 : decode cX5_begin 128 = .ok (.invokevirtual 121, 3) := by decide +kernel
theorem dX5_begin_131 : decode cX5_begin 131 = .ok (.iastore, 1) := by decide +kernel
theorem dX5_begin_132 : decode cX5_begin 132 = .ok (.aload_n 0, 1) := by decide +kernel
theorem dX5_begin_133 : decode cX5_begin 133 = .ok (.getfield 26, 3) := by decide +kernel
theorem dX5_begin_136 : decode cX5_begin 136 = .ok (.iload_n 3, 1) := by decide +kernel
theorem dX5_begin_137 : decode cX5_begin 137 = .ok (.aload_n 0, 1) := by decide +kernel
theorem dX5_begin_138 : decode cX5_begin 138 = .ok (.getfield 20, 3) := by decide +kernel
theorem dX5_begin_141 : decode cX5_begin 141 = .ok (.iload_n 3, 1) := by decide +kernel
theorem dX5_begin_142 : decode cX5_begin 142 = .ok (.iaload, 1) := by decide +kernel
theorem dX5_begin_143 : decode cX5_begin 143 = .ok (.iastore, 1) := by decide +kernel
theorem dX5_begin_144 : decode cX5_begin 144 = .ok (.iinc 3 1, 3) := by decide +kernel
theorem dX5_begin_147 : decode cX5_begin 147 = .ok (.goto (-32), 3) := by decide +kernel
theorem dX5_begin_150 : decode cX5_begin 150 = .ok (.iconst 0, 1) := by decide +kernel
theorem dX5_begin_151 : decode cX5_begin 151 = .ok (.istore_n 3, 1) := by decide +kernel
theorem dX5_begin_152 : decode cX5_begin 152 = .ok (.iload_n 3, 1) := by decide +kernel
theorem dX5_begin_153 : decode cX5_begin 153 = .ok (.bipush 64, 2) := by decide +kernel
theorem dX5_begin_155 : decode cX5_begin 155 = .ok (.if_icmp .ge 60, 3) := by decide +kernel
theorem dX5_begin_158 : decode cX5_begin 158 = .ok (.aload_n 0, 1) := by decide +kernel
theorem dX5_begin_159 : decode cX5_begin 159 = .ok (.getfield 20, 3) := by decide +kernel
theorem dX5_begin_162 : decode cX5_begin 162 = .ok (.bipush 8, 2) := by decide +kernel
theorem dX5_begin_164 : decode cX5_begin 164 = .ok (.iload_n 3, 1) := by decide +kernel
theorem dX5_begin_165 : decode cX5_begin 165 = .ok (.iadd, 1) := by decide +kernel
theorem dX5_begin_166 : decode cX5_begin 166 = .ok (.aload_n 0, 1) := by decide +kernel
theorem dX5_begin_167 : decode cX5_begin 167 = .ok (.iconst 5, 1) := by decide +kernel
theorem dX5_begin_168 : decode cX5_begin 168 = .ok (.invokevirtual 121, 3) := by decide +kernel
theorem dX5_begin_171 : decode cX5_begin 171 = .ok (.iastore, 1) := by decide +kernel
theorem dX5_begin_172 : decode cX5_begin 172 = .ok (.aload_n 0, 1) := by decide +kernel
theorem dX5_begin_173 : decode cX5_begin 173 = .ok (.getfield 23, 3) := by decide +kernel
theorem dX5_begin_176 : decode cX5_begin 176 = .ok (.iconst 4, 1) := by decide +kernel
theorem dX5_begin_177 : decode cX5_begin 177 = .ok (.iload_n 3, 1) := by decide +kernel
theorem dX5_begin_178 : decode cX5_begin 178 = .ok (.bipush 8, 2) := by decide +kernel
theorem dX5_begin_180 : decode cX5_begin 180 = .ok (.idiv, 1) := by decide +kernel
theorem dX5_begin_181 : decode cX5_begin 181 = .ok (.imul, 1) := by decide +kernel
theorem dX5_begin_182 : decode cX5_begin 182 = .ok (.iload_n 3, 1) := by decide +kernel
theorem dX5_begin_183 : decode cX5_begin 183 = .ok (.bipush 8, 2) := by decide +kernel
theorem dX5_begin_185 : decode cX5_begin 185 = .ok (.irem, 1) := by decide +kernel
theorem dX5_begin_186 : decode cX5_begin 186 = .ok (.iconst 2, 1) := by decide +kernel
theorem dX5_begin_187 : decode cX5_begin 187 = .ok (.idiv, 1) := by decide +kernel
theorem dX5_begin_188 : decode cX5_begin 188 = .ok (.iadd, 1) := by decide +kernel
theorem dX5_begin_189 : decode cX5_begin 189 = .ok (.dup2, 1) := by decide +kernel
theorem dX5_begin_190 : decode cX5_begin 190 = .ok (.iaload, 1) := by decide +kernel
theorem dX5_begin_191 : decode cX5_begin 191 = .ok (.aload_n 0, 1) := by decide +kernel
theorem dX5_begin_192 : decode cX5_begin 192 = .ok (.getfield 20, 3) := by decide +kernel
theorem dX5_begin_195 : decode cX5_begin 195 = .ok (.bipush 8, 2) := by decide +kernel
theorem dX5_begin_197 : decode cX5_begin 197 = .ok (.iload_n 3, 1) := by decide +kernel
theorem dX5_begin_198 : decode cX5_begin 198 = .ok (.iadd, 1) := by decide +kernel
theorem dX5_begin_199 : decode cX5_begin 199 = .ok (.iaload, 1) := by decide +kernel
theorem dX5_begin_200 : decode cX5_begin 200 = .ok (.bipush 16, 2) := by decide +kernel
theorem dX5_begin_202 : decode cX5_begin 202 = .ok (.iload_n 3, 1) := by decide +kernel
theorem dX5_begin_203 : decode cX5_begin 203 = .ok (.iconst 2, 1) := by decide +kernel
theorem dX5_begin_204 : decode cX5_begin 204 = .ok (.irem, 1) := by decide +kernel
theorem dX5_begin_205 : decode cX5_begin 205 = .ok (.imul, 1) := by decide +kernel
theorem dX5_begin_206 : decode cX5_begin 206 = .ok (.ishl, 1) := by decide +kernel
theorem dX5_begin_207 : decode cX5_begin 207 = .ok (.ior, 1) := by decide +kernel
theorem dX5_begin_208 : decode cX5_begin 208 = .ok (.iastore, 1) := by decide +kernel
theorem dX5_begin_209 : decode cX5_begin 209 = .ok (.iinc 3 1, 3) := by decide +kernel
theorem dX5_begin_212 : decode cX5_begin 212 = .ok (.goto (-60), 3) := by decide +kernel
theorem dX5_begin_215 : decode cX5_begin 215 = .ok (.iconst 0, 1) := by decide +kernel
theorem dX5_begin_216 : decode cX5_begin 216 = .ok (.istore_n 3, 1) := by decide +kernel
theorem dX5_begin_217 : decode cX5_begin 217 = .ok (.iload_n 3, 1) := by decide +kernel
theorem dX5_begin_218 : decode cX5_begin 218 = .ok (.bipush 72, 2) := by decide +kernel
theorem dX5_begin_220 : decode cX5_begin 220 = .ok (.if_icmp .ge 16, 3) := by decide +kernel
theorem dX5_begin_223 : decode cX5_begin 223 = .ok (.aload_n 0, 1) := by decide +kernel
theorem dX5_begin_224 : decode cX5_begin 224 = .ok (.getfield 16, 3) := by decide +kernel
theorem dX5_begin_227 : decode cX5_begin 227 = .ok (.iload_n 3, 1) := by decide +kernel
theorem dX5_begin_228 : decode cX5_begin 228 = .ok (.iconst 1, 1) := by decide +kernel
theorem dX5_begin_229 : decode cX5_begin 229 = .ok (.bastore, 1) := by decide +kernel
theorem dX5_begin_230 : decode cX5_begin 230 = .ok (.iinc 3 1, 3) := by decide +kernel
theorem dX5_begin_233 : decode cX5_begin 233 = .ok (.goto (-16), 3) := by decide +kernel
theorem dX5_begin_236 : decode cX5_begin 236 = .ok (.iconst 0, 1) := by decide +kernel
theorem dX5_begin_237 : decode cX5_begin 237 = .ok (.istore_n 3, 1) := by decide +kernel
theorem dX5_begin_238 : decode cX5_begin 238 = .ok (.iload_n 3, 1) := by decide +kernel
theorem dX5_begin_239 : decode cX5_begin 239 = .ok (.sipush 1750, 3) := by decide +kernel
theorem dX5_begin_242 : decode cX5_begin 242 = .ok (.if_icmp .ge 16, 3) := by decide +kernel
theorem dX5_begin_245 : decode cX5_begin 245 = .ok (.aload_n 0, 1) := by decide +kernel
theorem dX5_begin_246 : decode cX5_begin 246 = .ok (.getfield 7, 3) := by decide +kernel
theorem dX5_begin_249 : decode cX5_begin 249 = .ok (.iload_n 3, 1) := by decide +kernel
theorem dX5_begin_250 : decode cX5_begin 250 = .ok (.iconst 0, 1) := by decide +kernel
theorem dX5_begin_251 : decode cX5_begin 251 = .ok (.iastore, 1) := by decide +kernel
theorem dX5_begin_252 : decode cX5_begin 252 = .ok (.iinc 3 1, 3) := by decide +kernel
theorem dX5_begin_255 : decode cX5_begin 255 = .ok (.goto (-17), 3) := by decide +kernel
theorem dX5_begin_258 : decode cX5_begin 258 = .ok (.iconst 0, 1) := by decide +kernel
theorem dX5_begin_259 : decode cX5_begin 259 = .ok (.istore_n 3, 1) := by decide +kernel
theorem dX5_begin_260 : decode cX5_begin 260 = .ok (.iload_n 3, 1) := by decide +kernel
theorem dX5_begin_261 : decode cX5_begin 261 = .ok (.iconst 2, 1) := by decide +kernel
theorem dX5_begin_262 : decode cX5_begin 262 = .ok (.if_icmp .ge 99, 3) := by decide +kernel
theorem dX5_begin_265 : decode cX5_begin 265 = .ok (.iconst 0, 1) := by decide +kernel
theorem dX5_begin_266 : decode cX5_begin 266 = .ok (.istore 4, 2) := by decide +kernel
theorem dX5_begin_268 : decode cX5_begin 268 = .ok (.iload 4, 2) := by decide +kernel
theorem dX5_begin_270 : decode cX5_begin 270 = .ok (.iload_n 3, 1) := by decide +kernel
theorem dX5_begin_271 : decode cX5_begin 271 = .ok (.invokestatic 105, 3) := by decide +kernel
theorem dX5_begin_274 : decode cX5_begin 274 = .ok (.if_icmp .ge 16, 3) := by decide +kernel
theorem dX5_begin_277 : decode cX5_begin 277 = .ok (.aload_n 0, 1) := by decide +kernel
theorem dX5_begin_278 : decode cX5_begin 278 = .ok (.iload_n 3, 1) := by decide +kernel
theorem dX5_begin_279 : decode cX5_begin 279 = .ok (.iload 4, 2) := by decide +kernel
theorem dX5_begin_281 : decode cX5_begin 281 = .ok (.invokevirtual 141, 3) := by decide +kernel
theorem dX5_begin_284 : decode cX5_begin 284 = .ok (.iinc 4 1, 3) := by decide +kernel
theorem dX5_begin_287 : decode cX5_begin 287 = .ok (.goto (-19), 3) := by decide +kernel
theorem dX5_begin_290 : decode cX5_begin 290 = .ok (.iconst 0, 1) := by decide +kernel
theorem dX5_begin_291 : decode cX5_begin 291 = .ok (.istore 4, 2) := by decide +kernel
theorem dX5_begin_293 : decode cX5_begin 293 = .ok (.iload 4, 2) := by decide +kernel
theorem dX5_begin_295 : decode cX5_begin 295 = .ok (.iload_n 3, 1) := by decide +kernel
theorem dX5_begin_296 : decode cX5_begin 296 = .ok (.invokestatic 65, 3) := by decide +kernel
theorem dX5_begin_299 : decode cX5_begin 299 = .ok (.if_icmp .ge 56, 3) := by decide +kernel
theorem dX5_begin_302 : decode cX5_begin 302 = .ok (.iconst 0, 1) := by decide +kernel
theorem dX5_begin_303 : decode cX5_begin 303 = .ok (.istore 5, 2) := by decide +kernel
theorem dX5_begin_305 : decode cX5_begin 305 = .ok (.iload 5, 2) := by decide +kernel
theorem dX5_begin_307 : decode cX5_begin 307 = .ok (.bipush 24, 2) := by decide +kernel
theorem dX5_begin_309 : decode cX5_begin 309 = .ok (.if_icmp .ge 33, 3) := by decide +kernel
theorem dX5_begin_312 : decode cX5_begin 312 = .ok (.aload_n 0, 1) := by decide +kernel
theorem dX5_begin_313 : decode cX5_begin 313 = .ok (.getfield 29, 3) := by decide +kernel
theorem dX5_begin_316 : decode cX5_begin 316 = .ok (.iload 5, 2) := by decide +kernel
theorem dX5_begin_318 : decode cX5_begin 318 = .ok (.aload_n 0, 1) := by decide +kernel
theorem dX5_begin_319 : decode cX5_begin 319 = .ok (.getfield 7, 3) := by decide +kernel
theorem dX5_begin_322 : decode cX5_begin 322 = .ok (.bipush 25, 2) := by decide +kernel
theorem dX5_begin_324 : decode cX5_begin 324 = .ok (.iload_n 3, 1) := by decide +kernel
theorem dX5_begin_325 : decode cX5_begin 325 = .ok (.iload 4, 2) := by decide +kernel
theorem dX5_begin_327 : decode cX5_begin 327 = .ok (.invokestatic 80, 3) := by decide +kernel
theorem dX5_begin_330 : decode cX5_begin 330 = .ok (.imul, 1) := by decide +kernel
theorem dX5_begin_331 : decode cX5_begin 331 = .ok (.iload 5, 2) := by decide +kernel
theorem dX5_begin_333 : decode cX5_begin 333 = .ok (.iadd, 1) := by decide +kernel
theorem dX5_begin_334 : decode cX5_begin 334 = .ok (.iaload, 1) := by decide +kernel
theorem dX5_begin_335 : decode cX5_begin 335 = .ok (.iastore, 1) := by decide +kernel
theorem dX5_begin_336 : decode cX5_begin 336 = .ok (.iinc 5 1, 3) := by decide +kernel
theorem dX5_begin_339 : decode cX5_begin 339 = .ok (.goto (-34), 3) := by decide +kernel
theorem dX5_begin_342 : decode cX5_begin 342 = .ok (.aload_n 0, 1) := by decide +kernel
theorem dX5_begin_343 : decode cX5_begin 343 = .ok (.iload_n 3, 1) := by decide +kernel
theorem dX5_begin_344 : decode cX5_begin 344 = .ok (.iload 4, 2) := by decide +kernel
theorem dX5_begin_346 : decode cX5_begin 346 = .ok (.invokevirtual 118, 3) := by decide +kernel
theorem dX5_begin_349 : decode cX5_begin 349 = .ok (.iinc 4 1, 3) := by decide +kernel
theorem dX5_begin_352 : decode cX5_begin 352 = .ok (.goto (-59), 3) := by decide +kernel
theorem dX5_begin_355 : decode cX5_begin 355 = .ok (.iinc 3 1, 3) := by decide +kernel
theorem dX5_begin_358 : decode cX5_begin 358 = .ok (.goto (-98), 3) := by decide +kernel
theorem dX5_begin_361 : decode cX5_begin 361 = .ok (.return_, 1) := by decide +kernel
set_option maxRecDepth 20000 in
theorem ggX5_settle_X5_first : GoodIn wsX5_settle wsX5_first := goodIn_r _ [8] (by decide +kernel) (by decide +kernel)
set_option maxRecDepth 20000 in
theorem gX5_settle_X5_first : GoodIn wsX5_settle (va_wsS RX5 95 yX5_first wsX5_first) := goodIn_app (goodIn_of _ (by decide +kernel)) ggX5_settle_X5_first
set_option maxRecDepth 20000 in
theorem ggX5_settle_X5_levels : GoodIn wsX5_settle wsX5_levels := goodIn_r _ [11] (by decide +kernel) (by decide +kernel)
set_option maxRecDepth 20000 in
theorem gX5_settle_X5_levels : GoodIn wsX5_settle (va_wsS RX5 69 yX5_levels wsX5_levels) := goodIn_app (goodIn_of _ (by decide +kernel)) ggX5_settle_X5_levels
set_option maxRecDepth 20000 in
theorem ggX5_settle_X5_onPath : GoodIn wsX5_settle wsX5_onPath := goodIn_r _ [14, 15, 16, 7, 17] (by decide +kernel) (by decide +kernel)
set_option maxRecDepth 20000 in
theorem gX5_settle_X5_onPath : GoodIn wsX5_settle (va_wsS RX5 72 yX5_onPath wsX5_onPath) := goodIn_app (goodIn_of _ (by decide +kernel)) ggX5_settle_X5_onPath
set_option maxRecDepth 20000 in
theorem ggX5_settle_X5_place : GoodIn wsX5_settle wsX5_place := goodIn_r _ [20] (by decide +kernel) (by decide +kernel)
set_option maxRecDepth 20000 in
theorem gX5_settle_X5_place : GoodIn wsX5_settle (va_wsS RX5 80 yX5_place wsX5_place) := goodIn_app (goodIn_of _ (by decide +kernel)) ggX5_settle_X5_place
theorem dX5_settle_0 : decode cX5_settle 0 = .ok (.iload_n 1, 1) := by decide +kernel
theorem dX5_settle_1 : decode cX5_settle 1 = .ok (.invokestatic 95, 3) := by decide +kernel
theorem dX5_settle_4 : decode cX5_settle 4 = .ok (.iload_n 2, 1) := by decide +kernel
theorem dX5_settle_5 : decode cX5_settle 5 = .ok (.iadd, 1) := by decide +kernel
theorem dX5_settle_6 : decode cX5_settle 6 = .ok (.istore_n 3, 1) := by decide +kernel
theorem dX5_settle_7 : decode cX5_settle 7 = .ok (.iconst 0, 1) := by decide +kernel
theorem dX5_settle_8 : decode cX5_settle 8 = .ok (.istore 4, 2) := by decide +kernel
theorem dX5_settle_10 : decode cX5_settle 10 = .ok (.iload 4, 2) := by decide +kernel
theorem dX5_settle_12 : decode cX5_settle 12 = .ok (.iload_n 1, 1) := by decide +kernel
theorem dX5_settle_13 : decode cX5_settle 13 = .ok (.invokestatic 69, 3) := by decide +kernel
theorem dX5_settle_16 : decode cX5_settle 16 = .ok (.if_icmp .ge 170, 3) := by decide +kernel
theorem dX5_settle_19 : decode cX5_settle 19 = .ok (.aload_n 0, 1) := by decide +kernel
theorem dX5_settle_20 : decode cX5_settle 20 = .ok (.getfield 16, 3) := by decide +kernel
theorem dX5_settle_23 : decode cX5_settle 23 = .ok (.iload_n 3, 1) := by decide +kernel
theorem dX5_settle_24 : decode cX5_settle 24 = .ok (.baload, 1) := by decide +kernel
theorem dX5_settle_25 : decode cX5_settle 25 = .ok (.ifCond .eq 161, 3) := by decide +kernel
theorem dX5_settle_28 : decode cX5_settle 28 = .ok (.bipush 25, 2) := by decide +kernel
theorem dX5_settle_30 : decode cX5_settle 30 = .ok (.iload_n 1, 1) := by decide +kernel
theorem dX5_settle_31 : decode cX5_settle 31 = .ok (.iload_n 1, 1) := by decide +kernel
theorem dX5_settle_32 : decode cX5_settle 32 = .ok (.aload_n 0, 1) := by decide +kernel
theorem dX5_settle_33 : decode cX5_settle 33 = .ok (.getfield 20, 3) := by decide +kernel
theorem dX5_settle_36 : decode cX5_settle 36 = .ok (.iload_n 3, 1) := by decide +kernel
theorem dX5_settle_37 : decode cX5_settle 37 = .ok (.iaload, 1) := by decide +kernel
theorem dX5_settle_38 : decode cX5_settle 38 = .ok (.iload 4, 2) := by decide +kernel
theorem dX5_settle_40 : decode cX5_settle 40 = .ok (.invokestatic 72, 3) := by decide +kernel
theorem dX5_settle_43 : decode cX5_settle 43 = .ok (.invokestatic 80, 3) := by decide +kernel
theorem dX5_settle_46 : decode cX5_settle 46 = .ok (.imul, 1) := by decide +kernel
theorem dX5_settle_47 : decode cX5_settle 47 = .ok (.istore 5, 2) := by decide +kernel
theorem dX5_settle_49 : decode cX5_settle 49 = .ok (.iconst 0, 1) := by decide +kernel
theorem dX5_settle_50 : decode cX5_settle 50 = .ok (.istore 6, 2) := by decide +kernel
theorem dX5_settle_52 : decode cX5_settle 52 = .ok (.iload 6, 2) := by decide +kernel
theorem dX5_settle_54 : decode cX5_settle 54 = .ok (.iconst 4, 1) := by decide +kernel
theorem dX5_settle_55 : decode cX5_settle 55 = .ok (.if_icmp .ge 125, 3) := by decide +kernel
theorem dX5_settle_58 : decode cX5_settle 58 = .ok (.aload_n 0, 1) := by decide +kernel
theorem dX5_settle_59 : decode cX5_settle 59 = .ok (.getfield 16, 3) := by decide +kernel
theorem dX5_settle_62 : decode cX5_settle 62 = .ok (.iload_n 3, 1) := by decide +kernel
theorem dX5_settle_63 : decode cX5_settle 63 = .ok (.baload, 1) := by decide +kernel
theorem dX5_settle_64 : decode cX5_settle 64 = .ok (.ifCond .eq 116, 3) := by decide +kernel
theorem dX5_settle_67 : decode cX5_settle 67 = .ok (.aload_n 0, 1) := by decide +kernel
theorem dX5_settle_68 : decode cX5_settle 68 = .ok (.getfield 7, 3) := by decide +kernel
theorem dX5_settle_71 : decode cX5_settle 71 = .ok (.iload 5, 2) := by decide +kernel
theorem dX5_settle_73 : decode cX5_settle 73 = .ok (.bipush 6, 2) := by decide +kernel
theorem dX5_settle_75 : decode cX5_settle 75 = .ok (.iload 6, 2) := by decide +kernel
theorem dX5_settle_77 : decode cX5_settle 77 = .ok (.imul, 1) := by decide +kernel
theorem dX5_settle_78 : decode cX5_settle 78 = .ok (.iadd, 1) := by decide +kernel
theorem dX5_settle_79 : decode cX5_settle 79 = .ok (.iaload, 1) := by decide +kernel
theorem dX5_settle_80 : decode cX5_settle 80 = .ok (.ifCond .eq 6, 3) := by decide +kernel
theorem dX5_settle_83 : decode cX5_settle 83 = .ok (.goto 91, 3) := by decide +kernel
theorem dX5_settle_86 : decode cX5_settle 86 = .ok (.aload_n 0, 1) := by decide +kernel
theorem dX5_settle_87 : decode cX5_settle 87 = .ok (.getfield 7, 3) := by decide +kernel
theorem dX5_settle_90 : decode cX5_settle 90 = .ok (.iload 5, 2) := by decide +kernel
theorem dX5_settle_92 : decode cX5_settle 92 = .ok (.bipush 6, 2) := by decide +kernel
theorem dX5_settle_94 : decode cX5_settle 94 = .ok (.iload 6, 2) := by decide +kernel
theorem dX5_settle_96 : decode cX5_settle 96 = .ok (.imul, 1) := by decide +kernel
theorem dX5_settle_97 : decode cX5_settle 97 = .ok (.iadd, 1) := by decide +kernel
theorem dX5_settle_98 : decode cX5_settle 98 = .ok (.iload_n 2, 1) := by decide +kernel
theorem dX5_settle_99 : decode cX5_settle 99 = .ok (.iconst 1, 1) := by decide +kernel
theorem dX5_settle_100 : decode cX5_settle 100 = .ok (.iadd, 1) := by decide +kernel
theorem dX5_settle_101 : decode cX5_settle 101 = .ok (.iastore, 1) := by decide +kernel
theorem dX5_settle_102 : decode cX5_settle 102 = .ok (.aload_n 0, 1) := by decide +kernel
theorem dX5_settle_103 : decode cX5_settle 103 = .ok (.getfield 7, 3) := by decide +kernel
theorem dX5_settle_106 : decode cX5_settle 106 = .ok (.iload 5, 2) := by decide +kernel
theorem dX5_settle_108 : decode cX5_settle 108 = .ok (.bipush 6, 2) := by decide +kernel
theorem dX5_settle_110 : decode cX5_settle 110 = .ok (.iload 6, 2) := by decide +kernel
theorem dX5_settle_112 : decode cX5_settle 112 = .ok (.imul, 1) := by decide +kernel
theorem dX5_settle_113 : decode cX5_settle 113 = .ok (.iadd, 1) := by decide +kernel
theorem dX5_settle_114 : decode cX5_settle 114 = .ok (.iconst 1, 1) := by decide +kernel
theorem dX5_settle_115 : decode cX5_settle 115 = .ok (.iadd, 1) := by decide +kernel
theorem dX5_settle_116 : decode cX5_settle 116 = .ok (.aload_n 0, 1) := by decide +kernel
theorem dX5_settle_117 : decode cX5_settle 117 = .ok (.getfield 20, 3) := by decide +kernel
theorem dX5_settle_120 : decode cX5_settle 120 = .ok (.iload_n 3, 1) := by decide +kernel
theorem dX5_settle_121 : decode cX5_settle 121 = .ok (.iaload, 1) := by decide +kernel
theorem dX5_settle_122 : decode cX5_settle 122 = .ok (.iastore, 1) := by decide +kernel
theorem dX5_settle_123 : decode cX5_settle 123 = .ok (.iconst 0, 1) := by decide +kernel
theorem dX5_settle_124 : decode cX5_settle 124 = .ok (.istore 7, 2) := by decide +kernel
theorem dX5_settle_126 : decode cX5_settle 126 = .ok (.iload 7, 2) := by decide +kernel
theorem dX5_settle_128 : decode cX5_settle 128 = .ok (.iconst 4, 1) := by decide +kernel
theorem dX5_settle_129 : decode cX5_settle 129 = .ok (.if_icmp .ge 38, 3) := by decide +kernel
theorem dX5_settle_132 : decode cX5_settle 132 = .ok (.aload_n 0, 1) := by decide +kernel
theorem dX5_settle_133 : decode cX5_settle 133 = .ok (.getfield 7, 3) := by decide +kernel
theorem dX5_settle_136 : decode cX5_settle 136 = .ok (.iload 5, 2) := by decide +kernel
theorem dX5_settle_138 : decode cX5_settle 138 = .ok (.bipush 6, 2) := by decide +kernel
theorem dX5_settle_140 : decode cX5_settle 140 = .ok (.iload 6, 2) := by decide +kernel
theorem dX5_settle_142 : decode cX5_settle 142 = .ok (.imul, 1) := by decide +kernel
theorem dX5_settle_143 : decode cX5_settle 143 = .ok (.iadd, 1) := by decide +kernel
theorem dX5_settle_144 : decode cX5_settle 144 = .ok (.iconst 2, 1) := by decide +kernel
theorem dX5_settle_145 : decode cX5_settle 145 = .ok (.iadd, 1) := by decide +kernel
theorem dX5_settle_146 : decode cX5_settle 146 = .ok (.iload 7, 2) := by decide +kernel
theorem dX5_settle_148 : decode cX5_settle 148 = .ok (.iadd, 1) := by decide +kernel
theorem dX5_settle_149 : decode cX5_settle 149 = .ok (.aload_n 0, 1) := by decide +kernel
theorem dX5_settle_150 : decode cX5_settle 150 = .ok (.getfield 23, 3) := by decide +kernel
theorem dX5_settle_153 : decode cX5_settle 153 = .ok (.iconst 4, 1) := by decide +kernel
theorem dX5_settle_154 : decode cX5_settle 154 = .ok (.iload_n 3, 1) := by decide +kernel
theorem dX5_settle_155 : decode cX5_settle 155 = .ok (.imul, 1) := by decide +kernel
theorem dX5_settle_156 : decode cX5_settle 156 = .ok (.iload 7, 2) := by decide +kernel
theorem dX5_settle_158 : decode cX5_settle 158 = .ok (.iadd, 1) := by decide +kernel
theorem dX5_settle_159 : decode cX5_settle 159 = .ok (.iaload, 1) := by decide +kernel
theorem dX5_settle_160 : decode cX5_settle 160 = .ok (.iastore, 1) := by decide +kernel
theorem dX5_settle_161 : decode cX5_settle 161 = .ok (.iinc 7 1, 3) := by decide +kernel
theorem dX5_settle_164 : decode cX5_settle 164 = .ok (.goto (-38), 3) := by decide +kernel
theorem dX5_settle_167 : decode cX5_settle 167 = .ok (.aload_n 0, 1) := by decide +kernel
theorem dX5_settle_168 : decode cX5_settle 168 = .ok (.getfield 16, 3) := by decide +kernel
theorem dX5_settle_171 : decode cX5_settle 171 = .ok (.iload_n 3, 1) := by decide +kernel
theorem dX5_settle_172 : decode cX5_settle 172 = .ok (.iconst 0, 1) := by decide +kernel
theorem dX5_settle_173 : decode cX5_settle 173 = .ok (.bastore, 1) := by decide +kernel
theorem dX5_settle_174 : decode cX5_settle 174 = .ok (.iinc 6 1, 3) := by decide +kernel
theorem dX5_settle_177 : decode cX5_settle 177 = .ok (.goto (-125), 3) := by decide +kernel
theorem dX5_settle_180 : decode cX5_settle 180 = .ok (.iinc 4 1, 3) := by decide +kernel
theorem dX5_settle_183 : decode cX5_settle 183 = .ok (.goto (-173), 3) := by decide +kernel
theorem dX5_settle_186 : decode cX5_settle 186 = .ok (.return_, 1) := by decide +kernel
set_option maxRecDepth 20000 in
theorem ggX5_start_X5_begin : GoodIn wsX5_start wsX5_begin := goodIn_r _ [6, 7, 8, 9, 10, 11, 12, 13, 14, 15, 16, 17, 18, 19, 20, 21, 22, 5, 23, 24, 25, 26, 27, 28, 29, 30, 31, 32, 33, 34, 35, 36, 37, 38, 39, 40, 41, 42, 43, 44, 45, 46, 47, 48, 49, 50, 51, 52, 53, 54, 55, 56, 57, 58, 59, 60, 61, 62, 63, 64, 65, 66, 67, 68, 69, 70, 71, 72, 73, 74, 75, 76, 77, 78, 79, 80, 81, 82, 83] (by decide +kernel) (by decide +kernel)
set_option maxRecDepth 20000 in
theorem gX5_start_X5_begin : GoodIn wsX5_start (wsV RX5 54 RX5 yX5_begin wsX5_begin) := goodIn_app (goodIn_of _ (by decide +kernel)) ggX5_start_X5_begin
theorem dX5_start_0 : decode cX5_start 0 = .ok (.aload_n 0, 1) := by decide +kernel
theorem dX5_start_1 : decode cX5_start 1 = .ok (.iconst 0, 1) := by decide +kernel
theorem dX5_start_2 : decode cX5_start 2 = .ok (.putfield 58, 3) := by decide +kernel
theorem dX5_start_5 : decode cX5_start 5 = .ok (.aload_n 0, 1) := by decide +kernel
theorem dX5_start_6 : decode cX5_start 6 = .ok (.iload_n 1, 1) := by decide +kernel
theorem dX5_start_7 : decode cX5_start 7 = .ok (.iload_n 2, 1) := by decide +kernel
theorem dX5_start_8 : decode cX5_start 8 = .ok (.invokevirtual 54, 3) := by decide +kernel
theorem dX5_start_11 : decode cX5_start 11 = .ok (.return_, 1) := by decide +kernel
theorem dX5_isFile_0 : decode cX5_isFile 0 = .ok (.iload_n 1, 1) := by decide +kernel
theorem dX5_isFile_1 : decode cX5_isFile 1 = .ok (.ifCond .lt 22, 3) := by decide +kernel
theorem dX5_isFile_4 : decode cX5_isFile 4 = .ok (.iload_n 1, 1) := by decide +kernel
theorem dX5_isFile_5 : decode cX5_isFile 5 = .ok (.bipush 8, 2) := by decide +kernel
theorem dX5_isFile_7 : decode cX5_isFile 7 = .ok (.if_icmp .ge 16, 3) := by decide +kernel
theorem dX5_isFile_10 : decode cX5_isFile 10 = .ok (.aload_n 0, 1) := by decide +kernel
theorem dX5_isFile_11 : decode cX5_isFile 11 = .ok (.getfield 38, 3) := by decide +kernel
theorem dX5_isFile_14 : decode cX5_isFile 14 = .ok (.iload_n 1, 1) := by decide +kernel
theorem dX5_isFile_15 : decode cX5_isFile 15 = .ok (.baload, 1) := by decide +kernel
theorem dX5_isFile_16 : decode cX5_isFile 16 = .ok (.ifCond .eq 7, 3) := by decide +kernel
theorem dX5_isFile_19 : decode cX5_isFile 19 = .ok (.iconst 1, 1) := by decide +kernel
theorem dX5_isFile_20 : decode cX5_isFile 20 = .ok (.goto 4, 3) := by decide +kernel
theorem dX5_isFile_23 : decode cX5_isFile 23 = .ok (.iconst 0, 1) := by decide +kernel
theorem dX5_isFile_24 : decode cX5_isFile 24 = .ok (.ireturn, 1) := by decide +kernel
theorem dX5_named_0 : decode cX5_named 0 = .ok (.iconst 0, 1) := by decide +kernel
theorem dX5_named_1 : decode cX5_named 1 = .ok (.istore_n 3, 1) := by decide +kernel
theorem dX5_named_2 : decode cX5_named 2 = .ok (.iload_n 3, 1) := by decide +kernel
theorem dX5_named_3 : decode cX5_named 3 = .ok (.bipush 8, 2) := by decide +kernel
theorem dX5_named_5 : decode cX5_named 5 = .ok (.if_icmp .ge 31, 3) := by decide +kernel
theorem dX5_named_8 : decode cX5_named 8 = .ok (.aload_n 0, 1) := by decide +kernel
theorem dX5_named_9 : decode cX5_named 9 = .ok (.getfield 38, 3) := by decide +kernel
theorem dX5_named_12 : decode cX5_named 12 = .ok (.iload_n 3, 1) := by decide +kernel
theorem dX5_named_13 : decode cX5_named 13 = .ok (.baload, 1) := by decide +kernel
theorem dX5_named_14 : decode cX5_named 14 = .ok (.ifCond .eq 16, 3) := by decide +kernel
theorem dX5_named_17 : decode cX5_named 17 = .ok (.aload_n 0, 1) := by decide +kernel
theorem dX5_named_18 : decode cX5_named 18 = .ok (.getfield 41, 3) := by decide +kernel
end
section
theorem dX5_named_21 : decode cX5_named 21 = .ok (.iload_n 3, 1) := by decide +kernel
theorem dX5_named_22 : decode cX5_named 22 = .ok (.laload, 1) := by decide +kernel
theorem dX5_named_23 : decode cX5_named 23 = .ok (.lload_n 1, 1) := by decide +kernel
theorem dX5_named_24 : decode cX5_named 24 = .ok (.lcmp, 1) := by decide +kernel
theorem dX5_named_25 : decode cX5_named 25 = .ok (.ifCond .ne 5, 3) := by decide +kernel
theorem dX5_named_28 : decode cX5_named 28 = .ok (.iload_n 3, 1) := by decide +kernel
theorem dX5_named_29 : decode cX5_named 29 = .ok (.ireturn, 1) := by decide +kernel
theorem dX5_named_30 : decode cX5_named 30 = .ok (.iinc 3 1, 3) := by decide +kernel
theorem dX5_named_33 : decode cX5_named 33 = .ok (.goto (-31), 3) := by decide +kernel
theorem dX5_named_36 : decode cX5_named 36 = .ok (.iconst (-1), 1) := by decide +kernel
theorem dX5_named_37 : decode cX5_named 37 = .ok (.ireturn, 1) := by decide +kernel
set_option maxRecDepth 20000 in
theorem ggX5_create_X5_named : GoodIn wsX5_create wsX5_named := goodIn_r _ [9, 2, 3, 10, 11, 12, 13, 14, 15, 16, 17, 18, 19, 20, 21, 22, 23, 24, 25, 26, 27, 28, 29] (by decide +kernel) (by decide +kernel)
set_option maxRecDepth 20000 in
theorem gX5_create_X5_named : GoodIn wsX5_create (wsV RX5 144 RX5 yX5_named wsX5_named) := goodIn_app (goodIn_of _ (by decide +kernel)) ggX5_create_X5_named
theorem dX5_create_0 : decode cX5_create 0 = .ok (.aload_n 0, 1) := by decide +kernel
theorem dX5_create_1 : decode cX5_create 1 = .ok (.iconst 0, 1) := by decide +kernel
theorem dX5_create_2 : decode cX5_create 2 = .ok (.putfield 58, 3) := by decide +kernel
theorem dX5_create_5 : decode cX5_create 5 = .ok (.aload_n 0, 1) := by decide +kernel
theorem dX5_create_6 : decode cX5_create 6 = .ok (.lload_n 1, 1) := by decide +kernel
theorem dX5_create_7 : decode cX5_create 7 = .ok (.invokevirtual 144, 3) := by decide +kernel
theorem dX5_create_10 : decode cX5_create 10 = .ok (.iconst (-1), 1) := by decide +kernel
theorem dX5_create_11 : decode cX5_create 11 = .ok (.if_icmp .eq 5, 3) := by decide +kernel
theorem dX5_create_14 : decode cX5_create 14 = .ok (.iconst (-1), 1) := by decide +kernel
theorem dX5_create_15 : decode cX5_create 15 = .ok (.ireturn, 1) := by decide +kernel
theorem dX5_create_16 : decode cX5_create 16 = .ok (.iconst 0, 1) := by decide +kernel
theorem dX5_create_17 : decode cX5_create 17 = .ok (.istore_n 3, 1) := by decide +kernel
theorem dX5_create_18 : decode cX5_create 18 = .ok (.iload_n 3, 1) := by decide +kernel
theorem dX5_create_19 : decode cX5_create 19 = .ok (.bipush 8, 2) := by decide +kernel
theorem dX5_create_21 : decode cX5_create 21 = .ok (.if_icmp .ge 18, 3) := by decide +kernel
theorem dX5_create_24 : decode cX5_create 24 = .ok (.aload_n 0, 1) := by decide +kernel
theorem dX5_create_25 : decode cX5_create 25 = .ok (.getfield 38, 3) := by decide +kernel
theorem dX5_create_28 : decode cX5_create 28 = .ok (.iload_n 3, 1) := by decide +kernel
theorem dX5_create_29 : decode cX5_create 29 = .ok (.baload, 1) := by decide +kernel
theorem dX5_create_30 : decode cX5_create 30 = .ok (.ifCond .eq 9, 3) := by decide +kernel
theorem dX5_create_33 : decode cX5_create 33 = .ok (.iinc 3 1, 3) := by decide +kernel
theorem dX5_create_36 : decode cX5_create 36 = .ok (.goto (-18), 3) := by decide +kernel
theorem dX5_create_39 : decode cX5_create 39 = .ok (.iload_n 3, 1) := by decide +kernel
theorem dX5_create_40 : decode cX5_create 40 = .ok (.bipush 8, 2) := by decide +kernel
theorem dX5_create_42 : decode cX5_create 42 = .ok (.if_icmp .ne 5, 3) := by decide +kernel
theorem dX5_create_45 : decode cX5_create 45 = .ok (.iconst (-1), 1) := by decide +kernel
theorem dX5_create_46 : decode cX5_create 46 = .ok (.ireturn, 1) := by decide +kernel
theorem dX5_create_47 : decode cX5_create 47 = .ok (.aload_n 0, 1) := by decide +kernel
theorem dX5_create_48 : decode cX5_create 48 = .ok (.getfield 38, 3) := by decide +kernel
theorem dX5_create_51 : decode cX5_create 51 = .ok (.iload_n 3, 1) := by decide +kernel
theorem dX5_create_52 : decode cX5_create 52 = .ok (.iconst 1, 1) := by decide +kernel
theorem dX5_create_53 : decode cX5_create 53 = .ok (.bastore, 1) := by decide +kernel
theorem dX5_create_54 : decode cX5_create 54 = .ok (.aload_n 0, 1) := by decide +kernel
theorem dX5_create_55 : decode cX5_create 55 = .ok (.getfield 41, 3) := by decide +kernel
theorem dX5_create_58 : decode cX5_create 58 = .ok (.iload_n 3, 1) := by decide +kernel
theorem dX5_create_59 : decode cX5_create 59 = .ok (.lload_n 1, 1) := by decide +kernel
theorem dX5_create_60 : decode cX5_create 60 = .ok (.lastore, 1) := by decide +kernel
theorem dX5_create_61 : decode cX5_create 61 = .ok (.aload_n 0, 1) := by decide +kernel
theorem dX5_create_62 : decode cX5_create 62 = .ok (.getfield 45, 3) := by decide +kernel
theorem dX5_create_65 : decode cX5_create 65 = .ok (.iload_n 3, 1) := by decide +kernel
theorem dX5_create_66 : decode cX5_create 66 = .ok (.iconst 0, 1) := by decide +kernel
theorem dX5_create_67 : decode cX5_create 67 = .ok (.iastore, 1) := by decide +kernel
theorem dX5_create_68 : decode cX5_create 68 = .ok (.iload_n 3, 1) := by decide +kernel
theorem dX5_create_69 : decode cX5_create 69 = .ok (.ireturn, 1) := by decide +kernel
set_option maxRecDepth 20000 in
theorem ggX5_find_X5_named : GoodIn wsX5_find wsX5_named := goodIn_r _ [6, 7, 8, 9, 10, 11, 12, 13, 14, 15, 16, 17, 18, 19, 20, 21, 22, 23, 24, 25, 26, 27, 28] (by decide +kernel) (by decide +kernel)
set_option maxRecDepth 20000 in
theorem gX5_find_X5_named : GoodIn wsX5_find (wsV RX5 144 RX5 yX5_named wsX5_named) := goodIn_app (goodIn_of _ (by decide +kernel)) ggX5_find_X5_named
theorem dX5_find_0 : decode cX5_find 0 = .ok (.aload_n 0, 1) := by decide +kernel
theorem dX5_find_1 : decode cX5_find 1 = .ok (.iconst 0, 1) := by decide +kernel
theorem dX5_find_2 : decode cX5_find 2 = .ok (.putfield 58, 3) := by decide +kernel
theorem dX5_find_5 : decode cX5_find 5 = .ok (.aload_n 0, 1) := by decide +kernel
theorem dX5_find_6 : decode cX5_find 6 = .ok (.lload_n 1, 1) := by decide +kernel
theorem dX5_find_7 : decode cX5_find 7 = .ok (.invokevirtual 144, 3) := by decide +kernel
theorem dX5_find_10 : decode cX5_find 10 = .ok (.ireturn, 1) := by decide +kernel
set_option maxRecDepth 20000 in
theorem ggX5_remove_X5_isFile : GoodIn wsX5_remove wsX5_isFile := goodIn_r _ [10, 5, 11, 12, 13, 14, 15, 16, 17, 18, 19, 20, 21, 22, 23, 24, 25, 26, 27, 28, 29, 30] (by decide +kernel) (by decide +kernel)
set_option maxRecDepth 20000 in
theorem gX5_remove_X5_isFile : GoodIn wsX5_remove (wsV RX5 148 RX5 yX5_isFile wsX5_isFile) := goodIn_app (goodIn_of _ (by decide +kernel)) ggX5_remove_X5_isFile
theorem dX5_remove_0 : decode cX5_remove 0 = .ok (.aload_n 0, 1) := by decide +kernel
theorem dX5_remove_1 : decode cX5_remove 1 = .ok (.iconst 0, 1) := by decide +kernel
theorem dX5_remove_2 : decode cX5_remove 2 = .ok (.putfield 58, 3) := by decide +kernel
theorem dX5_remove_5 : decode cX5_remove 5 = .ok (.aload_n 0, 1) := by decide +kernel
theorem dX5_remove_6 : decode cX5_remove 6 = .ok (.iload_n 1, 1) := by decide +kernel
theorem dX5_remove_7 : decode cX5_remove 7 = .ok (.invokevirtual 148, 3) := by decide +kernel
theorem dX5_remove_10 : decode cX5_remove 10 = .ok (.ifCond .ne 5, 3) := by decide +kernel
theorem dX5_remove_13 : decode cX5_remove 13 = .ok (.iconst 0, 1) := by decide +kernel
theorem dX5_remove_14 : decode cX5_remove 14 = .ok (.ireturn, 1) := by decide +kernel
theorem dX5_remove_15 : decode cX5_remove 15 = .ok (.iconst 0, 1) := by decide +kernel
theorem dX5_remove_16 : decode cX5_remove 16 = .ok (.istore_n 2, 1) := by decide +kernel
theorem dX5_remove_17 : decode cX5_remove 17 = .ok (.iconst 4, 1) := by decide +kernel
theorem dX5_remove_18 : decode cX5_remove 18 = .ok (.iload_n 2, 1) := by decide +kernel
theorem dX5_remove_19 : decode cX5_remove 19 = .ok (.imul, 1) := by decide +kernel
theorem dX5_remove_20 : decode cX5_remove 20 = .ok (.aload_n 0, 1) := by decide +kernel
theorem dX5_remove_21 : decode cX5_remove 21 = .ok (.getfield 45, 3) := by decide +kernel
theorem dX5_remove_24 : decode cX5_remove 24 = .ok (.iload_n 1, 1) := by decide +kernel
theorem dX5_remove_25 : decode cX5_remove 25 = .ok (.iaload, 1) := by decide +kernel
theorem dX5_remove_26 : decode cX5_remove 26 = .ok (.if_icmp .ge 26, 3) := by decide +kernel
theorem dX5_remove_29 : decode cX5_remove 29 = .ok (.aload_n 0, 1) := by decide +kernel
theorem dX5_remove_30 : decode cX5_remove 30 = .ok (.getfield 51, 3) := by decide +kernel
theorem dX5_remove_33 : decode cX5_remove 33 = .ok (.aload_n 0, 1) := by decide +kernel
theorem dX5_remove_34 : decode cX5_remove 34 = .ok (.getfield 48, 3) := by decide +kernel
theorem dX5_remove_37 : decode cX5_remove 37 = .ok (.bipush 6, 2) := by decide +kernel
theorem dX5_remove_39 : decode cX5_remove 39 = .ok (.iload_n 1, 1) := by decide +kernel
theorem dX5_remove_40 : decode cX5_remove 40 = .ok (.imul, 1) := by decide +kernel
theorem dX5_remove_41 : decode cX5_remove 41 = .ok (.iload_n 2, 1) := by decide +kernel
theorem dX5_remove_42 : decode cX5_remove 42 = .ok (.iadd, 1) := by decide +kernel
theorem dX5_remove_43 : decode cX5_remove 43 = .ok (.iaload, 1) := by decide +kernel
theorem dX5_remove_44 : decode cX5_remove 44 = .ok (.iconst 0, 1) := by decide +kernel
theorem dX5_remove_45 : decode cX5_remove 45 = .ok (.bastore, 1) := by decide +kernel
theorem dX5_remove_46 : decode cX5_remove 46 = .ok (.iinc 2 1, 3) := by decide +kernel
theorem dX5_remove_49 : decode cX5_remove 49 = .ok (.goto (-32), 3) := by decide +kernel
theorem dX5_remove_52 : decode cX5_remove 52 = .ok (.aload_n 0, 1) := by decide +kernel
theorem dX5_remove_53 : decode cX5_remove 53 = .ok (.getfield 38, 3) := by decide +kernel
theorem dX5_remove_56 : decode cX5_remove 56 = .ok (.iload_n 1, 1) := by decide +kernel
theorem dX5_remove_57 : decode cX5_remove 57 = .ok (.iconst 0, 1) := by decide +kernel
theorem dX5_remove_58 : decode cX5_remove 58 = .ok (.bastore, 1) := by decide +kernel
theorem dX5_remove_59 : decode cX5_remove 59 = .ok (.iconst 1, 1) := by decide +kernel
theorem dX5_remove_60 : decode cX5_remove 60 = .ok (.ireturn, 1) := by decide +kernel
set_option maxRecDepth 20000 in
theorem ggX5_size_X5_isFile : GoodIn wsX5_size wsX5_isFile := goodIn_r _ [7, 8, 9, 10, 11, 12, 13, 14, 15, 16, 17, 18, 19, 20, 21, 22, 23, 24, 25, 26, 27, 28] (by decide +kernel) (by decide +kernel)
set_option maxRecDepth 20000 in
theorem gX5_size_X5_isFile : GoodIn wsX5_size (wsV RX5 148 RX5 yX5_isFile wsX5_isFile) := goodIn_app (goodIn_of _ (by decide +kernel)) ggX5_size_X5_isFile
theorem dX5_size_0 : decode cX5_size 0 = .ok (.aload_n 0, 1) := by decide +kernel
theorem dX5_size_1 : decode cX5_size 1 = .ok (.iconst 0, 1) := by decide +kernel
theorem dX5_size_2 : decode cX5_size 2 = .ok (.putfield 58, 3) := by decide +kernel
theorem dX5_size_5 : decode cX5_size 5 = .ok (.aload_n 0, 1) := by decide +kernel
theorem dX5_size_6 : decode cX5_size 6 = .ok (.iload_n 1, 1) := by decide +kernel
theorem dX5_size_7 : decode cX5_size 7 = .ok (.invokevirtual 148, 3) := by decide +kernel
theorem dX5_size_10 : decode cX5_size 10 = .ok (.ifCond .eq 12, 3) := by decide +kernel
theorem dX5_size_13 : decode cX5_size 13 = .ok (.aload_n 0, 1) := by decide +kernel
theorem dX5_size_14 : decode cX5_size 14 = .ok (.getfield 45, 3) := by decide +kernel
theorem dX5_size_17 : decode cX5_size 17 = .ok (.iload_n 1, 1) := by decide +kernel
theorem dX5_size_18 : decode cX5_size 18 = .ok (.iaload, 1) := by decide +kernel
theorem dX5_size_19 : decode cX5_size 19 = .ok (.goto 4, 3) := by decide +kernel
theorem dX5_size_22 : decode cX5_size 22 = .ok (.iconst (-1), 1) := by decide +kernel
theorem dX5_size_23 : decode cX5_size 23 = .ok (.ireturn, 1) := by decide +kernel
set_option maxRecDepth 20000 in
theorem ggX5_write_X5_isFile : GoodIn wsX5_write wsX5_isFile := goodIn_r _ [10, 11, 96, 97, 98, 99, 100, 101, 102, 103, 104, 105, 106, 107, 108, 109, 110, 111, 112, 113, 114, 115] (by decide +kernel) (by decide +kernel)
set_option maxRecDepth 20000 in
theorem gX5_write_X5_isFile : GoodIn wsX5_write (wsV RX5 148 RX5 yX5_isFile wsX5_isFile) := goodIn_app (goodIn_of _ (by decide +kernel)) ggX5_write_X5_isFile
set_option maxRecDepth 20000 in
theorem ggX5_write_X5_access : GoodIn wsX5_write wsX5_access := goodIn_r _ [15, 16, 17, 18, 19, 2, 20, 21, 22, 23, 24, 25, 9, 26, 27, 28, 29, 30, 31, 32, 33, 34, 35, 36, 37, 38, 39, 40, 41, 42, 43, 44, 45, 46, 47, 48, 49, 50, 51, 52, 53, 54, 55, 56, 57, 58, 59, 60, 61, 62, 63, 64, 65, 66, 67, 68, 69, 70, 71, 72, 73, 74, 75, 76, 77, 78, 79, 80, 81, 82, 83, 84, 85, 86, 87, 88, 89, 90, 91, 92, 93, 94, 95, 96, 97, 98, 99, 100, 101, 102, 103, 104, 105, 106, 107, 108, 109, 110, 111, 112, 113, 114, 115] (by decide +kernel) (by decide +kernel)
set_option maxRecDepth 20000 in
theorem gX5_write_X5_access : GoodIn wsX5_write (wsV RX5 152 RX5 yX5_access wsX5_access) := goodIn_app (goodIn_of _ (by decide +kernel)) ggX5_write_X5_access
theorem dX5_write_0 : decode cX5_write 0 = .ok (.aload_n 0, 1) := by decide +kernel
theorem dX5_write_1 : decode cX5_write 1 = .ok (.iload_n 1, 1) := by decide +kernel
theorem dX5_write_2 : decode cX5_write 2 = .ok (.invokevirtual 148, 3) := by decide +kernel
theorem dX5_write_5 : decode cX5_write 5 = .ok (.ifCond .eq 27, 3) := by decide +kernel
theorem dX5_write_8 : decode cX5_write 8 = .ok (.iload_n 2, 1) := by decide +kernel
theorem dX5_write_9 : decode cX5_write 9 = .ok (.ifCond .lt 23, 3) := by decide +kernel
theorem dX5_write_12 : decode cX5_write 12 = .ok (.iload_n 2, 1) := by decide +kernel
theorem dX5_write_13 : decode cX5_write 13 = .ok (.aload_n 0, 1) := by decide +kernel
theorem dX5_write_14 : decode cX5_write 14 = .ok (.getfield 45, 3) := by decide +kernel
theorem dX5_write_17 : decode cX5_write 17 = .ok (.iload_n 1, 1) := by decide +kernel
theorem dX5_write_18 : decode cX5_write 18 = .ok (.iaload, 1) := by decide +kernel
theorem dX5_write_19 : decode cX5_write 19 = .ok (.if_icmp .gt 13, 3) := by decide +kernel
theorem dX5_write_22 : decode cX5_write 22 = .ok (.iload_n 2, 1) := by decide +kernel
theorem dX5_write_23 : decode cX5_write 23 = .ok (.bipush 24, 2) := by decide +kernel
theorem dX5_write_25 : decode cX5_write 25 = .ok (.if_icmp .ge 7, 3) := by decide +kernel
theorem dX5_write_28 : decode cX5_write 28 = .ok (.iconst 1, 1) := by decide +kernel
theorem dX5_write_29 : decode cX5_write 29 = .ok (.goto 4, 3) := by decide +kernel
theorem dX5_write_32 : decode cX5_write 32 = .ok (.iconst 0, 1) := by decide +kernel
theorem dX5_write_33 : decode cX5_write 33 = .ok (.istore 4, 2) := by decide +kernel
theorem dX5_write_35 : decode cX5_write 35 = .ok (.aload_n 0, 1) := by decide +kernel
theorem dX5_write_36 : decode cX5_write 36 = .ok (.iload 4, 2) := by decide +kernel
theorem dX5_write_38 : decode cX5_write 38 = .ok (.ifCond .ne 7, 3) := by decide +kernel
theorem dX5_write_41 : decode cX5_write 41 = .ok (.iconst 1, 1) := by decide +kernel
theorem dX5_write_42 : decode cX5_write 42 = .ok (.goto 15, 3) := by decide +kernel
theorem dX5_write_45 : decode cX5_write 45 = .ok (.aload_n 0, 1) := by decide +kernel
theorem dX5_write_46 : decode cX5_write 46 = .ok (.getfield 131, 3) := by decide +kernel
theorem dX5_write_49 : decode cX5_write 49 = .ok (.ifCond .eq 7, 3) := by decide +kernel
theorem dX5_write_52 : decode cX5_write 52 = .ok (.iconst 2, 1) := by decide +kernel
theorem dX5_write_53 : decode cX5_write 53 = .ok (.goto 4, 3) := by decide +kernel
theorem dX5_write_56 : decode cX5_write 56 = .ok (.iconst 0, 1) := by decide +kernel
theorem dX5_write_57 : decode cX5_write 57 = .ok (.putfield 58, 3) := by decide +kernel
theorem dX5_write_60 : decode cX5_write 60 = .ok (.aload_n 0, 1) := by decide +kernel
theorem dX5_write_61 : decode cX5_write 61 = .ok (.getfield 58, 3) := by decide +kernel
theorem dX5_write_64 : decode cX5_write 64 = .ok (.ifCond .eq 4, 3) := by decide +kernel
theorem dX5_write_67 : decode cX5_write 67 = .ok (.return_, 1) := by decide +kernel
theorem dX5_write_68 : decode cX5_write 68 = .ok (.iload_n 2, 1) := by decide +kernel
theorem dX5_write_69 : decode cX5_write 69 = .ok (.aload_n 0, 1) := by decide +kernel
theorem dX5_write_70 : decode cX5_write 70 = .ok (.getfield 45, 3) := by decide +kernel
theorem dX5_write_73 : decode cX5_write 73 = .ok (.iload_n 1, 1) := by decide +kernel
theorem dX5_write_74 : decode cX5_write 74 = .ok (.iaload, 1) := by decide +kernel
theorem dX5_write_75 : decode cX5_write 75 = .ok (.if_icmp .ne 13, 3) := by decide +kernel
theorem dX5_write_78 : decode cX5_write 78 = .ok (.iload_n 2, 1) := by decide +kernel
theorem dX5_write_79 : decode cX5_write 79 = .ok (.iconst 4, 1) := by decide +kernel
theorem dX5_write_80 : decode cX5_write 80 = .ok (.irem, 1) := by decide +kernel
theorem dX5_write_81 : decode cX5_write 81 = .ok (.ifCond .ne 7, 3) := by decide +kernel
theorem dX5_write_84 : decode cX5_write 84 = .ok (.iconst 1, 1) := by decide +kernel
theorem dX5_write_85 : decode cX5_write 85 = .ok (.goto 4, 3) := by decide +kernel
theorem dX5_write_88 : decode cX5_write 88 = .ok (.iconst 0, 1) := by decide +kernel
theorem dX5_write_89 : decode cX5_write 89 = .ok (.istore 5, 2) := by decide +kernel
theorem dX5_write_91 : decode cX5_write 91 = .ok (.iconst 0, 1) := by decide +kernel
theorem dX5_write_92 : decode cX5_write 92 = .ok (.istore 6, 2) := by decide +kernel
theorem dX5_write_94 : decode cX5_write 94 = .ok (.iload 5, 2) := by decide +kernel
theorem dX5_write_96 : decode cX5_write 96 = .ok (.ifCond .eq 19, 3) := by decide +kernel
theorem dX5_write_99 : decode cX5_write 99 = .ok (.aload_n 0, 1) := by decide +kernel
theorem dX5_write_100 : decode cX5_write 100 = .ok (.getfield 51, 3) := by decide +kernel
theorem dX5_write_103 : decode cX5_write 103 = .ok (.iload 6, 2) := by decide +kernel
theorem dX5_write_105 : decode cX5_write 105 = .ok (.baload, 1) := by decide +kernel
theorem dX5_write_106 : decode cX5_write 106 = .ok (.ifCond .eq 24, 3) := by decide +kernel
theorem dX5_write_109 : decode cX5_write 109 = .ok (.iinc 6 1, 3) := by decide +kernel
theorem dX5_write_112 : decode cX5_write 112 = .ok (.goto (-13), 3) := by decide +kernel
theorem dX5_write_115 : decode cX5_write 115 = .ok (.aload_n 0, 1) := by decide +kernel
theorem dX5_write_116 : decode cX5_write 116 = .ok (.getfield 48, 3) := by decide +kernel
theorem dX5_write_119 : decode cX5_write 119 = .ok (.bipush 6, 2) := by decide +kernel
theorem dX5_write_121 : decode cX5_write 121 = .ok (.iload_n 1, 1) := by decide +kernel
theorem dX5_write_122 : decode cX5_write 122 = .ok (.imul, 1) := by decide +kernel
theorem dX5_write_123 : decode cX5_write 123 = .ok (.iload_n 2, 1) := by decide +kernel
theorem dX5_write_124 : decode cX5_write 124 = .ok (.iconst 4, 1) := by decide +kernel
theorem dX5_write_125 : decode cX5_write 125 = .ok (.idiv, 1) := by decide +kernel
theorem dX5_write_126 : decode cX5_write 126 = .ok (.iadd, 1) := by decide +kernel
theorem dX5_write_127 : decode cX5_write 127 = .ok (.iaload, 1) := by decide +kernel
theorem dX5_write_128 : decode cX5_write 128 = .ok (.istore 6, 2) := by decide +kernel
theorem dX5_write_130 : decode cX5_write 130 = .ok (.aload_n 0, 1) := by decide +kernel
theorem dX5_write_131 : decode cX5_write 131 = .ok (.iload 6, 2) := by decide +kernel
theorem dX5_write_133 : decode cX5_write 133 = .ok (.iload_n 2, 1) := by decide +kernel
theorem dX5_write_134 : decode cX5_write 134 = .ok (.iconst 4, 1) := by decide +kernel
theorem dX5_write_135 : decode cX5_write 135 = .ok (.irem, 1) := by decide +kernel
theorem dX5_write_136 : decode cX5_write 136 = .ok (.iconst 1, 1) := by decide +kernel
theorem dX5_write_137 : decode cX5_write 137 = .ok (.iload 5, 2) := by decide +kernel
theorem dX5_write_139 : decode cX5_write 139 = .ok (.iload_n 3, 1) := by decide +kernel
theorem dX5_write_140 : decode cX5_write 140 = .ok (.invokevirtual 152, 3) := by decide +kernel
theorem dX5_write_143 : decode cX5_write 143 = .ok (.ifCond .ne 9, 3) := by decide +kernel
theorem dX5_write_146 : decode cX5_write 146 = .ok (.aload_n 0, 1) := by decide +kernel
theorem dX5_write_147 : decode cX5_write 147 = .ok (.iconst 2, 1) := by decide +kernel
theorem dX5_write_148 : decode cX5_write 148 = .ok (.putfield 58, 3) := by decide +kernel
theorem dX5_write_151 : decode cX5_write 151 = .ok (.return_, 1) := by decide +kernel
theorem dX5_write_152 : decode cX5_write 152 = .ok (.aload_n 0, 1) := by decide +kernel
theorem dX5_write_153 : decode cX5_write 153 = .ok (.getfield 51, 3) := by decide +kernel
theorem dX5_write_156 : decode cX5_write 156 = .ok (.iload 6, 2) := by decide +kernel
theorem dX5_write_158 : decode cX5_write 158 = .ok (.iconst 1, 1) := by decide +kernel
theorem dX5_write_159 : decode cX5_write 159 = .ok (.bastore, 1) := by decide +kernel
theorem dX5_write_160 : decode cX5_write 160 = .ok (.aload_n 0, 1) := by decide +kernel
theorem dX5_write_161 : decode cX5_write 161 = .ok (.getfield 48, 3) := by decide +kernel
theorem dX5_write_164 : decode cX5_write 164 = .ok (.bipush 6, 2) := by decide +kernel
theorem dX5_write_166 : decode cX5_write 166 = .ok (.iload_n 1, 1) := by decide +kernel
theorem dX5_write_167 : decode cX5_write 167 = .ok (.imul, 1) := by decide +kernel
theorem dX5_write_168 : decode cX5_write 168 = .ok (.iload_n 2, 1) := by decide +kernel
theorem dX5_write_169 : decode cX5_write 169 = .ok (.iconst 4, 1) := by decide +kernel
theorem dX5_write_170 : decode cX5_write 170 = .ok (.idiv, 1) := by decide +kernel
theorem dX5_write_171 : decode cX5_write 171 = .ok (.iadd, 1) := by decide +kernel
theorem dX5_write_172 : decode cX5_write 172 = .ok (.iload 6, 2) := by decide +kernel
theorem dX5_write_174 : decode cX5_write 174 = .ok (.iastore, 1) := by decide +kernel
theorem dX5_write_175 : decode cX5_write 175 = .ok (.iload_n 2, 1) := by decide +kernel
theorem dX5_write_176 : decode cX5_write 176 = .ok (.aload_n 0, 1) := by decide +kernel
theorem dX5_write_177 : decode cX5_write 177 = .ok (.getfield 45, 3) := by decide +kernel
theorem dX5_write_180 : decode cX5_write 180 = .ok (.iload_n 1, 1) := by decide +kernel
theorem dX5_write_181 : decode cX5_write 181 = .ok (.iaload, 1) := by decide +kernel
theorem dX5_write_182 : decode cX5_write 182 = .ok (.if_icmp .ne 13, 3) := by decide +kernel
theorem dX5_write_185 : decode cX5_write 185 = .ok (.aload_n 0, 1) := by decide +kernel
theorem dX5_write_186 : decode cX5_write 186 = .ok (.getfield 45, 3) := by decide +kernel
theorem dX5_write_189 : decode cX5_write 189 = .ok (.iload_n 1, 1) := by decide +kernel
theorem dX5_write_190 : decode cX5_write 190 = .ok (.dup2, 1) := by decide +kernel
theorem dX5_write_191 : decode cX5_write 191 = .ok (.iaload, 1) := by decide +kernel
theorem dX5_write_192 : decode cX5_write 192 = .ok (.iconst 1, 1) := by decide +kernel
theorem dX5_write_193 : decode cX5_write 193 = .ok (.iadd, 1) := by decide +kernel
theorem dX5_write_194 : decode cX5_write 194 = .ok (.iastore, 1) := by decide +kernel
theorem dX5_write_195 : decode cX5_write 195 = .ok (.return_, 1) := by decide +kernel
set_option maxRecDepth 20000 in
theorem ggX5_read_X5_isFile : GoodIn wsX5_read wsX5_isFile := goodIn_r _ [10, 11, 99, 100, 101, 102, 103, 104, 105, 106, 107, 108, 109, 110, 111, 112, 113, 114, 115, 116, 117, 118] (by decide +kernel) (by decide +kernel)
set_option maxRecDepth 20000 in
theorem gX5_read_X5_isFile : GoodIn wsX5_read (wsV RX5 148 RX5 yX5_isFile wsX5_isFile) := goodIn_app (goodIn_of _ (by decide +kernel)) ggX5_read_X5_isFile
set_option maxRecDepth 20000 in
theorem ggX5_read_X5_raise : GoodIn wsX5_read wsX5_raise := goodIn_r _ [15, 4, 99, 100, 101, 102, 103, 104, 105, 106, 107, 108, 109, 110, 111, 112, 113, 114, 115, 116, 117, 118] (by decide +kernel) (by decide +kernel)
set_option maxRecDepth 20000 in
theorem gX5_read_X5_raise : GoodIn wsX5_read (wsV RX5 156 RX5 yX5_raise wsX5_raise) := goodIn_app (goodIn_of _ (by decide +kernel)) ggX5_read_X5_raise
set_option maxRecDepth 20000 in
theorem ggX5_read_X5_access : GoodIn wsX5_read wsX5_access := goodIn_r _ [19, 20, 21, 22, 23, 2, 24, 25, 5, 26, 27, 28, 9, 29, 30, 31, 32, 33, 34, 35, 36, 37, 38, 39, 40, 41, 42, 43, 44, 45, 46, 47, 48, 49, 50, 51, 52, 53, 54, 55, 56, 57, 58, 59, 60, 61, 62, 63, 64, 65, 66, 67, 68, 69, 70, 71, 72, 73, 74, 75, 76, 77, 78, 79, 80, 81, 82, 83, 84, 85, 86, 87, 88, 89, 90, 91, 92, 93, 94, 95, 96, 97, 98, 99, 100, 101, 102, 103, 104, 105, 106, 107, 108, 109, 110, 111, 112, 113, 114, 115, 116, 117, 118] (by decide +kernel) (by decide +kernel)
set_option maxRecDepth 20000 in
theorem gX5_read_X5_access : GoodIn wsX5_read (wsV RX5 152 RX5 yX5_access wsX5_access) := goodIn_app (goodIn_of _ (by decide +kernel)) ggX5_read_X5_access
theorem dX5_read_0 : decode cX5_read 0 = .ok (.aload_n 0, 1) := by decide +kernel
theorem dX5_read_1 : decode cX5_read 1 = .ok (.iload_n 1, 1) := by decide +kernel
theorem dX5_read_2 : decode cX5_read 2 = .ok (.invokevirtual 148, 3) := by decide +kernel
theorem dX5_read_5 : decode cX5_read 5 = .ok (.ifCond .eq 21, 3) := by decide +kernel
theorem dX5_read_8 : decode cX5_read 8 = .ok (.iload_n 2, 1) := by decide +kernel
theorem dX5_read_9 : decode cX5_read 9 = .ok (.ifCond .lt 17, 3) := by decide +kernel
theorem dX5_read_12 : decode cX5_read 12 = .ok (.iload_n 2, 1) := by decide +kernel
theorem dX5_read_13 : decode cX5_read 13 = .ok (.aload_n 0, 1) := by decide +kernel
theorem dX5_read_14 : decode cX5_read 14 = .ok (.getfield 45, 3) := by decide +kernel
theorem dX5_read_17 : decode cX5_read 17 = .ok (.iload_n 1, 1) := by decide +kernel
theorem dX5_read_18 : decode cX5_read 18 = .ok (.iaload, 1) := by decide +kernel
theorem dX5_read_19 : decode cX5_read 19 = .ok (.if_icmp .ge 7, 3) := by decide +kernel
theorem dX5_read_22 : decode cX5_read 22 = .ok (.iconst 1, 1) := by decide +kernel
theorem dX5_read_23 : decode cX5_read 23 = .ok (.goto 4, 3) := by decide +kernel
theorem dX5_read_26 : decode cX5_read 26 = .ok (.iconst 0, 1) := by decide +kernel
theorem dX5_read_27 : decode cX5_read 27 = .ok (.istore_n 3, 1) := by decide +kernel
theorem dX5_read_28 : decode cX5_read 28 = .ok (.iload_n 3, 1) := by decide +kernel
theorem dX5_read_29 : decode cX5_read 29 = .ok (.ifCond .ne 9, 3) := by decide +kernel
theorem dX5_read_32 : decode cX5_read 32 = .ok (.aload_n 0, 1) := by decide +kernel
theorem dX5_read_33 : decode cX5_read 33 = .ok (.iconst 1, 1) := by decide +kernel
theorem dX5_read_34 : decode cX5_read 34 = .ok (.invokevirtual 156, 3) := by decide +kernel
theorem dX5_read_37 : decode cX5_read 37 = .ok (.ireturn, 1) := by decide +kernel
theorem dX5_read_38 : decode cX5_read 38 = .ok (.aload_n 0, 1) := by decide +kernel
theorem dX5_read_39 : decode cX5_read 39 = .ok (.getfield 131, 3) := by decide +kernel
theorem dX5_read_42 : decode cX5_read 42 = .ok (.ifCond .ne 29, 3) := by decide +kernel
theorem dX5_read_45 : decode cX5_read 45 = .ok (.aload_n 0, 1) := by decide +kernel
theorem dX5_read_46 : decode cX5_read 46 = .ok (.aload_n 0, 1) := by decide +kernel
theorem dX5_read_47 : decode cX5_read 47 = .ok (.getfield 48, 3) := by decide +kernel
theorem dX5_read_50 : decode cX5_read 50 = .ok (.bipush 6, 2) := by decide +kernel
theorem dX5_read_52 : decode cX5_read 52 = .ok (.iload_n 1, 1) := by decide +kernel
theorem dX5_read_53 : decode cX5_read 53 = .ok (.imul, 1) := by decide +kernel
theorem dX5_read_54 : decode cX5_read 54 = .ok (.iload_n 2, 1) := by decide +kernel
theorem dX5_read_55 : decode cX5_read 55 = .ok (.iconst 4, 1) := by decide +kernel
theorem dX5_read_56 : decode cX5_read 56 = .ok (.idiv, 1) := by decide +kernel
theorem dX5_read_57 : decode cX5_read 57 = .ok (.iadd, 1) := by decide +kernel
theorem dX5_read_58 : decode cX5_read 58 = .ok (.iaload, 1) := by decide +kernel
theorem dX5_read_59 : decode cX5_read 59 = .ok (.iload_n 2, 1) := by decide +kernel
theorem dX5_read_60 : decode cX5_read 60 = .ok (.iconst 4, 1) := by decide +kernel
theorem dX5_read_61 : decode cX5_read 61 = .ok (.irem, 1) := by decide +kernel
theorem dX5_read_62 : decode cX5_read 62 = .ok (.iconst 0, 1) := by decide +kernel
theorem dX5_read_63 : decode cX5_read 63 = .ok (.iconst 0, 1) := by decide +kernel
theorem dX5_read_64 : decode cX5_read 64 = .ok (.iconst 0, 1) := by decide +kernel
theorem dX5_read_65 : decode cX5_read 65 = .ok (.invokevirtual 152, 3) := by decide +kernel
theorem dX5_read_68 : decode cX5_read 68 = .ok (.ifCond .ne 9, 3) := by decide +kernel
theorem dX5_read_71 : decode cX5_read 71 = .ok (.aload_n 0, 1) := by decide +kernel
theorem dX5_read_72 : decode cX5_read 72 = .ok (.iconst 2, 1) := by decide +kernel
theorem dX5_read_73 : decode cX5_read 73 = .ok (.invokevirtual 156, 3) := by decide +kernel
theorem dX5_read_76 : decode cX5_read 76 = .ok (.ireturn, 1) := by decide +kernel
theorem dX5_read_77 : decode cX5_read 77 = .ok (.aload_n 0, 1) := by decide +kernel
theorem dX5_read_78 : decode cX5_read 78 = .ok (.iconst 0, 1) := by decide +kernel
theorem dX5_read_79 : decode cX5_read 79 = .ok (.putfield 58, 3) := by decide +kernel
theorem dX5_read_82 : decode cX5_read 82 = .ok (.aload_n 0, 1) := by decide +kernel
theorem dX5_read_83 : decode cX5_read 83 = .ok (.getfield 138, 3) := by decide +kernel
theorem dX5_read_86 : decode cX5_read 86 = .ok (.ireturn, 1) := by decide +kernel
set_option maxRecDepth 20000 in
theorem ggX5_idle_X5_draw : GoodIn wsX5_idle wsX5_draw := goodIn_r _ [7, 8, 88, 89, 90, 91, 92, 93, 94, 95, 96, 97, 98, 99, 100, 101, 102, 103, 104, 105, 106, 107] (by decide +kernel) (by decide +kernel)
set_option maxRecDepth 20000 in
theorem gX5_idle_X5_draw : GoodIn wsX5_idle (wsV RX5 121 RX5 yX5_draw wsX5_draw) := goodIn_app (goodIn_of _ (by decide +kernel)) ggX5_idle_X5_draw
set_option maxRecDepth 20000 in
theorem ggX5_idle_X5_access : GoodIn wsX5_idle wsX5_access := goodIn_r _ [12, 13, 14, 15, 16, 1, 17, 18, 19, 3, 4, 5, 6, 7, 8, 20, 21, 22, 23, 24, 25, 26, 27, 28, 29, 30, 31, 32, 33, 34, 35, 36, 37, 38, 39, 40, 41, 42, 43, 44, 45, 46, 47, 48, 49, 50, 51, 52, 53, 54, 55, 56, 57, 58, 59, 60, 61, 62, 63, 64, 65, 66, 67, 68, 69, 70, 71, 72, 73, 74, 75, 76, 77, 78, 79, 80, 81, 82, 83, 84, 85, 86, 87, 88, 89, 90, 91, 92, 93, 94, 95, 96, 97, 98, 99, 100, 101, 102, 103, 104, 105, 106, 107] (by decide +kernel) (by decide +kernel)
set_option maxRecDepth 20000 in
theorem gX5_idle_X5_access : GoodIn wsX5_idle (wsV RX5 152 RX5 yX5_access wsX5_access) := goodIn_app (goodIn_of _ (by decide +kernel)) ggX5_idle_X5_access
theorem dX5_idle_0 : decode cX5_idle 0 = .ok (.aload_n 0, 1) := by decide +kernel
theorem dX5_idle_1 : decode cX5_idle 1 = .ok (.aload_n 0, 1) := by decide +kernel
theorem dX5_idle_2 : decode cX5_idle 2 = .ok (.getfield 131, 3) := by decide +kernel
theorem dX5_idle_5 : decode cX5_idle 5 = .ok (.ifCond .eq 7, 3) := by decide +kernel
theorem dX5_idle_8 : decode cX5_idle 8 = .ok (.iconst 1, 1) := by decide +kernel
theorem dX5_idle_9 : decode cX5_idle 9 = .ok (.goto 4, 3) := by decide +kernel
theorem dX5_idle_12 : decode cX5_idle 12 = .ok (.iconst 0, 1) := by decide +kernel
theorem dX5_idle_13 : decode cX5_idle 13 = .ok (.putfield 58, 3) := by decide +kernel
theorem dX5_idle_16 : decode cX5_idle 16 = .ok (.aload_n 0, 1) := by decide +kernel
theorem dX5_idle_17 : decode cX5_idle 17 = .ok (.getfield 131, 3) := by decide +kernel
theorem dX5_idle_20 : decode cX5_idle 20 = .ok (.ifCond .eq 4, 3) := by decide +kernel
theorem dX5_idle_23 : decode cX5_idle 23 = .ok (.return_, 1) := by decide +kernel
theorem dX5_idle_24 : decode cX5_idle 24 = .ok (.aload_n 0, 1) := by decide +kernel
theorem dX5_idle_25 : decode cX5_idle 25 = .ok (.bipush 6, 2) := by decide +kernel
theorem dX5_idle_27 : decode cX5_idle 27 = .ok (.invokevirtual 121, 3) := by decide +kernel
theorem dX5_idle_30 : decode cX5_idle 30 = .ok (.istore_n 1, 1) := by decide +kernel
theorem dX5_idle_31 : decode cX5_idle 31 = .ok (.aload_n 0, 1) := by decide +kernel
theorem dX5_idle_32 : decode cX5_idle 32 = .ok (.aload_n 0, 1) := by decide +kernel
theorem dX5_idle_33 : decode cX5_idle 33 = .ok (.iload_n 1, 1) := by decide +kernel
theorem dX5_idle_34 : decode cX5_idle 34 = .ok (.iconst 0, 1) := by decide +kernel
theorem dX5_idle_35 : decode cX5_idle 35 = .ok (.iconst 0, 1) := by decide +kernel
theorem dX5_idle_36 : decode cX5_idle 36 = .ok (.iconst 0, 1) := by decide +kernel
theorem dX5_idle_37 : decode cX5_idle 37 = .ok (.iconst 0, 1) := by decide +kernel
theorem dX5_idle_38 : decode cX5_idle 38 = .ok (.invokevirtual 152, 3) := by decide +kernel
theorem dX5_idle_41 : decode cX5_idle 41 = .ok (.ifCond .eq 7, 3) := by decide +kernel
theorem dX5_idle_44 : decode cX5_idle 44 = .ok (.iconst 0, 1) := by decide +kernel
theorem dX5_idle_45 : decode cX5_idle 45 = .ok (.goto 4, 3) := by decide +kernel
theorem dX5_idle_48 : decode cX5_idle 48 = .ok (.iconst 1, 1) := by decide +kernel
theorem dX5_idle_49 : decode cX5_idle 49 = .ok (.putfield 58, 3) := by decide +kernel
theorem dX5_idle_52 : decode cX5_idle 52 = .ok (.return_, 1) := by decide +kernel
set_option maxRecDepth 20000 in
theorem ggX5_isBucket_X5_buckets : GoodIn wsX5_isBucket wsX5_buckets := goodIn_r _ [4] (by decide +kernel) (by decide +kernel)
set_option maxRecDepth 20000 in
theorem gX5_isBucket_X5_buckets : GoodIn wsX5_isBucket (va_wsS RX5 65 yX5_buckets wsX5_buckets) := goodIn_app (goodIn_of _ (by decide +kernel)) ggX5_isBucket_X5_buckets
theorem dX5_isBucket_0 : decode cX5_isBucket 0 = .ok (.iload_n 0, 1) := by decide +kernel
theorem dX5_isBucket_1 : decode cX5_isBucket 1 = .ok (.ifCond .eq 8, 3) := by decide +kernel
theorem dX5_isBucket_4 : decode cX5_isBucket 4 = .ok (.iload_n 0, 1) := by decide +kernel
theorem dX5_isBucket_5 : decode cX5_isBucket 5 = .ok (.iconst 1, 1) := by decide +kernel
theorem dX5_isBucket_6 : decode cX5_isBucket 6 = .ok (.if_icmp .ne 19, 3) := by decide +kernel
theorem dX5_isBucket_9 : decode cX5_isBucket 9 = .ok (.iload_n 1, 1) := by decide +kernel
theorem dX5_isBucket_10 : decode cX5_isBucket 10 = .ok (.ifCond .lt 15, 3) := by decide +kernel
theorem dX5_isBucket_13 : decode cX5_isBucket 13 = .ok (.iload_n 1, 1) := by decide +kernel
theorem dX5_isBucket_14 : decode cX5_isBucket 14 = .ok (.iload_n 0, 1) := by decide +kernel
theorem dX5_isBucket_15 : decode cX5_isBucket 15 = .ok (.invokestatic 65, 3) := by decide +kernel
theorem dX5_isBucket_18 : decode cX5_isBucket 18 = .ok (.if_icmp .ge 7, 3) := by decide +kernel
theorem dX5_isBucket_21 : decode cX5_isBucket 21 = .ok (.iconst 1, 1) := by decide +kernel
theorem dX5_isBucket_22 : decode cX5_isBucket 22 = .ok (.goto 4, 3) := by decide +kernel
theorem dX5_isBucket_25 : decode cX5_isBucket 25 = .ok (.iconst 0, 1) := by decide +kernel
theorem dX5_isBucket_26 : decode cX5_isBucket 26 = .ok (.ireturn, 1) := by decide +kernel
set_option maxRecDepth 20000 in
theorem ggX5_sealed_X5_isBucket : GoodIn wsX5_sealed wsX5_isBucket := goodIn_r _ [6, 7, 8, 5, 9] (by decide +kernel) (by decide +kernel)
set_option maxRecDepth 20000 in
theorem gX5_sealed_X5_isBucket : GoodIn wsX5_sealed (va_wsS RX5 159 yX5_isBucket wsX5_isBucket) := goodIn_app (goodIn_of _ (by decide +kernel)) ggX5_sealed_X5_isBucket
set_option maxRecDepth 20000 in
theorem ggX5_sealed_X5_raise : GoodIn wsX5_sealed wsX5_raise := goodIn_r _ [13, 1, 17, 18, 19, 20, 21, 22, 23, 24, 25, 26, 27, 28, 29, 30, 31, 32, 33, 34, 35, 36] (by decide +kernel) (by decide +kernel)
set_option maxRecDepth 20000 in
theorem gX5_sealed_X5_raise : GoodIn wsX5_sealed (wsV RX5 156 RX5 yX5_raise wsX5_raise) := goodIn_app (goodIn_of _ (by decide +kernel)) ggX5_sealed_X5_raise
set_option maxRecDepth 20000 in
theorem ggX5_sealed_X5_place : GoodIn wsX5_sealed wsX5_place := goodIn_r _ [16] (by decide +kernel) (by decide +kernel)
set_option maxRecDepth 20000 in
theorem gX5_sealed_X5_place : GoodIn wsX5_sealed (va_wsS RX5 80 yX5_place wsX5_place) := goodIn_app (goodIn_of _ (by decide +kernel)) ggX5_sealed_X5_place
theorem dX5_sealed_0 : decode cX5_sealed 0 = .ok (.iload_n 1, 1) := by decide +kernel
theorem dX5_sealed_1 : decode cX5_sealed 1 = .ok (.iload_n 2, 1) := by decide +kernel
theorem dX5_sealed_2 : decode cX5_sealed 2 = .ok (.invokestatic 159, 3) := by decide +kernel
theorem dX5_sealed_5 : decode cX5_sealed 5 = .ok (.ifCond .eq 13, 3) := by decide +kernel
theorem dX5_sealed_8 : decode cX5_sealed 8 = .ok (.iload_n 3, 1) := by decide +kernel
theorem dX5_sealed_9 : decode cX5_sealed 9 = .ok (.ifCond .lt 9, 3) := by decide +kernel
theorem dX5_sealed_12 : decode cX5_sealed 12 = .ok (.iload_n 3, 1) := by decide +kernel
theorem dX5_sealed_13 : decode cX5_sealed 13 = .ok (.bipush 25, 2) := by decide +kernel
theorem dX5_sealed_15 : decode cX5_sealed 15 = .ok (.if_icmp .lt 9, 3) := by decide +kernel
theorem dX5_sealed_18 : decode cX5_sealed 18 = .ok (.aload_n 0, 1) := by decide +kernel
theorem dX5_sealed_19 : decode cX5_sealed 19 = .ok (.iconst 1, 1) := by decide +kernel
theorem dX5_sealed_20 : decode cX5_sealed 20 = .ok (.invokevirtual 156, 3) := by decide +kernel
theorem dX5_sealed_23 : decode cX5_sealed 23 = .ok (.ireturn, 1) := by decide +kernel
theorem dX5_sealed_24 : decode cX5_sealed 24 = .ok (.aload_n 0, 1) := by decide +kernel
theorem dX5_sealed_25 : decode cX5_sealed 25 = .ok (.iconst 0, 1) := by decide +kernel
theorem dX5_sealed_26 : decode cX5_sealed 26 = .ok (.putfield 58, 3) := by decide +kernel
theorem dX5_sealed_29 : decode cX5_sealed 29 = .ok (.aload_n 0, 1) := by decide +kernel
theorem dX5_sealed_30 : decode cX5_sealed 30 = .ok (.getfield 7, 3) := by decide +kernel
theorem dX5_sealed_33 : decode cX5_sealed 33 = .ok (.bipush 25, 2) := by decide +kernel
theorem dX5_sealed_35 : decode cX5_sealed 35 = .ok (.iload_n 1, 1) := by decide +kernel
theorem dX5_sealed_36 : decode cX5_sealed 36 = .ok (.iload_n 2, 1) := by decide +kernel
theorem dX5_sealed_37 : decode cX5_sealed 37 = .ok (.invokestatic 80, 3) := by decide +kernel
theorem dX5_sealed_40 : decode cX5_sealed 40 = .ok (.imul, 1) := by decide +kernel
theorem dX5_sealed_41 : decode cX5_sealed 41 = .ok (.iload_n 3, 1) := by decide +kernel
theorem dX5_sealed_42 : decode cX5_sealed 42 = .ok (.iadd, 1) := by decide +kernel
theorem dX5_sealed_43 : decode cX5_sealed 43 = .ok (.iaload, 1) := by decide +kernel
theorem dX5_sealed_44 : decode cX5_sealed 44 = .ok (.ireturn, 1) := by decide +kernel
set_option maxRecDepth 20000 in
theorem ggX5_alter_X5_isBucket : GoodIn wsX5_alter wsX5_isBucket := goodIn_r _ [6, 7, 8, 5, 9] (by decide +kernel) (by decide +kernel)
set_option maxRecDepth 20000 in
theorem gX5_alter_X5_isBucket : GoodIn wsX5_alter (va_wsS RX5 159 yX5_isBucket wsX5_isBucket) := goodIn_app (goodIn_of _ (by decide +kernel)) ggX5_alter_X5_isBucket
set_option maxRecDepth 20000 in
theorem ggX5_alter_X5_place : GoodIn wsX5_alter wsX5_place := goodIn_r _ [12] (by decide +kernel) (by decide +kernel)
set_option maxRecDepth 20000 in
theorem gX5_alter_X5_place : GoodIn wsX5_alter (va_wsS RX5 80 yX5_place wsX5_place) := goodIn_app (goodIn_of _ (by decide +kernel)) ggX5_alter_X5_place
set_option maxRecDepth 20000 in
theorem ggX5_alter_X5_tag : GoodIn wsX5_alter wsX5_tag := goodIn_r _ [16, 2, 17, 18, 19, 20, 5, 21, 22, 23, 24, 25, 26, 27, 28, 10, 11, 12, 29, 30, 31, 32, 33, 34, 35, 36, 37, 38, 39, 40, 41, 42, 43, 44, 45, 46, 47, 48] (by decide +kernel) (by decide +kernel)
set_option maxRecDepth 20000 in
theorem gX5_alter_X5_tag : GoodIn wsX5_alter (wsV RX5 92 RX5 yX5_tag wsX5_tag) := goodIn_app (goodIn_of _ (by decide +kernel)) ggX5_alter_X5_tag
theorem dX5_alter_0 : decode cX5_alter 0 = .ok (.aload_n 0, 1) := by decide +kernel
theorem dX5_alter_1 : decode cX5_alter 1 = .ok (.iconst 0, 1) := by decide +kernel
theorem dX5_alter_2 : decode cX5_alter 2 = .ok (.putfield 58, 3) := by decide +kernel
theorem dX5_alter_5 : decode cX5_alter 5 = .ok (.iload_n 1, 1) := by decide +kernel
theorem dX5_alter_6 : decode cX5_alter 6 = .ok (.iload_n 2, 1) := by decide +kernel
theorem dX5_alter_7 : decode cX5_alter 7 = .ok (.invokestatic 159, 3) := by decide +kernel
theorem dX5_alter_10 : decode cX5_alter 10 = .ok (.ifCond .eq 13, 3) := by decide +kernel
theorem dX5_alter_13 : decode cX5_alter 13 = .ok (.iload_n 3, 1) := by decide +kernel
theorem dX5_alter_14 : decode cX5_alter 14 = .ok (.ifCond .lt 9, 3) := by decide +kernel
theorem dX5_alter_17 : decode cX5_alter 17 = .ok (.iload_n 3, 1) := by decide +kernel
theorem dX5_alter_18 : decode cX5_alter 18 = .ok (.bipush 25, 2) := by decide +kernel
theorem dX5_alter_20 : decode cX5_alter 20 = .ok (.if_icmp .lt 5, 3) := by decide +kernel
theorem dX5_alter_23 : decode cX5_alter 23 = .ok (.iconst 0, 1) := by decide +kernel
theorem dX5_alter_24 : decode cX5_alter 24 = .ok (.ireturn, 1) := by decide +kernel
theorem dX5_alter_25 : decode cX5_alter 25 = .ok (.bipush 25, 2) := by decide +kernel
theorem dX5_alter_27 : decode cX5_alter 27 = .ok (.iload_n 1, 1) := by decide +kernel
theorem dX5_alter_28 : decode cX5_alter 28 = .ok (.iload_n 2, 1) := by decide +kernel
theorem dX5_alter_29 : decode cX5_alter 29 = .ok (.invokestatic 80, 3) := by decide +kernel
theorem dX5_alter_32 : decode cX5_alter 32 = .ok (.imul, 1) := by decide +kernel
theorem dX5_alter_33 : decode cX5_alter 33 = .ok (.istore 5, 2) := by decide +kernel
theorem dX5_alter_35 : decode cX5_alter 35 = .ok (.aload_n 0, 1) := by decide +kernel
theorem dX5_alter_36 : decode cX5_alter 36 = .ok (.getfield 7, 3) := by decide +kernel
theorem dX5_alter_39 : decode cX5_alter 39 = .ok (.iload 5, 2) := by decide +kernel
theorem dX5_alter_41 : decode cX5_alter 41 = .ok (.iload_n 3, 1) := by decide +kernel
theorem dX5_alter_42 : decode cX5_alter 42 = .ok (.iadd, 1) := by decide +kernel
theorem dX5_alter_43 : decode cX5_alter 43 = .ok (.iaload, 1) := by decide +kernel
theorem dX5_alter_44 : decode cX5_alter 44 = .ok (.istore 6, 2) := by decide +kernel
theorem dX5_alter_46 : decode cX5_alter 46 = .ok (.aload_n 0, 1) := by decide +kernel
theorem dX5_alter_47 : decode cX5_alter 47 = .ok (.getfield 7, 3) := by decide +kernel
theorem dX5_alter_50 : decode cX5_alter 50 = .ok (.iload 5, 2) := by decide +kernel
theorem dX5_alter_52 : decode cX5_alter 52 = .ok (.iload_n 3, 1) := by decide +kernel
theorem dX5_alter_53 : decode cX5_alter 53 = .ok (.iadd, 1) := by decide +kernel
theorem dX5_alter_54 : decode cX5_alter 54 = .ok (.iload 4, 2) := by decide +kernel
theorem dX5_alter_56 : decode cX5_alter 56 = .ok (.iastore, 1) := by decide +kernel
theorem dX5_alter_57 : decode cX5_alter 57 = .ok (.aload_n 0, 1) := by decide +kernel
theorem dX5_alter_58 : decode cX5_alter 58 = .ok (.getfield 7, 3) := by decide +kernel
theorem dX5_alter_61 : decode cX5_alter 61 = .ok (.iload 5, 2) := by decide +kernel
theorem dX5_alter_63 : decode cX5_alter 63 = .ok (.bipush 24, 2) := by decide +kernel
theorem dX5_alter_65 : decode cX5_alter 65 = .ok (.iadd, 1) := by decide +kernel
theorem dX5_alter_66 : decode cX5_alter 66 = .ok (.iaload, 1) := by decide +kernel
theorem dX5_alter_67 : decode cX5_alter 67 = .ok (.aload_n 0, 1) := by decide +kernel
theorem dX5_alter_68 : decode cX5_alter 68 = .ok (.iload_n 1, 1) := by decide +kernel
theorem dX5_alter_69 : decode cX5_alter 69 = .ok (.iload_n 2, 1) := by decide +kernel
theorem dX5_alter_70 : decode cX5_alter 70 = .ok (.invokevirtual 92, 3) := by decide +kernel
theorem dX5_alter_73 : decode cX5_alter 73 = .ok (.if_icmp .ne 7, 3) := by decide +kernel
theorem dX5_alter_76 : decode cX5_alter 76 = .ok (.iconst 1, 1) := by decide +kernel
theorem dX5_alter_77 : decode cX5_alter 77 = .ok (.goto 4, 3) := by decide +kernel
theorem dX5_alter_80 : decode cX5_alter 80 = .ok (.iconst 0, 1) := by decide +kernel
theorem dX5_alter_81 : decode cX5_alter 81 = .ok (.istore 7, 2) := by decide +kernel
theorem dX5_alter_83 : decode cX5_alter 83 = .ok (.iload 7, 2) := by decide +kernel
theorem dX5_alter_85 : decode cX5_alter 85 = .ok (.ifCond .eq 14, 3) := by decide +kernel
theorem dX5_alter_88 : decode cX5_alter 88 = .ok (.aload_n 0, 1) := by decide +kernel
theorem dX5_alter_89 : decode cX5_alter 89 = .ok (.getfield 7, 3) := by decide +kernel
theorem dX5_alter_92 : decode cX5_alter 92 = .ok (.iload 5, 2) := by decide +kernel
theorem dX5_alter_94 : decode cX5_alter 94 = .ok (.iload_n 3, 1) := by decide +kernel
theorem dX5_alter_95 : decode cX5_alter 95 = .ok (.iadd, 1) := by decide +kernel
theorem dX5_alter_96 : decode cX5_alter 96 = .ok (.iload 6, 2) := by decide +kernel
theorem dX5_alter_98 : decode cX5_alter 98 = .ok (.iastore, 1) := by decide +kernel
theorem dX5_alter_99 : decode cX5_alter 99 = .ok (.iload 7, 2) := by decide +kernel
theorem dX5_alter_101 : decode cX5_alter 101 = .ok (.ifCond .ne 7, 3) := by decide +kernel
theorem dX5_alter_104 : decode cX5_alter 104 = .ok (.iconst 1, 1) := by decide +kernel
theorem dX5_alter_105 : decode cX5_alter 105 = .ok (.goto 4, 3) := by decide +kernel
theorem dX5_alter_108 : decode cX5_alter 108 = .ok (.iconst 0, 1) := by decide +kernel
theorem dX5_alter_109 : decode cX5_alter 109 = .ok (.ireturn, 1) := by decide +kernel
set_option maxRecDepth 20000 in
theorem ggX5_counter_X5_isBucket : GoodIn wsX5_counter wsX5_isBucket := goodIn_r _ [6, 7, 8, 5, 9] (by decide +kernel) (by decide +kernel)
set_option maxRecDepth 20000 in
theorem gX5_counter_X5_isBucket : GoodIn wsX5_counter (va_wsS RX5 159 yX5_isBucket wsX5_isBucket) := goodIn_app (goodIn_of _ (by decide +kernel)) ggX5_counter_X5_isBucket
set_option maxRecDepth 20000 in
theorem ggX5_counter_X5_place : GoodIn wsX5_counter wsX5_place := goodIn_r _ [12] (by decide +kernel) (by decide +kernel)
set_option maxRecDepth 20000 in
theorem gX5_counter_X5_place : GoodIn wsX5_counter (va_wsS RX5 80 yX5_place wsX5_place) := goodIn_app (goodIn_of _ (by decide +kernel)) ggX5_counter_X5_place
theorem dX5_counter_0 : decode cX5_counter 0 = .ok (.aload_n 0, 1) := by decide +kernel
theorem dX5_counter_1 : decode cX5_counter 1 = .ok (.iconst 0, 1) := by decide +kernel
theorem dX5_counter_2 : decode cX5_counter 2 = .ok (.putfield 58, 3) := by decide +kernel
theorem dX5_counter_5 : decode cX5_counter 5 = .ok (.iload_n 1, 1) := by decide +kernel
theorem dX5_counter_6 : decode cX5_counter 6 = .ok (.iload_n 2, 1) := by decide +kernel
theorem dX5_counter_7 : decode cX5_counter 7 = .ok (.invokestatic 159, 3) := by decide +kernel
theorem dX5_counter_10 : decode cX5_counter 10 = .ok (.ifCond .eq 16, 3) := by decide +kernel
theorem dX5_counter_13 : decode cX5_counter 13 = .ok (.aload_n 0, 1) := by decide +kernel
theorem dX5_counter_14 : decode cX5_counter 14 = .ok (.getfield 13, 3) := by decide +kernel
theorem dX5_counter_17 : decode cX5_counter 17 = .ok (.iload_n 1, 1) := by decide +kernel
theorem dX5_counter_18 : decode cX5_counter 18 = .ok (.iload_n 2, 1) := by decide +kernel
theorem dX5_counter_19 : decode cX5_counter 19 = .ok (.invokestatic 80, 3) := by decide +kernel
theorem dX5_counter_22 : decode cX5_counter 22 = .ok (.iaload, 1) := by decide +kernel
theorem dX5_counter_23 : decode cX5_counter 23 = .ok (.goto 4, 3) := by decide +kernel
theorem dX5_counter_26 : decode cX5_counter 26 = .ok (.iconst (-1), 1) := by decide +kernel
theorem dX5_counter_27 : decode cX5_counter 27 = .ok (.ireturn, 1) := by decide +kernel
theorem dX5_trace_0 : decode cX5_trace 0 = .ok (.aload_n 0, 1) := by decide +kernel
theorem dX5_trace_1 : decode cX5_trace 1 = .ok (.iconst 0, 1) := by decide +kernel
theorem dX5_trace_2 : decode cX5_trace 2 = .ok (.putfield 58, 3) := by decide +kernel
theorem dX5_trace_5 : decode cX5_trace 5 = .ok (.iload_n 1, 1) := by decide +kernel
theorem dX5_trace_6 : decode cX5_trace 6 = .ok (.ifCond .lt 26, 3) := by decide +kernel
theorem dX5_trace_9 : decode cX5_trace 9 = .ok (.iload_n 1, 1) := by decide +kernel
theorem dX5_trace_10 : decode cX5_trace 10 = .ok (.aload_n 0, 1) := by decide +kernel
theorem dX5_trace_11 : decode cX5_trace 11 = .ok (.getfield 124, 3) := by decide +kernel
theorem dX5_trace_14 : decode cX5_trace 14 = .ok (.if_icmp .ge 18, 3) := by decide +kernel
theorem dX5_trace_17 : decode cX5_trace 17 = .ok (.iload_n 1, 1) := by decide +kernel
theorem dX5_trace_18 : decode cX5_trace 18 = .ok (.bipush 64, 2) := by decide +kernel
theorem dX5_trace_20 : decode cX5_trace 20 = .ok (.if_icmp .ge 12, 3) := by decide +kernel
theorem dX5_trace_23 : decode cX5_trace 23 = .ok (.iload_n 2, 1) := by decide +kernel
theorem dX5_trace_24 : decode cX5_trace 24 = .ok (.ifCond .lt 8, 3) := by decide +kernel
theorem dX5_trace_27 : decode cX5_trace 27 = .ok (.iload_n 2, 1) := by decide +kernel
theorem dX5_trace_28 : decode cX5_trace 28 = .ok (.iconst 1, 1) := by decide +kernel
theorem dX5_trace_29 : decode cX5_trace 29 = .ok (.if_icmp .le 5, 3) := by decide +kernel
theorem dX5_trace_32 : decode cX5_trace 32 = .ok (.iconst (-1), 1) := by decide +kernel
theorem dX5_trace_33 : decode cX5_trace 33 = .ok (.ireturn, 1) := by decide +kernel
theorem dX5_trace_34 : decode cX5_trace 34 = .ok (.aload_n 0, 1) := by decide +kernel
theorem dX5_trace_35 : decode cX5_trace 35 = .ok (.getfield 124, 3) := by decide +kernel
theorem dX5_trace_38 : decode cX5_trace 38 = .ok (.iconst 1, 1) := by decide +kernel
theorem dX5_trace_39 : decode cX5_trace 39 = .ok (.isub, 1) := by decide +kernel
theorem dX5_trace_40 : decode cX5_trace 40 = .ok (.iload_n 1, 1) := by decide +kernel
theorem dX5_trace_41 : decode cX5_trace 41 = .ok (.isub, 1) := by decide +kernel
theorem dX5_trace_42 : decode cX5_trace 42 = .ok (.bipush 64, 2) := by decide +kernel
theorem dX5_trace_44 : decode cX5_trace 44 = .ok (.irem, 1) := by decide +kernel
theorem dX5_trace_45 : decode cX5_trace 45 = .ok (.istore_n 3, 1) := by decide +kernel
theorem dX5_trace_46 : decode cX5_trace 46 = .ok (.iload_n 2, 1) := by decide +kernel
theorem dX5_trace_47 : decode cX5_trace 47 = .ok (.ifCond .ne 12, 3) := by decide +kernel
theorem dX5_trace_50 : decode cX5_trace 50 = .ok (.aload_n 0, 1) := by decide +kernel
theorem dX5_trace_51 : decode cX5_trace 51 = .ok (.getfield 32, 3) := by decide +kernel
theorem dX5_trace_54 : decode cX5_trace 54 = .ok (.iload_n 3, 1) := by decide +kernel
theorem dX5_trace_55 : decode cX5_trace 55 = .ok (.iaload, 1) := by decide +kernel
theorem dX5_trace_56 : decode cX5_trace 56 = .ok (.goto 9, 3) := by decide +kernel
theorem dX5_trace_59 : decode cX5_trace 59 = .ok (.aload_n 0, 1) := by decide +kernel
theorem dX5_trace_60 : decode cX5_trace 60 = .ok (.getfield 35, 3) := by decide +kernel
theorem dX5_trace_63 : decode cX5_trace 63 = .ok (.iload_n 3, 1) := by decide +kernel
theorem dX5_trace_64 : decode cX5_trace 64 = .ok (.iaload, 1) := by decide +kernel
theorem dX5_trace_65 : decode cX5_trace 65 = .ok (.ireturn, 1) := by decide +kernel
set_option maxRecDepth 20000 in
theorem ggX5_stash_X5_blocks : GoodIn wsX5_stash wsX5_blocks := goodIn_r _ [6] (by decide +kernel) (by decide +kernel)
set_option maxRecDepth 20000 in
theorem gX5_stash_X5_blocks : GoodIn wsX5_stash (va_wsS RX5 105 yX5_blocks wsX5_blocks) := goodIn_app (goodIn_of _ (by decide +kernel)) ggX5_stash_X5_blocks
set_option maxRecDepth 20000 in
theorem ggX5_stash_X5_first : GoodIn wsX5_stash wsX5_first := goodIn_r _ [9] (by decide +kernel) (by decide +kernel)
set_option maxRecDepth 20000 in
theorem gX5_stash_X5_first : GoodIn wsX5_stash (va_wsS RX5 95 yX5_first wsX5_first) := goodIn_app (goodIn_of _ (by decide +kernel)) ggX5_stash_X5_first
theorem dX5_stash_0 : decode cX5_stash 0 = .ok (.aload_n 0, 1) := by decide +kernel
theorem dX5_stash_1 : decode cX5_stash 1 = .ok (.iconst 0, 1) := by decide +kernel
theorem dX5_stash_2 : decode cX5_stash 2 = .ok (.putfield 58, 3) := by decide +kernel
theorem dX5_stash_5 : decode cX5_stash 5 = .ok (.iload_n 1, 1) := by decide +kernel
theorem dX5_stash_6 : decode cX5_stash 6 = .ok (.ifCond .eq 10, 3) := by decide +kernel
theorem dX5_stash_9 : decode cX5_stash 9 = .ok (.iload_n 1, 1) := by decide +kernel
theorem dX5_stash_10 : decode cX5_stash 10 = .ok (.iconst 1, 1) := by decide +kernel
theorem dX5_stash_11 : decode cX5_stash 11 = .ok (.if_icmp .eq 5, 3) := by decide +kernel
theorem dX5_stash_14 : decode cX5_stash 14 = .ok (.iconst (-1), 1) := by decide +kernel
theorem dX5_stash_15 : decode cX5_stash 15 = .ok (.ireturn, 1) := by decide +kernel
theorem dX5_stash_16 : decode cX5_stash 16 = .ok (.iconst 0, 1) := by decide +kernel
theorem dX5_stash_17 : decode cX5_stash 17 = .ok (.istore_n 2, 1) := by decide +kernel
theorem dX5_stash_18 : decode cX5_stash 18 = .ok (.iconst 0, 1) := by decide +kernel
theorem dX5_stash_19 : decode cX5_stash 19 = .ok (.istore_n 3, 1) := by decide +kernel
theorem dX5_stash_20 : decode cX5_stash 20 = .ok (.iload_n 3, 1) := by decide +kernel
theorem dX5_stash_21 : decode cX5_stash 21 = .ok (.iload_n 1, 1) := by decide +kernel
theorem dX5_stash_22 : decode cX5_stash 22 = .ok (.invokestatic 105, 3) := by decide +kernel
theorem dX5_stash_25 : decode cX5_stash 25 = .ok (.if_icmp .ge 31, 3) := by decide +kernel
theorem dX5_stash_28 : decode cX5_stash 28 = .ok (.iload_n 2, 1) := by decide +kernel
theorem dX5_stash_29 : decode cX5_stash 29 = .ok (.aload_n 0, 1) := by decide +kernel
theorem dX5_stash_30 : decode cX5_stash 30 = .ok (.getfield 16, 3) := by decide +kernel
theorem dX5_stash_33 : decode cX5_stash 33 = .ok (.iload_n 1, 1) := by decide +kernel
theorem dX5_stash_34 : decode cX5_stash 34 = .ok (.invokestatic 95, 3) := by decide +kernel
theorem dX5_stash_37 : decode cX5_stash 37 = .ok (.iload_n 3, 1) := by decide +kernel
theorem dX5_stash_38 : decode cX5_stash 38 = .ok (.iadd, 1) := by decide +kernel
theorem dX5_stash_39 : decode cX5_stash 39 = .ok (.baload, 1) := by decide +kernel
theorem dX5_stash_40 : decode cX5_stash 40 = .ok (.ifCond .eq 7, 3) := by decide +kernel
theorem dX5_stash_43 : decode cX5_stash 43 = .ok (.iconst 1, 1) := by decide +kernel
theorem dX5_stash_44 : decode cX5_stash 44 = .ok (.goto 4, 3) := by decide +kernel
theorem dX5_stash_47 : decode cX5_stash 47 = .ok (.iconst 0, 1) := by decide +kernel
theorem dX5_stash_48 : decode cX5_stash 48 = .ok (.iadd, 1) := by decide +kernel
theorem dX5_stash_49 : decode cX5_stash 49 = .ok (.istore_n 2, 1) := by decide +kernel
theorem dX5_stash_50 : decode cX5_stash 50 = .ok (.iinc 3 1, 3) := by decide +kernel
theorem dX5_stash_53 : decode cX5_stash 53 = .ok (.goto (-33), 3) := by decide +kernel
theorem dX5_stash_56 : decode cX5_stash 56 = .ok (.iload_n 2, 1) := by decide +kernel
theorem dX5_stash_57 : decode cX5_stash 57 = .ok (.ireturn, 1) := by decide +kernel
theorem dX5_state_0 : decode cX5_state 0 = .ok (.aload_n 0, 1) := by decide +kernel
theorem dX5_state_1 : decode cX5_state 1 = .ok (.iconst 0, 1) := by decide +kernel
theorem dX5_state_2 : decode cX5_state 2 = .ok (.putfield 58, 3) := by decide +kernel
theorem dX5_state_5 : decode cX5_state 5 = .ok (.iconst 0, 1) := by decide +kernel
theorem dX5_state_6 : decode cX5_state 6 = .ok (.istore_n 2, 1) := by decide +kernel
theorem dX5_state_7 : decode cX5_state 7 = .ok (.iconst 0, 1) := by decide +kernel
theorem dX5_state_8 : decode cX5_state 8 = .ok (.istore_n 3, 1) := by decide +kernel
theorem dX5_state_9 : decode cX5_state 9 = .ok (.iconst 0, 1) := by decide +kernel
theorem dX5_state_10 : decode cX5_state 10 = .ok (.istore 4, 2) := by decide +kernel
theorem dX5_state_12 : decode cX5_state 12 = .ok (.iload 4, 2) := by decide +kernel
theorem dX5_state_14 : decode cX5_state 14 = .ok (.bipush 8, 2) := by decide +kernel
theorem dX5_state_16 : decode cX5_state 16 = .ok (.if_icmp .ge 27, 3) := by decide +kernel
theorem dX5_state_19 : decode cX5_state 19 = .ok (.iload_n 2, 1) := by decide +kernel
theorem dX5_state_20 : decode cX5_state 20 = .ok (.aload_n 0, 1) := by decide +kernel
theorem dX5_state_21 : decode cX5_state 21 = .ok (.getfield 38, 3) := by decide +kernel
theorem dX5_state_24 : decode cX5_state 24 = .ok (.iload 4, 2) := by decide +kernel
theorem dX5_state_26 : decode cX5_state 26 = .ok (.baload, 1) := by decide +kernel
theorem dX5_state_27 : decode cX5_state 27 = .ok (.ifCond .eq 7, 3) := by decide +kernel
theorem dX5_state_30 : decode cX5_state 30 = .ok (.iconst 1, 1) := by decide +kernel
theorem dX5_state_31 : decode cX5_state 31 = .ok (.goto 4, 3) := by decide +kernel
theorem dX5_state_34 : decode cX5_state 34 = .ok (.iconst 0, 1) := by decide +kernel
theorem dX5_state_35 : decode cX5_state 35 = .ok (.iadd, 1) := by decide +kernel
theorem dX5_state_36 : decode cX5_state 36 = .ok (.istore_n 2, 1) := by decide +kernel
theorem dX5_state_37 : decode cX5_state 37 = .ok (.iinc 4 1, 3) := by decide +kernel
theorem dX5_state_40 : decode cX5_state 40 = .ok (.goto (-28), 3) := by decide +kernel
theorem dX5_state_43 : decode cX5_state 43 = .ok (.iconst 0, 1) := by decide +kernel
theorem dX5_state_44 : decode cX5_state 44 = .ok (.istore 4, 2) := by decide +kernel
theorem dX5_state_46 : decode cX5_state 46 = .ok (.iload 4, 2) := by decide +kernel
theorem dX5_state_48 : decode cX5_state 48 = .ok (.bipush 64, 2) := by decide +kernel
theorem dX5_state_50 : decode cX5_state 50 = .ok (.if_icmp .ge 27, 3) := by decide +kernel
theorem dX5_state_53 : decode cX5_state 53 = .ok (.iload_n 3, 1) := by decide +kernel
theorem dX5_state_54 : decode cX5_state 54 = .ok (.aload_n 0, 1) := by decide +kernel
theorem dX5_state_55 : decode cX5_state 55 = .ok (.getfield 51, 3) := by decide +kernel
theorem dX5_state_58 : decode cX5_state 58 = .ok (.iload 4, 2) := by decide +kernel
theorem dX5_state_60 : decode cX5_state 60 = .ok (.baload, 1) := by decide +kernel
theorem dX5_state_61 : decode cX5_state 61 = .ok (.ifCond .eq 7, 3) := by decide +kernel
theorem dX5_state_64 : decode cX5_state 64 = .ok (.iconst 0, 1) := by decide +kernel
theorem dX5_state_65 : decode cX5_state 65 = .ok (.goto 4, 3) := by decide +kernel
theorem dX5_state_68 : decode cX5_state 68 = .ok (.iconst 1, 1) := by decide +kernel
theorem dX5_state_69 : decode cX5_state 69 = .ok (.iadd, 1) := by decide +kernel
theorem dX5_state_70 : decode cX5_state 70 = .ok (.istore_n 3, 1) := by decide +kernel
theorem dX5_state_71 : decode cX5_state 71 = .ok (.iinc 4 1, 3) := by decide +kernel
theorem dX5_state_74 : decode cX5_state 74 = .ok (.goto (-28), 3) := by decide +kernel
theorem dX5_state_77 : decode cX5_state 77 = .ok (.iload_n 1, 1) := by decide +kernel
theorem dX5_state_78 : decode cX5_state 78 = .ok (.tableswitch 52 0 3 #[30, 35, 37, 39], 30) := by decide +kernel
theorem dX5_state_108 : decode cX5_state 108 = .ok (.aload_n 0, 1) := by decide +kernel
theorem dX5_state_109 : decode cX5_state 109 = .ok (.getfield 124, 3) := by decide +kernel
theorem dX5_state_112 : decode cX5_state 112 = .ok (.ireturn, 1) := by decide +kernel
theorem dX5_state_113 : decode cX5_state 113 = .ok (.iload_n 2, 1) := by decide +kernel
theorem dX5_state_114 : decode cX5_state 114 = .ok (.ireturn, 1) := by decide +kernel
theorem dX5_state_115 : decode cX5_state 115 = .ok (.iload_n 3, 1) := by decide +kernel
theorem dX5_state_116 : decode cX5_state 116 = .ok (.ireturn, 1) := by decide +kernel
theorem dX5_state_117 : decode cX5_state 117 = .ok (.aload_n 0, 1) := by decide +kernel
theorem dX5_state_118 : decode cX5_state 118 = .ok (.getfield 131, 3) := by decide +kernel
theorem dX5_state_121 : decode cX5_state 121 = .ok (.ifCond .eq 7, 3) := by decide +kernel
theorem dX5_state_124 : decode cX5_state 124 = .ok (.iconst 1, 1) := by decide +kernel
theorem dX5_state_125 : decode cX5_state 125 = .ok (.goto 4, 3) := by decide +kernel
theorem dX5_state_128 : decode cX5_state 128 = .ok (.iconst 0, 1) := by decide +kernel
theorem dX5_state_129 : decode cX5_state 129 = .ok (.ireturn, 1) := by decide +kernel
theorem dX5_state_130 : decode cX5_state 130 = .ok (.iconst (-1), 1) := by decide +kernel
theorem dX5_state_131 : decode cX5_state 131 = .ok (.ireturn, 1) := by decide +kernel
theorem dJ7_fill_53178_0 : decode cJ7_fill_53178 0 = .ok (.iconst 0, 1) := by decide +kernel
theorem dJ7_fill_53178_1 : decode cJ7_fill_53178 1 = .ok (.istore_n 2, 1) := by decide +kernel
theorem dJ7_fill_53178_2 : decode cJ7_fill_53178 2 = .ok (.aload_n 0, 1) := by decide +kernel
theorem dJ7_fill_53178_3 : decode cJ7_fill_53178 3 = .ok (.arraylength, 1) := by decide +kernel
theorem dJ7_fill_53178_4 : decode cJ7_fill_53178 4 = .ok (.istore_n 3, 1) := by decide +kernel
theorem dJ7_fill_53178_5 : decode cJ7_fill_53178 5 = .ok (.iload_n 2, 1) := by decide +kernel
theorem dJ7_fill_53178_6 : decode cJ7_fill_53178 6 = .ok (.iload_n 3, 1) := by decide +kernel
theorem dJ7_fill_53178_7 : decode cJ7_fill_53178 7 = .ok (.if_icmp .ge 13, 3) := by decide +kernel
theorem dJ7_fill_53178_10 : decode cJ7_fill_53178 10 = .ok (.aload_n 0, 1) := by decide +kernel
theorem dJ7_fill_53178_11 : decode cJ7_fill_53178 11 = .ok (.iload_n 2, 1) := by decide +kernel
theorem dJ7_fill_53178_12 : decode cJ7_fill_53178 12 = .ok (.iload_n 1, 1) := by decide +kernel
theorem dJ7_fill_53178_13 : decode cJ7_fill_53178 13 = .ok (.iastore, 1) := by decide +kernel
theorem dJ7_fill_53178_14 : decode cJ7_fill_53178 14 = .ok (.iinc 2 1, 3) := by decide +kernel
theorem dJ7_fill_53178_17 : decode cJ7_fill_53178 17 = .ok (.goto (-12), 3) := by decide +kernel
theorem dJ7_fill_53178_20 : decode cJ7_fill_53178 20 = .ok (.return_, 1) := by decide +kernel

abbrev vwCl : List vw_C := [(RX0, TX0, 4), (RX1, TX1, 1), (RX2, TX2, 3), (RX3, TX3, 11), (RX4, TX4, 7), (RX5, TX5, 20)]
end
section
/-! rows of my own: contracts over one world, calls by them, ends -/
/-- the array classes of every world: int, boolean, long -/
abbrev kty (cI cZ cJ : ClassId) : List (ClassId × FieldType) := [(cI, .int), (cZ, .boolean), (cJ, .long)]
def kp (D : va_G) (ty : List (ClassId × FieldType)) (As : List Value) (wc : va_W) (sz : Nat) : Array Value → State → Prop :=
  va_Pc As (fun U => U.heap.size = sz ∧ va_P D vwCl wc U.heap ∧ va_K D vwCl ty U ∧ va_D (fun _ => True) wc)
def kq (D : va_G) (ty : List (ClassId × FieldType)) (A : Nat → Prop) (w : va_W) (t : State) : Prop :=
  va_P D vwCl w t.heap ∧ va_K D vwCl ty t ∧ va_D A w
/-- a method that answers nothing -/
def KV (l : Launch) (y : MethodName) (ws : List Cond) (rm : Room) (D : va_G) (ty : List (ClassId × FieldType)) (As : List Value) (wc : va_W) {S : Type} (post : S → Prop) (wf : S → va_W) (mc ms : Nat) : Prop :=
  ∀ sz : Nat, Met l y ws rm (kp D ty As wc sz) (va_Qv post (fun u t => kq D ty (va_A wc sz) (wf u) t) (va_A wc sz)) mc ms (va_A wc sz)
/-- a method that answers an int (a boolean) -/
def KI (l : Launch) (y : MethodName) (ws : List Cond) (rm : Room) (D : va_G) (ty : List (ClassId × FieldType)) (As : List Value) (wc : va_W) {S : Type} (post : Int32 → S → Prop) (wf : S → va_W) (mc ms : Nat) : Prop :=
  ∀ sz : Nat, Met l y ws rm (kp D ty As wc sz) (va_Qi post (fun u t => kq D ty (va_A wc sz) (wf u) t) (va_A wc sz)) mc ms (va_A wc sz)
theorem kp_blind {D : va_G} {ty : List (ClassId × FieldType)} {As : List Value} {wc : va_W} {sz : Nat} : FrameBlind (kp D ty As wc sz) := fun a U g mk q => by
  obtain ⟨q0, q1, qP, qK, qD⟩ := q
  exact ⟨q0, q1, qP, va_K.moved (u := U) (U := U.calling g mk a) (Vm.Alike.refl U.vm) qK, qD⟩
section KA
variable {p : Program} {l : Launch} {e : Env} {R : Room} {s : State} {m : MethodId} {args : Array Value} {below : List Frame} {meth : Method} {c : Code} {H : Heap} {locs : List Loc} {cells slots : Nat} {Q : State → Prop}
variable {D : va_G} {ty : List (ClassId × FieldType)} {A : Nat → Prop} {pc : Nat} {ls : Array Slot} {rest st0 : List Value}
/-- an int on the stack by another name -/
theorem k_t1 {x y : Int32} (h : x = y) (k : W p l e R s m args below meth c H locs cells slots Q (F0 m pc ls (.int y :: rest))) : W p l e R s m args below meth c H locs cells slots Q (F0 m pc ls (.int x :: rest)) := by
  rw [h]; exact k
theorem k_t2 {x y : Int32} {v : Value} (h : x = y) (k : W p l e R s m args below meth c H locs cells slots Q (F0 m pc ls (v :: .int y :: rest))) : W p l e R s m args below meth c H locs cells slots Q (F0 m pc ls (v :: .int x :: rest)) := by
  rw [h]; exact k
theorem k_t3 {x y : Int32} {v w : Value} (h : x = y) (k : W p l e R s m args below meth c H locs cells slots Q (F0 m pc ls (v :: w :: .int y :: rest))) : W p l e R s m args below meth c H locs cells slots Q (F0 m pc ls (v :: w :: .int x :: rest)) := by
  rw [h]; exact k
theorem k_t4 {x y : Int32} {v w z : Value} (h : x = y) (k : W p l e R s m args below meth c H locs cells slots Q (F0 m pc ls (v :: w :: z :: .int y :: rest))) : W p l e R s m args below meth c H locs cells slots Q (F0 m pc ls (v :: w :: z :: .int x :: rest)) := by
  rw [h]; exact k
/-- what both calls need behind them -/
theorem k_back {ws0 wc wr w1 w2 : va_W} {H1 : Heap} (hP : va_P D vwCl ws0 H) (hD : va_D A ws0) (hS : va_S A s.heap H locs) (hA : ∀ q, s.heap.size ≤ q → A q) (isC isR : List Nat) (hC : isC.map (fun i => ws0[i]?) = wc.map some) (hR : isR.map (fun i => ws0[i]?) = wr.map some) (hnR : va_nd isR = true) (hdis : ∀ i ∈ isR, i ∉ isC)
    (pm : List Nat) (hpm : pm.map (fun i => (wr ++ w1)[i]?) = w2.map some) (hpn : va_nd pm = true) (hk : ∀ q : Nat, q < H.size → ¬ va_A wc H.size q → H1[q]? = H[q]?) (hP1 : va_P D vwCl w1 H1) (hD1 : va_D (va_A wc H.size) w1) : va_P D vwCl w2 H1 ∧ va_D A w2 := by
  obtain ⟨a1, a2⟩ := va_join hP hD isC isR hC hR hnR hdis hk (va_free hD hS hA isC hC) hP1 hD1
  refine ⟨fun k q hq => ?_, a2.sub pm hpn hpm⟩
  have h1 : (pm.map (fun i => (wr ++ w1)[i]?))[k]? = some (some q) := by rw [hpm, List.getElem?_map, hq]; rfl
  rw [List.getElem?_map] at h1
  cases hi : pm[k]? with
  | none => rw [hi] at h1; cases h1
  | some i => rw [hi] at h1; exact a1 i q (Option.some.inj h1)
theorem k_subP {ws0 wc : va_W} (hP : va_P D vwCl ws0 H) (isC : List Nat) (hC : isC.map (fun i => ws0[i]?) = wc.map some) : va_P D vwCl wc H := by
  intro k q hq
  have h1 : (isC.map (fun i => ws0[i]?))[k]? = some (some q) := by rw [hC, List.getElem?_map, hq]; rfl
  rw [List.getElem?_map] at h1
  cases hi : isC[k]? with
  | none => rw [hi] at h1; cases h1
  | some i => rw [hi] at h1; exact hP i q (Option.some.inj h1)
variable {Ts wsy : List Cond} {cc bytes : ByteArray} {nL maxL index n mc ms : Nat} {own C : String} {y : MethodName} {ret : Option FieldType} {rm : Room} {As : List Value} {b : Nat} {S : Type}
/-- invokevirtual, no answer -/
theorem k_vv {post : S → Prop} {wf w2 : S → va_W} {ws0 wc : va_W} (F : CallFix p m c cc nL s args Ts own) (hM : KV l y wsy rm D ty (.ref b :: As) wc post wf mc ms) (cw : CallW R s args own C index y bytes maxL ret wsy rm mc ms n)
    (hP : va_P D vwCl ws0 H) (hD : va_D A ws0) (hK : va_K D vwCl ty s) (hS : va_S A s.heap H locs) (hA : ∀ q, s.heap.size ≤ q → A q) (isC isR pm : List Nat) (hC : isC.map (fun i => ws0[i]?) = wc.map some) (hR : isR.map (fun i => ws0[i]?) = (isR.filterMap (fun i => ws0[i]?)).map some) (hnd : (va_nd isC && va_nd isR && va_nd pm && isR.all (fun i => decide (i ∉ isC))) = true)
    (hpm : ∀ u, pm.map (fun i => ((isR.filterMap (fun i => ws0[i]?)) ++ wf u)[i]?) = (w2 u).map some) {ci q0 : Nat} {fs : List Value} {vc : vw_C} (hc : vwCl[ci]? = some vc) (hvc : vc.1 = C) (he : wc[q0]? = some (b, .inr (ci, fs)))
    (hn : As.length = n) (hsz : ls.size = nL) (hst : st0 = As.reverse ++ .ref b :: rest) (hW : (rest.map fun v => v.category).sum ≤ 8) (hdg : decode cc pc = .ok (.invokevirtual index, 3)) (hf : cells + mc ≤ R.cells ∧ slots + ms ≤ R.slots)
    (kk : ∀ (u : S) (H : Heap) (locs : List Loc), post u → va_P D vwCl (w2 u) H → va_D A (w2 u) → va_S A s.heap H locs → W p l e R s m args below meth c H locs (cells + mc) (slots + ms) Q (F0 m (pc + 3) ls rest)) :
    W p l e R s m args below meth c H locs cells slots Q (F0 m pc ls st0) := by
  simp only [Bool.and_eq_true, List.all_eq_true, decide_eq_true_eq] at hnd
  obtain ⟨⟨⟨n1, n2⟩, n3⟩, n4⟩ := hnd
  subst hvc
  have hPc := k_subP hP isC hC
  have hDc := hD.sub isC n1 hC
  have hFc := va_free hD hS hA isC hC
  refine va_callv (va_runV (As := As) (rest := rest) F (hM H.size) cw ⟨kp_blind, va_recv hK hPc hc he, fun U hU hW => ⟨rfl, by rw [hU], by rw [hU]; exact hPc, va_K.moved hW.alike hK, hDc.weaken (fun _ _ _ _ => trivial)⟩⟩ rfl hn hsz hst (lv_room hW) hdg hf) hS (fun q _ h => hFc q h) hFc (fun u t H1 locs1 ht hvm hp hB hz1 hk1 hS1 => ?_)
  obtain ⟨b1, b2, b3⟩ := hB
  rw [ht] at b1
  obtain ⟨c1, c2⟩ := k_back hP hD hS hA isC isR hC hR n2 n4 pm (hpm u) n3 hk1 b1 b3
  exact kk u H1 locs1 hp c1 c2 hS1
/-- invokevirtual, an int -/
theorem k_vi {post : Int32 → S → Prop} {wf w2 : S → va_W} {ws0 wc : va_W} (F : CallFix p m c cc nL s args Ts own) (hM : KI l y wsy rm D ty (.ref b :: As) wc post wf mc ms) (cw : CallW R s args own C index y bytes maxL ret wsy rm mc ms n)
    (hP : va_P D vwCl ws0 H) (hD : va_D A ws0) (hK : va_K D vwCl ty s) (hS : va_S A s.heap H locs) (hA : ∀ q, s.heap.size ≤ q → A q) (isC isR pm : List Nat) (hC : isC.map (fun i => ws0[i]?) = wc.map some) (hR : isR.map (fun i => ws0[i]?) = (isR.filterMap (fun i => ws0[i]?)).map some) (hnd : (va_nd isC && va_nd isR && va_nd pm && isR.all (fun i => decide (i ∉ isC))) = true)
    (hpm : ∀ u, pm.map (fun i => ((isR.filterMap (fun i => ws0[i]?)) ++ wf u)[i]?) = (w2 u).map some) {ci q0 : Nat} {fs : List Value} {vc : vw_C} (hc : vwCl[ci]? = some vc) (hvc : vc.1 = C) (he : wc[q0]? = some (b, .inr (ci, fs)))
    (hn : As.length = n) (hsz : ls.size = nL) (hst : st0 = As.reverse ++ .ref b :: rest) (hW : (rest.map fun v => v.category).sum ≤ 8) (hdg : decode cc pc = .ok (.invokevirtual index, 3)) (hf : cells + mc ≤ R.cells ∧ slots + ms ≤ R.slots)
    (kk : ∀ (r : Int32) (u : S) (H : Heap) (locs : List Loc), post r u → va_P D vwCl (w2 u) H → va_D A (w2 u) → va_S A s.heap H locs → W p l e R s m args below meth c H locs (cells + mc) (slots + ms) Q (F0 m (pc + 3) ls (.int r :: rest))) :
    W p l e R s m args below meth c H locs cells slots Q (F0 m pc ls st0) := by
  simp only [Bool.and_eq_true, List.all_eq_true, decide_eq_true_eq] at hnd
  obtain ⟨⟨⟨n1, n2⟩, n3⟩, n4⟩ := hnd
  subst hvc
  have hPc := k_subP hP isC hC
  have hDc := hD.sub isC n1 hC
  have hFc := va_free hD hS hA isC hC
  refine va_calli (va_runV (As := As) (rest := rest) F (hM H.size) cw ⟨kp_blind, va_recv hK hPc hc he, fun U hU hW => ⟨rfl, by rw [hU], by rw [hU]; exact hPc, va_K.moved hW.alike hK, hDc.weaken (fun _ _ _ _ => trivial)⟩⟩ rfl hn hsz hst (lv_room hW) hdg hf) hS (fun q _ h => hFc q h) hFc (fun r u t H1 locs1 ht hvm hp hB hz1 hk1 hS1 => ?_)
  obtain ⟨b1, b2, b3⟩ := hB
  rw [ht] at b1
  obtain ⟨c1, c2⟩ := k_back hP hD hS hA isC isR hC hR n2 n4 pm (hpm u) n3 hk1 b1 b3
  exact kk r u H1 locs1 hp c1 c2 hS1
/-- invokestatic, no answer -/
theorem k_sv {post : S → Prop} {wf w2 : S → va_W} {ws0 wc : va_W} (F : CallFix p m c cc nL s args Ts own) (hM : KV l y wsy rm D ty As wc post wf mc ms) (cw : CallB R s args own index y bytes maxL ret wsy rm mc ms n ∧ (Cond.static y).before args s = true)
    (hP : va_P D vwCl ws0 H) (hD : va_D A ws0) (hK : va_K D vwCl ty s) (hS : va_S A s.heap H locs) (hA : ∀ q, s.heap.size ≤ q → A q) (isC isR pm : List Nat) (hC : isC.map (fun i => ws0[i]?) = wc.map some) (hR : isR.map (fun i => ws0[i]?) = (isR.filterMap (fun i => ws0[i]?)).map some) (hnd : (va_nd isC && va_nd isR && va_nd pm && isR.all (fun i => decide (i ∉ isC))) = true)
    (hpm : ∀ u, pm.map (fun i => ((isR.filterMap (fun i => ws0[i]?)) ++ wf u)[i]?) = (w2 u).map some)
    (hn : As.length = n) (hsz : ls.size = nL) (hst : st0 = As.reverse ++ rest) (hW : (rest.map fun v => v.category).sum ≤ 8) (hdg : decode cc pc = .ok (.invokestatic index, 3)) (hf : cells + mc ≤ R.cells ∧ slots + ms ≤ R.slots)
    (kk : ∀ (u : S) (H : Heap) (locs : List Loc), post u → va_P D vwCl (w2 u) H → va_D A (w2 u) → va_S A s.heap H locs → W p l e R s m args below meth c H locs (cells + mc) (slots + ms) Q (F0 m (pc + 3) ls rest)) :
    W p l e R s m args below meth c H locs cells slots Q (F0 m pc ls st0) := by
  simp only [Bool.and_eq_true, List.all_eq_true, decide_eq_true_eq] at hnd
  obtain ⟨⟨⟨n1, n2⟩, n3⟩, n4⟩ := hnd
  have hPc := k_subP hP isC hC
  have hDc := hD.sub isC n1 hC
  have hFc := va_free hD hS hA isC hC
  refine va_callv (va_runS (As := As) (rest := rest) F (hM H.size) cw ⟨kp_blind, fun U hU hW => ⟨rfl, by rw [hU], by rw [hU]; exact hPc, va_K.moved hW.alike hK, hDc.weaken (fun _ _ _ _ => trivial)⟩⟩ rfl hn hsz hst (lv_room hW) hdg hf) hS (fun q _ h => hFc q h) hFc (fun u t H1 locs1 ht hvm hp hB hz1 hk1 hS1 => ?_)
  obtain ⟨b1, b2, b3⟩ := hB
  rw [ht] at b1
  obtain ⟨c1, c2⟩ := k_back hP hD hS hA isC isR hC hR n2 n4 pm (hpm u) n3 hk1 b1 b3
  exact kk u H1 locs1 hp c1 c2 hS1
/-- invokestatic, an int -/
theorem k_si {post : Int32 → S → Prop} {wf w2 : S → va_W} {ws0 wc : va_W} (F : CallFix p m c cc nL s args Ts own) (hM : KI l y wsy rm D ty As wc post wf mc ms) (cw : CallB R s args own index y bytes maxL ret wsy rm mc ms n ∧ (Cond.static y).before args s = true)
    (hP : va_P D vwCl ws0 H) (hD : va_D A ws0) (hK : va_K D vwCl ty s) (hS : va_S A s.heap H locs) (hA : ∀ q, s.heap.size ≤ q → A q) (isC isR pm : List Nat) (hC : isC.map (fun i => ws0[i]?) = wc.map some) (hR : isR.map (fun i => ws0[i]?) = (isR.filterMap (fun i => ws0[i]?)).map some) (hnd : (va_nd isC && va_nd isR && va_nd pm && isR.all (fun i => decide (i ∉ isC))) = true)
    (hpm : ∀ u, pm.map (fun i => ((isR.filterMap (fun i => ws0[i]?)) ++ wf u)[i]?) = (w2 u).map some)
    (hn : As.length = n) (hsz : ls.size = nL) (hst : st0 = As.reverse ++ rest) (hW : (rest.map fun v => v.category).sum ≤ 8) (hdg : decode cc pc = .ok (.invokestatic index, 3)) (hf : cells + mc ≤ R.cells ∧ slots + ms ≤ R.slots)
    (kk : ∀ (r : Int32) (u : S) (H : Heap) (locs : List Loc), post r u → va_P D vwCl (w2 u) H → va_D A (w2 u) → va_S A s.heap H locs → W p l e R s m args below meth c H locs (cells + mc) (slots + ms) Q (F0 m (pc + 3) ls (.int r :: rest))) :
    W p l e R s m args below meth c H locs cells slots Q (F0 m pc ls st0) := by
  simp only [Bool.and_eq_true, List.all_eq_true, decide_eq_true_eq] at hnd
  obtain ⟨⟨⟨n1, n2⟩, n3⟩, n4⟩ := hnd
  have hPc := k_subP hP isC hC
  have hDc := hD.sub isC n1 hC
  have hFc := va_free hD hS hA isC hC
  refine va_calli (va_runS (As := As) (rest := rest) F (hM H.size) cw ⟨kp_blind, fun U hU hW => ⟨rfl, by rw [hU], by rw [hU]; exact hPc, va_K.moved hW.alike hK, hDc.weaken (fun _ _ _ _ => trivial)⟩⟩ rfl hn hsz hst (lv_room hW) hdg hf) hS (fun q _ h => hFc q h) hFc (fun r u t H1 locs1 ht hvm hp hB hz1 hk1 hS1 => ?_)
  obtain ⟨b1, b2, b3⟩ := hB
  rw [ht] at b1
  obtain ⟨c1, c2⟩ := k_back hP hD hS hA isC isR hC hR n2 n4 pm (hpm u) n3 hk1 b1 b3
  exact kk r u H1 locs1 hp c1 c2 hS1
/-- the end of a method without an answer -/
theorem k_retv {post : S → Prop} {wf : S → va_W} (u : S) (hx : p.tables.exec = Jvm.exec) (hb : c.code = cc) (hr : meth.sig.returnType = none) (hK : va_K D vwCl ty s) (hS : va_S A s.heap H locs) (hlk : meth.locks = false) (hdg : decode cc pc = .ok (.return_, 1))
    (hP : va_P D vwCl (wf u) H) (hD : va_D A (wf u)) (hp : post u) (hQ : Q = MQ below (va_Qv post (fun u t => kq D ty A (wf u) t) A) args s cells slots A) :
    W p l e R s m args below meth c H locs cells slots Q (F0 m pc ls []) := by
  subst hQ
  exact W.vret hx hb hr (fun t ht hW => ⟨⟨u, rfl, hp, by rw [ht]; exact hP, va_K.moved hW.alike hK, hD⟩, hS.F ht⟩) hS.2.2 hdg
/-- the end of a method with an int -/
theorem k_reti {post : Int32 → S → Prop} {wf : S → va_W} {v : Int32} (u : S) (hx : p.tables.exec = Jvm.exec) (hb : c.code = cc) (hr : meth.sig.returnType = some .int) (hK : va_K D vwCl ty s) (hS : va_S A s.heap H locs) (hlk : meth.locks = false) (hdg : decode cc pc = .ok (.ireturn, 1))
    (hP : va_P D vwCl (wf u) H) (hD : va_D A (wf u)) (hp : post v u) (hQ : Q = MQ below (va_Qi post (fun u t => kq D ty A (wf u) t) A) args s cells slots A) :
    W p l e R s m args below meth c H locs cells slots Q (F0 m pc ls [.int v]) := by
  subst hQ
  exact W.iret hx hb hr (fun t ht hW => ⟨⟨v, u, rfl, hp, by rw [ht]; exact hP, va_K.moved hW.alike hK, hD⟩, hS.F ht⟩) hS.2.2 hdg
/-- the end of a method with a boolean -/
theorem k_retz {post : Int32 → S → Prop} {wf : S → va_W} {v : Int32} (u : S) (hx : p.tables.exec = Jvm.exec) (hb : c.code = cc) (hr : meth.sig.returnType = some .boolean) (hK : va_K D vwCl ty s) (hS : va_S A s.heap H locs) (hlk : meth.locks = false) (hdg : decode cc pc = .ok (.ireturn, 1))
    (hv : v = 0 ∨ v = 1) (hP : va_P D vwCl (wf u) H) (hD : va_D A (wf u)) (hp : post v u) (hQ : Q = MQ below (va_Qi post (fun u t => kq D ty A (wf u) t) A) args s cells slots A) :
    W p l e R s m args below meth c H locs cells slots Q (F0 m pc ls [.int v]) := by
  subst hQ
  exact W.zret (ty := .boolean) hx hb hr (by rcases hv with rfl | rfl <;> rfl) (fun t ht hW => ⟨⟨v, u, rfl, hp, by rw [ht]; exact hP, va_K.moved hW.alike hK, hD⟩, hS.F ht⟩) hS.2.2 hdg
end KA
/-- the head of a method: no answer -/
theorem k_headV {l : Launch} {y : MethodName} {ws ws' : List Cond} {rm : Room} {D : va_G} {ty : List (ClassId × FieldType)} {As : List Value} {wc : va_W} {S : Type} {post : S → Prop} {wf : S → va_W} {mc ms : Nat} {cc : ByteArray} {maxL : Nat} {ret : Option FieldType}
    (hy : plainName y.cls = true) (hw : ws = Cond.code y cc maxL ret :: ws') (hnl : (lg_sl As).length ≤ maxL)
    (body : ∀ (p : Program) (e : Env) (s : State) (m : MethodId) (below : List Frame) (meth : Method) (c : Code) (A : Nat → Prop) (ls : Array Slot) (args : Array Value) (Q : State → Prop), p.tables.exec = Jvm.exec → c.code = cc → meth.sig.returnType = ret → c.maxLocals = maxL → (∀ w ∈ ws, w.before args s = true) → s.vm.findClass y.cls = some m.cls → meth.locks = false → meth.name = y.name →
      (∀ q, s.heap.size ≤ q → A q) → va_K D vwCl ty s → va_P D vwCl wc s.heap → va_D A wc → va_S A s.heap s.heap [] → lv_has ls maxL (lv_args 0 As) → Q = MQ below (va_Qv post (fun u t => kq D ty A (wf u) t) A) args s mc ms A →
      W p l e rm s m args below meth c s.heap [] 0 0 Q (F0 m 0 ls [])) : KV l y ws rm D ty As wc post wf mc ms := by
  intro sz
  refine Met.ofW (cc := cc) (maxL := maxL) (ret := ret) hy hw ?_
  intro p e s m args below meth c s₁ B hml hv
  obtain ⟨rfl, hsz, hP, hK, hD0⟩ := hv
  subst hsz
  have hl := lv_entry As (n := maxL) hnl
  rw [lg_entry_eq]
  exact body p e s m below meth c (va_A wc s.heap.size) _ _ _ B.exec B.bytes B.returns hml (atoms_spec (ws := ws) B.pre) (findClass_of_methodNamed B.named) B.notSynchronized (name_of_methodNamed B.named B.method).1 (fun q h => Or.inr h) hK hP (hD0.self (sz := s.heap.size)) va_S.rf hl rfl
/-- the head of a method: an int -/
theorem k_headI {l : Launch} {y : MethodName} {ws ws' : List Cond} {rm : Room} {D : va_G} {ty : List (ClassId × FieldType)} {As : List Value} {wc : va_W} {S : Type} {post : Int32 → S → Prop} {wf : S → va_W} {mc ms : Nat} {cc : ByteArray} {maxL : Nat} {ret : Option FieldType}
    (hy : plainName y.cls = true) (hw : ws = Cond.code y cc maxL ret :: ws') (hnl : (lg_sl As).length ≤ maxL)
    (body : ∀ (p : Program) (e : Env) (s : State) (m : MethodId) (below : List Frame) (meth : Method) (c : Code) (A : Nat → Prop) (ls : Array Slot) (args : Array Value) (Q : State → Prop), p.tables.exec = Jvm.exec → c.code = cc → meth.sig.returnType = ret → c.maxLocals = maxL → (∀ w ∈ ws, w.before args s = true) → s.vm.findClass y.cls = some m.cls → meth.locks = false → meth.name = y.name →
      (∀ q, s.heap.size ≤ q → A q) → va_K D vwCl ty s → va_P D vwCl wc s.heap → va_D A wc → va_S A s.heap s.heap [] → lv_has ls maxL (lv_args 0 As) → Q = MQ below (va_Qi post (fun u t => kq D ty A (wf u) t) A) args s mc ms A →
      W p l e rm s m args below meth c s.heap [] 0 0 Q (F0 m 0 ls [])) : KI l y ws rm D ty As wc post wf mc ms := by
  intro sz
  refine Met.ofW (cc := cc) (maxL := maxL) (ret := ret) hy hw ?_
  intro p e s m args below meth c s₁ B hml hv
  obtain ⟨rfl, hsz, hP, hK, hD0⟩ := hv
  subst hsz
  have hl := lv_entry As (n := maxL) hnl
  rw [lg_entry_eq]
  exact body p e s m below meth c (va_A wc s.heap.size) _ _ _ B.exec B.bytes B.returns hml (atoms_spec (ws := ws) B.pre) (findClass_of_methodNamed B.named) B.notSynchronized (name_of_methodNamed B.named B.method).1 (fun q h => Or.inr h) hK hP (hD0.self (sz := s.heap.size)) va_S.rf hl rfl
section KB
variable {p : Program} {l : Launch} {e : Env} {R : Room} {s : State} {m : MethodId} {args : Array Value} {below : List Frame} {meth : Method} {c : Code} {H H0 : Heap} {locs : List Loc} {cells slots : Nat} {Q : State → Prop} {cc : ByteArray}
variable {D : va_G} {ty : List (ClassId × FieldType)} {A : Nat → Prop} {pc : Nat} {ls : Array Slot} {rest : List Value} {ws : va_W} {cl : List vw_C} {a : Nat}
theorem k_iald (hexec : p.tables.exec = Jvm.exec) (hb : c.code = cc) (hK : va_K D cl ty s) (hP : va_P D cl ws H) (q0 t0 : Nat) {cA : ClassId} {n : Nat} {f : Nat → Int32} (ha : ws[q0]? = some (a, .inl (cA, n, .inl f))) (ht : ty[t0]? = some (cA, .int)) (k : Nat) (hk : k < n) (hn : n < 2147483648) {v : Int32} (hv : f k = v) (hdg : decode cc pc = .ok (.iaload, 1))
    (kk : W p l e R s m args below meth c H locs cells slots Q (F0 m (pc + 1) ls (.int v :: rest))) : W p l e R s m args below meth c H locs cells slots Q (F0 m pc ls (.int (nI k) :: .ref a :: rest)) := by
  refine va_iald hexec hb hK hP q0 t0 ha ht (vp_in_nI hk hn) hdg ?_
  rw [nI_clamp (by omega), hv]; exact kk
theorem k_zald (hexec : p.tables.exec = Jvm.exec) (hb : c.code = cc) (hK : va_K D cl ty s) (hP : va_P D cl ws H) (q0 t0 : Nat) {cA : ClassId} {n : Nat} {f : Nat → Int32} (ha : ws[q0]? = some (a, .inl (cA, n, .inl f))) (ht : ty[t0]? = some (cA, .boolean)) (k : Nat) (hk : k < n) (hn : n < 2147483648) {v : Int32} (hv : f k = v) (hdg : decode cc pc = .ok (.baload, 1))
    (kk : W p l e R s m args below meth c H locs cells slots Q (F0 m (pc + 1) ls (.int v :: rest))) : W p l e R s m args below meth c H locs cells slots Q (F0 m pc ls (.int (nI k) :: .ref a :: rest)) := by
  refine va_zald hexec hb hK hP q0 t0 ha ht (vp_in_nI hk hn) hdg ?_
  rw [nI_clamp (by omega), hv]; exact kk
theorem k_lald (hexec : p.tables.exec = Jvm.exec) (hb : c.code = cc) (hK : va_K D cl ty s) (hP : va_P D cl ws H) (q0 t0 : Nat) {cA : ClassId} {n : Nat} {f : Nat → Int64} (ha : ws[q0]? = some (a, .inl (cA, n, .inr (.inl f)))) (ht : ty[t0]? = some (cA, .long)) (k : Nat) (hk : k < n) (hn : n < 2147483648) {v : Int64} (hv : f k = v) (hdg : decode cc pc = .ok (.laload, 1))
    (kk : W p l e R s m args below meth c H locs cells slots Q (F0 m (pc + 1) ls (.long v :: rest))) : W p l e R s m args below meth c H locs cells slots Q (F0 m pc ls (.int (nI k) :: .ref a :: rest)) := by
  refine va_lald hexec hb hK hP q0 t0 ha ht (vp_in_nI hk hn) hdg ?_
  rw [nI_clamp (by omega), hv]; exact kk
theorem k_iast (hexec : p.tables.exec = Jvm.exec) (hb : c.code = cc) (hK : va_K D cl ty s) (hP : va_P D cl ws H) (hD : va_D A ws) (hS : va_S A H0 H locs) (q0 t0 : Nat) {cA : ClassId} {n : Nat} {f g : Nat → Int32} (ha : ws[q0]? = some (a, .inl (cA, n, .inl f))) (ht : ty[t0]? = some (cA, .int)) (k : Nat) {x : Int32} (hk : k < n) (hn : n < 2147483648) (hg : upd f k x = g) (hdg : decode cc pc = .ok (.iastore, 1))
    (kk : ∀ (H1 : Heap) (locs1 : List Loc), va_P D cl (ws.set q0 (a, .inl (cA, n, .inl g))) H1 → va_D A (ws.set q0 (a, .inl (cA, n, .inl g))) → va_S A H0 H1 locs1 → W p l e R s m args below meth c H1 locs1 cells slots Q (F0 m (pc + 1) ls rest)) : W p l e R s m args below meth c H locs cells slots Q (F0 m pc ls (.int x :: .int (nI k) :: .ref a :: rest)) := by
  refine va_iast hexec hb hK hP hD hS q0 t0 ha ht (vp_in_nI hk hn) hdg ?_
  rw [nI_clamp (by omega), hg]; exact kk
theorem k_zast (hexec : p.tables.exec = Jvm.exec) (hb : c.code = cc) (hK : va_K D cl ty s) (hP : va_P D cl ws H) (hD : va_D A ws) (hS : va_S A H0 H locs) (q0 t0 : Nat) {cA : ClassId} {n : Nat} {f g : Nat → Int32} (ha : ws[q0]? = some (a, .inl (cA, n, .inl f))) (ht : ty[t0]? = some (cA, .boolean)) (k : Nat) {x : Int32} (hk : k < n) (hn : n < 2147483648) (hg : upd f k x = g) (hz : vp_nar .boolean x = x) (hdg : decode cc pc = .ok (.bastore, 1))
    (kk : ∀ (H1 : Heap) (locs1 : List Loc), va_P D cl (ws.set q0 (a, .inl (cA, n, .inl g))) H1 → va_D A (ws.set q0 (a, .inl (cA, n, .inl g))) → va_S A H0 H1 locs1 → W p l e R s m args below meth c H1 locs1 cells slots Q (F0 m (pc + 1) ls rest)) : W p l e R s m args below meth c H locs cells slots Q (F0 m pc ls (.int x :: .int (nI k) :: .ref a :: rest)) := by
  refine va_zast hexec hb hK hP hD hS q0 t0 ha ht (vp_in_nI hk hn) hdg ?_
  rw [nI_clamp (by omega), hz, hg]; exact kk
theorem k_last (hexec : p.tables.exec = Jvm.exec) (hb : c.code = cc) (hK : va_K D cl ty s) (hP : va_P D cl ws H) (hD : va_D A ws) (hS : va_S A H0 H locs) (q0 t0 : Nat) {cA : ClassId} {n : Nat} {f g : Nat → Int64} (ha : ws[q0]? = some (a, .inl (cA, n, .inr (.inl f)))) (ht : ty[t0]? = some (cA, .long)) (k : Nat) {x : Int64} (hk : k < n) (hn : n < 2147483648) (hg : vp_updL f k x = g) (hdg : decode cc pc = .ok (.lastore, 1))
    (kk : ∀ (H1 : Heap) (locs1 : List Loc), va_P D cl (ws.set q0 (a, .inl (cA, n, .inr (.inl g)))) H1 → va_D A (ws.set q0 (a, .inl (cA, n, .inr (.inl g)))) → va_S A H0 H1 locs1 → W p l e R s m args below meth c H1 locs1 cells slots Q (F0 m (pc + 1) ls rest)) : W p l e R s m args below meth c H locs cells slots Q (F0 m pc ls (.long x :: .int (nI k) :: .ref a :: rest)) := by
  refine va_last hexec hb hK hP hD hS q0 t0 ha ht (vp_in_nI hk hn) hdg ?_
  rw [nI_clamp (by omega), hg]; exact kk
variable {x y : Nat} {off : Int} {tgt : Nat}
theorem k_icmp_ge (hexec : p.tables.exec = Jvm.exec) (hb : c.code = cc) (h1 : x < 2147483648) (h2 : y < 2147483648) (hdg : decode cc pc = .ok (.if_icmp .ge off, 3)) (ht : (pc : Int) + off = (tgt : Int))
    (kt : y ≤ x → W p l e R s m args below meth c H locs cells slots Q (F0 m tgt ls rest)) (kf : x < y → W p l e R s m args below meth c H locs cells slots Q (F0 m (pc + 3) ls rest)) : W p l e R s m args below meth c H locs cells slots Q (F0 m pc ls (.int (nI y) :: .int (nI x) :: rest)) :=
  lv_icmp_ge hexec hb hdg ht (fun q => kt ((nI_leI h2 h1).mp q)) (fun q => kf (by have := (not_congr (nI_leI h2 h1)).mp q; omega))
theorem k_icmp_lt (hexec : p.tables.exec = Jvm.exec) (hb : c.code = cc) (h1 : x < 2147483648) (h2 : y < 2147483648) (hdg : decode cc pc = .ok (.if_icmp .lt off, 3)) (ht : (pc : Int) + off = (tgt : Int))
    (kt : x < y → W p l e R s m args below meth c H locs cells slots Q (F0 m tgt ls rest)) (kf : y ≤ x → W p l e R s m args below meth c H locs cells slots Q (F0 m (pc + 3) ls rest)) : W p l e R s m args below meth c H locs cells slots Q (F0 m pc ls (.int (nI y) :: .int (nI x) :: rest)) :=
  lv_icmp_lt hexec hb hdg ht (fun q => kt ((nI_ltI h1 h2).mp q)) (fun q => kf (by have := (not_congr (nI_ltI h1 h2)).mp q; omega))
theorem k_icmp_gt (hexec : p.tables.exec = Jvm.exec) (hb : c.code = cc) (h1 : x < 2147483648) (h2 : y < 2147483648) (hdg : decode cc pc = .ok (.if_icmp .gt off, 3)) (ht : (pc : Int) + off = (tgt : Int))
    (kt : y < x → W p l e R s m args below meth c H locs cells slots Q (F0 m tgt ls rest)) (kf : x ≤ y → W p l e R s m args below meth c H locs cells slots Q (F0 m (pc + 3) ls rest)) : W p l e R s m args below meth c H locs cells slots Q (F0 m pc ls (.int (nI y) :: .int (nI x) :: rest)) :=
  lv_icmp_gt hexec hb hdg ht (fun q => kt ((nI_ltI h2 h1).mp q)) (fun q => kf (by have := (not_congr (nI_ltI h2 h1)).mp q; omega))
theorem k_icmp_le (hexec : p.tables.exec = Jvm.exec) (hb : c.code = cc) (h1 : x < 2147483648) (h2 : y < 2147483648) (hdg : decode cc pc = .ok (.if_icmp .le off, 3)) (ht : (pc : Int) + off = (tgt : Int))
    (kt : x ≤ y → W p l e R s m args below meth c H locs cells slots Q (F0 m tgt ls rest)) (kf : y < x → W p l e R s m args below meth c H locs cells slots Q (F0 m (pc + 3) ls rest)) : W p l e R s m args below meth c H locs cells slots Q (F0 m pc ls (.int (nI y) :: .int (nI x) :: rest)) :=
  lv_icmp_le hexec hb hdg ht (fun q => kt ((nI_leI h1 h2).mp q)) (fun q => kf (by have := (not_congr (nI_leI h1 h2)).mp q; omega))
theorem k_icmp_eq (hexec : p.tables.exec = Jvm.exec) (hb : c.code = cc) (h1 : x < 2147483648) (h2 : y < 2147483648) (hdg : decode cc pc = .ok (.if_icmp .eq off, 3)) (ht : (pc : Int) + off = (tgt : Int))
    (kt : x = y → W p l e R s m args below meth c H locs cells slots Q (F0 m tgt ls rest)) (kf : x ≠ y → W p l e R s m args below meth c H locs cells slots Q (F0 m (pc + 3) ls rest)) : W p l e R s m args below meth c H locs cells slots Q (F0 m pc ls (.int (nI y) :: .int (nI x) :: rest)) :=
  lv_icmp_eq hexec hb hdg ht (fun q => kt ((nI_eq h1 h2).mp q)) (fun q => kf ((not_congr (nI_eq h1 h2)).mp q))
theorem k_icmp_ne (hexec : p.tables.exec = Jvm.exec) (hb : c.code = cc) (h1 : x < 2147483648) (h2 : y < 2147483648) (hdg : decode cc pc = .ok (.if_icmp .ne off, 3)) (ht : (pc : Int) + off = (tgt : Int))
    (kt : x ≠ y → W p l e R s m args below meth c H locs cells slots Q (F0 m tgt ls rest)) (kf : x = y → W p l e R s m args below meth c H locs cells slots Q (F0 m (pc + 3) ls rest)) : W p l e R s m args below meth c H locs cells slots Q (F0 m pc ls (.int (nI y) :: .int (nI x) :: rest)) :=
  lv_icmp_ne hexec hb hdg ht (fun q => kt ((not_congr (nI_eq h1 h2)).mp q)) (fun q => kf ((nI_eq h1 h2).mp q))
end KB
section KC
variable {D : va_G} {cl : List vw_C} {ws : va_W} {H : Heap} {a : Nat} {A : Nat → Prop}
/-- an array's contents matter below its length alone -/
theorem k_extP {q0 : Nat} {cA : ClassId} {n : Nat} {f g : Nat → Int32} (hP : va_P D cl ws H) (ha : ws[q0]? = some (a, .inl (cA, n, .inl f))) (h : ∀ j, j < n → f j = g j) : va_P D cl (ws.set q0 (a, .inl (cA, n, .inl g))) H := by
  have e : vp_cell cA (n, .inl f) = vp_cell cA (n, .inl g) := by
    have e2 : (fun j : Fin n => Value.int (f j.val)) = fun j : Fin n => Value.int (g j.val) := funext fun j => by rw [h j.val j.isLt]
    show ({ cls := cA, slots := Array.ofFn (fun j : Fin n => Value.int (f j.val)), vm := .none } : Cell) = { cls := cA, slots := Array.ofFn (fun j : Fin n => Value.int (g j.val)), vm := .none }
    rw [e2]
  have hl := (List.getElem?_eq_some_iff.mp ha).1
  intro k q hk
  by_cases hkp : k = q0
  · subst hkp
    rw [List.getElem?_set_self hl] at hk
    cases hk
    have h1 : H[a]? = some (vp_cell cA (n, .inl f)) := hP _ _ ha
    show H[a]? = some (vp_cell cA (n, .inl g))
    rw [← e]; exact h1
  · rw [List.getElem?_set_ne (Ne.symm hkp)] at hk
    exact hP k q hk
end KC
theorem upd_back {f : Nat → Int32} {i : Nat} {v : Int32} : upd (upd f i v) i (f i) = f := by
  funext j
  by_cases h : j = i
  · subst h; simp [upd]
  · simp [upd, h]
theorem upd_2 {f : Nat → Int32} {i : Nat} {v w : Int32} : upd (upd f i v) i w = upd f i w := by
  funext j
  by_cases h : j = i
  · subst h; simp [upd]
  · simp [upd, h]
end
section
/-! the words for the state: rows of 25 sealed words, rows of 4 words of a block; what each method does to them -/
def ush (x k : Int32) : Int32 := (x.toUInt32 >>> (k.toUInt32 &&& Int32.toUInt32 31)).toInt32
def setRow (S : Nat → Nat → Int32) (b : Nat) (P : Nat → Int32) : Nat → Nat → Int32 := fun b' => if b' = b then P else S b'
def fl25 (S : Nat → Nat → Int32) : Nat → Int32 := fun j => S (j / 25) (j % 25)
def fl4 (S : Nat → Nat → Int32) : Nat → Int32 := fun j => S (j / 4) (j % 4)
theorem setRow_s {S : Nat → Nat → Int32} {b : Nat} {P : Nat → Int32} : setRow S b P b = P := by simp [setRow]
theorem setRow_n {S : Nat → Nat → Int32} {b b' : Nat} {P : Nat → Int32} (h : b' ≠ b) : setRow S b P b' = S b' := by simp [setRow, h]
theorem setRow_id {S : Nat → Nat → Int32} {b : Nat} : setRow S b (S b) = S := by funext x; by_cases h : x = b <;> simp [setRow, h]
theorem setRow_2 {S : Nat → Nat → Int32} {b : Nat} {P P' : Nat → Int32} : setRow (setRow S b P) b P' = setRow S b P' := by funext x; by_cases h : x = b <;> simp [setRow, h]
theorem fl25_eq {S : Nat → Nat → Int32} {k b i : Nat} (hk : k = 25 * b + i) (hi : i < 25) : fl25 S k = S b i := by
  have h1 : k / 25 = b := by omega
  have h2 : k % 25 = i := by omega
  show S (k / 25) (k % 25) = S b i
  rw [h1, h2]
theorem fl4_eq {S : Nat → Nat → Int32} {k b i : Nat} (hk : k = 4 * b + i) (hi : i < 4) : fl4 S k = S b i := by
  have h1 : k / 4 = b := by omega
  have h2 : k % 4 = i := by omega
  show S (k / 4) (k % 4) = S b i
  rw [h1, h2]
theorem fl25_up {S : Nat → Nat → Int32} {k b i : Nat} {x : Int32} (hk : k = 25 * b + i) (hi : i < 25) : upd (fl25 S) k x = fl25 (setRow S b (upd (S b) i x)) := by
  funext j
  by_cases h : j = k
  · subst h
    rw [fl25_eq hk hi]
    simp [upd, setRow]
  · have h2 : upd (fl25 S) k x j = fl25 S j := by simp [upd, h]
    rw [h2]
    show S (j / 25) (j % 25) = setRow S b (upd (S b) i x) (j / 25) (j % 25)
    by_cases hb : j / 25 = b
    · have hi2 : j % 25 ≠ i := by omega
      simp [setRow, hb, upd, hi2]
    · rw [setRow_n hb]
theorem fl4_up {S : Nat → Nat → Int32} {k b i : Nat} {x : Int32} (hk : k = 4 * b + i) (hi : i < 4) : upd (fl4 S) k x = fl4 (setRow S b (upd (S b) i x)) := by
  funext j
  by_cases h : j = k
  · subst h
    rw [fl4_eq hk hi]
    simp [upd, setRow]
  · have h2 : upd (fl4 S) k x j = fl4 S j := by simp [upd, h]
    rw [h2]
    show S (j / 4) (j % 4) = setRow S b (upd (S b) i x) (j / 4) (j % 4)
    by_cases hb : j / 4 = b
    · have hi2 : j % 4 ≠ i := by omega
      simp [setRow, hb, upd, hi2]
    · rw [setRow_n hb]
theorem fl25_congr {S S' : Nat → Nat → Int32} (h : ∀ b i, i < 25 → S b i = S' b i) : fl25 S = fl25 S' := by
  funext j
  exact h _ _ (Nat.mod_lt _ (by decide))
theorem fl4_congr {S S' : Nat → Nat → Int32} (h : ∀ b i, i < 4 → S b i = S' b i) : fl4 S = fl4 S' := by
  funext j
  exact h _ _ (Nat.mod_lt _ (by decide))
/-- the mixing of PAD -/
def padM (h : Int32) : Int32 :=
  let h1 := h ^^^ ush h 15
  let h2 := h1 * 739982445
  let h3 := h2 ^^^ ush h2 12
  let h4 := h3 * 695872825
  h4 ^^^ ush h4 15
/-- PAD(i) of the bucket b of the tree number num, its counter cb -/
def padF (key num cb : Int32) (b i : Nat) : Int32 :=
  padM (((key ^^^ (64 * num + nI b + 1) * (-1640531535)) ^^^ cb * (-2048144777)) ^^^ (nI i + 1) * (-1028477379))
/-- the tag over the first k words of a row -/
def tagN (p : Int32) (w : Nat → Int32) : Nat → Int32
  | 0 => p
  | k + 1 => (tagN p w k ^^^ w k) * 16777619
theorem tagN_congr {p : Int32} {w w' : Nat → Int32} : ∀ {k : Nat}, (∀ i, i < k → w i = w' i) → tagN p w k = tagN p w' k
  | 0, _ => rfl
  | k + 1, h => by rw [tagN, tagN, tagN_congr (fun i hi => h i (by omega)), h k (by omega)]
/-- the tag that a row must bear -/
def tagF (key num cb : Int32) (b : Nat) (w : Nat → Int32) : Int32 := tagN (padF key num cb b 24) w 24
/-- the first k words of a row, masked -/
def maskR (key num cb : Int32) (b : Nat) (w : Nat → Int32) (k : Nat) : Nat → Int32 := fun i => if i < k then w i ^^^ padF key num cb b i else w i
/-- a plain row, sealed -/
def sealR (key num cb : Int32) (b : Nat) (w : Nat → Int32) : Nat → Int32 := upd (maskR key num cb b w 24) 24 (tagF key num cb b (maskR key num cb b w 24))
theorem maskR_0 {key num cb : Int32} {b : Nat} {w : Nat → Int32} : maskR key num cb b w 0 = w := by funext i; simp [maskR]
theorem maskR_s {key num cb : Int32} {b k : Nat} {w : Nat → Int32} : upd (maskR key num cb b w k) k (maskR key num cb b w k k ^^^ padF key num cb b k) = maskR key num cb b w (k + 1) := by
  funext i
  by_cases h : i = k
  · subst h; simp [upd, maskR]
  · have h1 : (i < k + 1) = (i < k) := by apply propext; omega
    simp [upd, h, maskR, h1]
/-- word i of a block in slot sl -/
def sloV (sl n : Nat) (lf : Int32) (wd : Nat → Int32) (i : Nat) : Int32 := if i = 6 * sl then nI (n + 1) else if i = 6 * sl + 1 then lf else wd (i - (6 * sl + 2))
/-- the first k words of a block laid into a row at a slot -/
def putK (w : Nat → Int32) (sl n : Nat) (lf : Int32) (wd : Nat → Int32) (k : Nat) : Nat → Int32 := fun i => if 6 * sl ≤ i ∧ i < 6 * sl + k then sloV sl n lf wd i else w i
/-- a block laid into a row at a slot -/
def putR (w : Nat → Int32) (sl n : Nat) (lf : Int32) (wd : Nat → Int32) : Nat → Int32 := putK w sl n lf wd 6
theorem putK_0 {w : Nat → Int32} {sl n : Nat} {lf : Int32} {wd : Nat → Int32} : putK w sl n lf wd 0 = w := by
  funext i
  have h : ¬ (6 * sl ≤ i ∧ i < 6 * sl + 0) := by omega
  simp only [putK, if_neg h]
theorem putK_s {w : Nat → Int32} {sl n k : Nat} {lf x : Int32} {wd : Nat → Int32} (hx : sloV sl n lf wd (6 * sl + k) = x) : upd (putK w sl n lf wd k) (6 * sl + k) x = putK w sl n lf wd (k + 1) := by
  subst hx
  funext i
  by_cases h : i = 6 * sl + k
  · subst h
    have h1 : 6 * sl ≤ 6 * sl + k ∧ 6 * sl + k < 6 * sl + (k + 1) := by omega
    simp only [upd, putK, if_pos h1, if_true]
  · by_cases h2 : 6 * sl ≤ i ∧ i < 6 * sl + k
    · have h3 : 6 * sl ≤ i ∧ i < 6 * sl + (k + 1) := by omega
      simp only [upd, if_neg h, putK, if_pos h2, if_pos h3]
    · have h3 : ¬ (6 * sl ≤ i ∧ i < 6 * sl + (k + 1)) := by omega
      simp only [upd, if_neg h, putK, if_neg h2, if_neg h3]
theorem sloV_0 {sl n : Nat} {lf : Int32} {wd : Nat → Int32} : sloV sl n lf wd (6 * sl + 0) = nI (n + 1) := by simp [sloV]
theorem sloV_1 {sl n : Nat} {lf : Int32} {wd : Nat → Int32} : sloV sl n lf wd (6 * sl + 1) = lf := by simp [sloV]
theorem sloV_2 {sl n k : Nat} {lf : Int32} {wd : Nat → Int32} : sloV sl n lf wd (6 * sl + (2 + k)) = wd k := by
  have h1 : ¬ 6 * sl + (2 + k) = 6 * sl := by omega
  have h2 : ¬ 6 * sl + (2 + k) = 6 * sl + 1 := by omega
  have h3 : 6 * sl + (2 + k) - (6 * sl + 2) = k := by omega
  simp only [sloV, if_neg h1, if_neg h2, h3]
/-- a number that is no block's -/
def noB (nk : Nat) (x : Int32) : Bool := decide (x < 0) || decide (nI nk ≤ x)
/-- what slot sl of an open row brings to the stash -/
def hoO (nk : Nat) (row : Nat → Int32) (sl : Nat) (O : Nat → Int32) : Nat → Int32 := if noB nk (row (6 * sl) - 1) = true then O else upd O (row (6 * sl) - 1).toNatClampNeg 1
def hoL (nk : Nat) (row : Nat → Int32) (sl : Nat) (L : Nat → Int32) : Nat → Int32 := if noB nk (row (6 * sl) - 1) = true then L else upd L (row (6 * sl) - 1).toNatClampNeg (row (6 * sl + 1))
def hoW (nk : Nat) (row : Nat → Int32) (sl : Nat) (Wd : Nat → Nat → Int32) : Nat → Nat → Int32 := if noB nk (row (6 * sl) - 1) = true then Wd else setRow Wd (row (6 * sl) - 1).toNatClampNeg (fun i => if i < 4 then row (6 * sl + 2 + i) else Wd (row (6 * sl) - 1).toNatClampNeg i)
/-- the first k slots of a row -/
def opO (nk : Nat) (row : Nat → Int32) (O : Nat → Int32) : Nat → Nat → Int32
  | 0 => O
  | k + 1 => hoO nk row k (opO nk row O k)
def opL (nk : Nat) (row : Nat → Int32) (L : Nat → Int32) : Nat → Nat → Int32
  | 0 => L
  | k + 1 => hoL nk row k (opL nk row L k)
def opW (nk : Nat) (row : Nat → Int32) (Wd : Nat → Nat → Int32) : Nat → Nat → Nat → Int32
  | 0 => Wd
  | k + 1 => hoW nk row k (opW nk row Wd k)
/-- the bucket on the path of leaf l, so many levels over the lowest -/
def pathB (lc l up : Nat) : Nat := (lc + l) / 2 ^ up - 1
/-- a bucket's row, open -/
def decR (key num : Int32) (C : Nat → Int32) (S : Nat → Nat → Int32) (b : Nat) : Nat → Int32 := fun i => S b i ^^^ padF key num (C b) b i
/-- the stash behind the first k buckets of a path -/
def tkO (nk : Nat) (rows : Nat → Nat → Int32) (O : Nat → Int32) : Nat → Nat → Int32
  | 0 => O
  | k + 1 => opO nk (rows k) (tkO nk rows O k) 4
def tkL (nk : Nat) (rows : Nat → Nat → Int32) (L : Nat → Int32) : Nat → Nat → Int32
  | 0 => L
  | k + 1 => opL nk (rows k) (tkL nk rows L k) 4
def tkW (nk : Nat) (rows : Nat → Nat → Int32) (Wd : Nat → Nat → Int32) : Nat → Nat → Nat → Int32
  | 0 => Wd
  | k + 1 => opW nk (rows k) (tkW nk rows Wd k) 4
/-- the open rows of a path -/
def rowsP (key num : Int32) (C : Nat → Int32) (S : Nat → Nat → Int32) (lc l : Nat) : Nat → Nat → Int32 := fun up => decR key num C S (pathB lc l up)
/-- the tag of a bucket is right -/
def wholeB (key num : Int32) (C : Nat → Int32) (S : Nat → Nat → Int32) (b : Nat) : Prop := S b 24 = tagF key num (C b) b (S b)
def zrow : Nat → Int32 := fun _ => 0
/-- the first k buckets of a path laid bare -/
def zpS (lc l : Nat) (S : Nat → Nat → Int32) : Nat → Nat → Nat → Int32
  | 0 => S
  | k + 1 => setRow (zpS lc l S k) (pathB lc l k) zrow
/-- blocks 0 .. n-1 of the stash that go into a bucket: row, stash, slots used -/
def fillN (lc up b : Nat) (L : Nat → Int32) (Wd : Nat → Nat → Int32) (w0 O : Nat → Int32) : Nat → (Nat → Int32) × (Nat → Int32) × Nat
  | 0 => (w0, O, 0)
  | n + 1 => if (fillN lc up b L Wd w0 O n).2.2 < 4 ∧ (fillN lc up b L Wd w0 O n).2.1 n ≠ 0 ∧ pathB lc (L n).toNatClampNeg up = b then (putR (fillN lc up b L Wd w0 O n).1 (fillN lc up b L Wd w0 O n).2.2 n (L n) (Wd n), upd (fillN lc up b L Wd w0 O n).2.1 n 0, (fillN lc up b L Wd w0 O n).2.2 + 1) else fillN lc up b L Wd w0 O n
/-- the first k buckets of a path put back: store, counters, stash -/
def pbN (key num : Int32) (lc nk l : Nat) (L : Nat → Int32) (Wd : Nat → Nat → Int32) (S : Nat → Nat → Int32) (C O : Nat → Int32) : Nat → (Nat → Nat → Int32) × (Nat → Int32) × (Nat → Int32)
  | 0 => (S, C, O)
  | k + 1 =>
    (setRow (pbN key num lc nk l L Wd S C O k).1 (pathB lc l k) (sealR key num ((pbN key num lc nk l L Wd S C O k).2.1 (pathB lc l k) + 1) (pathB lc l k) (fillN lc k (pathB lc l k) L Wd zrow (pbN key num lc nk l L Wd S C O k).2.2 nk).1),
     upd (pbN key num lc nk l L Wd S C O k).2.1 (pathB lc l k) ((pbN key num lc nk l L Wd S C O k).2.1 (pathB lc l k) + 1),
     (fillN lc k (pathB lc l k) L Wd zrow (pbN key num lc nk l L Wd S C O k).2.2 nk).2.1)
/-- the least place below n with P, else n -/
def ff (P : Nat → Bool) : Nat → Nat
  | 0 => 0
  | n + 1 => if ff P n < n then ff P n else if P n = true then n else n + 1
theorem ff_spec (P : Nat → Bool) : ∀ n, ff P n ≤ n ∧ (∀ j, j < ff P n → P j = false) ∧ (ff P n < n → P (ff P n) = true)
  | 0 => ⟨Nat.le_refl 0, fun j h => absurd h (Nat.not_lt_zero j), fun h => absurd h (Nat.not_lt_zero _)⟩
  | n + 1 => by
    obtain ⟨h1, h2, h3⟩ := ff_spec P n
    by_cases h : ff P n < n
    · have e : ff P (n + 1) = ff P n := by simp [ff, h]
      rw [e]
      exact ⟨by omega, h2, fun _ => h3 h⟩
    · have e0 : ff P n = n := by omega
      by_cases hp : P n = true
      · have e : ff P (n + 1) = n := by simp [ff, h, hp]
        rw [e]
        exact ⟨by omega, fun j hj => h2 j (by omega), fun _ => hp⟩
      · have e : ff P (n + 1) = n + 1 := by simp [ff, h, hp]
        rw [e]
        refine ⟨by omega, fun j hj => ?_, fun q => absurd q (by omega)⟩
        by_cases hj2 : j = n
        · subst hj2; simpa using hp
        · exact h2 j (by omega)
theorem ff_at {P : Nat → Bool} {n q : Nat} (hq : q < n) (hP : P q = true) (hlt : ∀ j, j < q → P j = false) : ff P n = q := by
  obtain ⟨h1, h2, h3⟩ := ff_spec P n
  rcases Nat.lt_trichotomy (ff P n) q with h | h | h
  · have a := hlt _ h
    have b := h3 (by omega)
    rw [a] at b; cases b
  · exact h
  · have a := h2 q h
    rw [a] at hP; cases hP
theorem ff_no {P : Nat → Bool} {n : Nat} (hlt : ∀ j, j < n → P j = false) : ff P n = n := by
  obtain ⟨h1, h2, h3⟩ := ff_spec P n
  rcases Nat.lt_or_ge (ff P n) n with h | h
  · have a := hlt _ h
    have b := h3 h
    rw [a] at b; cases b
  · omega
/-- the first free place of a block's path at the start: 4 * up + slot -/
def stQ (lc lvs l : Nat) (S : Nat → Nat → Int32) : Nat := ff (fun q => decide (S (pathB lc l (q / 4)) (6 * (q % 4)) = 0)) (4 * lvs)
def stS (lc lvs l n : Nat) (lf : Int32) (wd : Nat → Int32) (S : Nat → Nat → Int32) : Nat → Nat → Int32 :=
  if stQ lc lvs l S < 4 * lvs then setRow S (pathB lc l (stQ lc lvs l S / 4)) (putR (S (pathB lc l (stQ lc lvs l S / 4))) (stQ lc lvs l S % 4) n lf wd) else S
def stO (lc lvs l n : Nat) (S : Nat → Nat → Int32) (O : Nat → Int32) : Nat → Int32 := if stQ lc lvs l S < 4 * lvs then upd O n 0 else O

theorem hoO_n {nk sl : Nat} {row O : Nat → Int32} (h : noB nk (row (6 * sl) - 1) = true) : hoO nk row sl O = O := by simp [hoO, h]
theorem hoL_n {nk sl : Nat} {row L : Nat → Int32} (h : noB nk (row (6 * sl) - 1) = true) : hoL nk row sl L = L := by simp [hoL, h]
theorem hoW_n {nk sl : Nat} {row : Nat → Int32} {Wd : Nat → Nat → Int32} (h : noB nk (row (6 * sl) - 1) = true) : hoW nk row sl Wd = Wd := by simp [hoW, h]
theorem noB_lt {nk : Nat} {x : Int32} (h : x < 0) : noB nk x = true := by simp [noB, h]
theorem noB_ge {nk : Nat} {x : Int32} (h : nI nk ≤ x) : noB nk x = true := by simp [noB, h]
theorem noB_nI {nk n : Nat} (h : n < nk) (hk : nk < 2147483648) : noB nk (nI n) = false := by
  simp only [noB, Bool.or_eq_false_iff, decide_eq_false_iff_not]
  exact ⟨nI_pos (by omega), nI_ge h hk⟩
theorem noB_false {nk : Nat} {x : Int32} (hk : nk < 2147483648) (h1 : ¬ x < 0) (h2 : ¬ nI nk ≤ x) : ∃ n, n < nk ∧ x = nI n := by
  rcases pk_ix x (n := nk) hk with h | h | h
  · exact absurd h h1
  · exact absurd h h2
  · exact h
theorem hoO_y {nk sl n : Nat} {row O : Nat → Int32} (hn : n < nk) (hk : nk < 2147483648) (h : row (6 * sl) - 1 = nI n) : hoO nk row sl O = upd O n 1 := by
  simp only [hoO, h, noB_nI hn hk, nI_clamp (show n < 2 ^ 31 by omega)]; rfl
theorem hoL_y {nk sl n : Nat} {row L : Nat → Int32} (hn : n < nk) (hk : nk < 2147483648) (h : row (6 * sl) - 1 = nI n) : hoL nk row sl L = upd L n (row (6 * sl + 1)) := by
  simp only [hoL, h, noB_nI hn hk, nI_clamp (show n < 2 ^ 31 by omega)]; rfl
/-- the words of a row, first k of four, at a block -/
def wdK (row : Nat → Int32) (sl : Nat) (w : Nat → Int32) (k : Nat) : Nat → Int32 := fun i => if i < k then row (6 * sl + 2 + i) else w i
theorem hoW_y {nk sl n : Nat} {row : Nat → Int32} {Wd : Nat → Nat → Int32} (hn : n < nk) (hk : nk < 2147483648) (h : row (6 * sl) - 1 = nI n) : hoW nk row sl Wd = setRow Wd n (wdK row sl (Wd n) 4) := by
  simp only [hoW, h, noB_nI hn hk, nI_clamp (show n < 2 ^ 31 by omega)]; rfl
theorem wdK_0 {row w : Nat → Int32} {sl : Nat} : wdK row sl w 0 = w := by funext i; simp [wdK]
theorem wdK_s {row w : Nat → Int32} {sl k : Nat} : upd (wdK row sl w k) k (row (6 * sl + 2 + k)) = wdK row sl w (k + 1) := by
  funext i
  by_cases h : i = k
  · subst h; simp [upd, wdK]
  · have h1 : (i < k + 1) = (i < k) := by apply propext; omega
    simp [upd, h, wdK, h1]
theorem ho_congr {nk sl : Nat} {row row' O L : Nat → Int32} {Wd : Nat → Nat → Int32} (hs : sl < 4) (h : ∀ i, i < 24 → row i = row' i) : hoO nk row sl O = hoO nk row' sl O ∧ hoL nk row sl L = hoL nk row' sl L ∧ hoW nk row sl Wd = hoW nk row' sl Wd := by
  have h0 := h (6 * sl) (by omega)
  have h1 := h (6 * sl + 1) (by omega)
  refine ⟨by simp only [hoO, h0], by simp only [hoL, h0, h1], ?_⟩
  have h2 : ∀ w : Nat → Int32, (fun i => if i < 4 then row (6 * sl + 2 + i) else w i) = (fun i => if i < 4 then row' (6 * sl + 2 + i) else w i) := by
    intro w
    funext i
    by_cases hi : i < 4
    · simp only [if_pos hi, h (6 * sl + 2 + i) (by omega)]
    · simp only [if_neg hi]
  simp only [hoW, h0, h2]
theorem opO_congr {nk : Nat} {row row' O : Nat → Int32} (h : ∀ i, i < 24 → row i = row' i) : ∀ {k : Nat}, k ≤ 4 → opO nk row O k = opO nk row' O k
  | 0, _ => rfl
  | k + 1, hk => by rw [opO, opO, opO_congr h (by omega), (ho_congr (nk := nk) (L := O) (Wd := fun _ => O) (O := opO nk row' O k) (show k < 4 by omega) h).1]
theorem opL_congr {nk : Nat} {row row' L : Nat → Int32} (h : ∀ i, i < 24 → row i = row' i) : ∀ {k : Nat}, k ≤ 4 → opL nk row L k = opL nk row' L k
  | 0, _ => rfl
  | k + 1, hk => by rw [opL, opL, opL_congr h (by omega), (ho_congr (nk := nk) (O := L) (Wd := fun _ => L) (L := opL nk row' L k) (show k < 4 by omega) h).2.1]
theorem opW_congr {nk : Nat} {row row' : Nat → Int32} {Wd : Nat → Nat → Int32} (h : ∀ i, i < 24 → row i = row' i) : ∀ {k : Nat}, k ≤ 4 → opW nk row Wd k = opW nk row' Wd k
  | 0, _ => rfl
  | k + 1, hk => by rw [opW, opW, opW_congr h (by omega), (ho_congr (nk := nk) (O := row) (L := row) (Wd := opW nk row' Wd k) (show k < 4 by omega) h).2.2]
theorem mask_dec {key num : Int32} {C : Nat → Int32} {S : Nat → Nat → Int32} {b : Nat} : ∀ i, i < 24 → maskR key num (C b) b (S b) 24 i = decR key num C S b i := fun i hi => by simp [maskR, decR, hi]
def cntN (O : Nat → Int32) : Nat → Nat
  | 0 => 0
  | k + 1 => cntN O k + if O k = 0 then 0 else 1
theorem cntN_le (O : Nat → Int32) : ∀ k, cntN O k ≤ k
  | 0 => Nat.le_refl 0
  | k + 1 => by have := cntN_le O k; by_cases h : O k = 0 <;> simp [cntN, h] <;> omega
/-- zeros laid over the first k words -/
def zerK (w : Nat → Int32) (k : Nat) : Nat → Int32 := fun i => if i < k then 0 else w i
theorem zerK_0 {w : Nat → Int32} : zerK w 0 = w := by funext i; simp [zerK]
theorem zerK_s {w : Nat → Int32} {k : Nat} : upd (zerK w k) k 0 = zerK w (k + 1) := by
  funext i
  by_cases h : i = k
  · subst h; simp [upd, zerK]
  · have h1 : (i < k + 1) = (i < k) := by apply propext; omega
    simp [upd, h, zerK, h1]
theorem fl25_zer {S : Nat → Nat → Int32} {b : Nat} {w : Nat → Int32} : fl25 (setRow S b (zerK w 25)) = fl25 (setRow S b zrow) := by
  refine fl25_congr (fun b' i hi => ?_)
  by_cases h : b' = b
  · subst h; simp [setRow, zerK, zrow, hi]
  · rw [setRow_n h, setRow_n h]
section Fill
variable {lc up b : Nat} {L : Nat → Int32} {Wd : Nat → Nat → Int32} {w0 O : Nat → Int32}
theorem fillN_le : ∀ n, (fillN lc up b L Wd w0 O n).2.2 ≤ 4
  | 0 => by simp [fillN]
  | n + 1 => by
    have h := fillN_le n
    rw [fillN]
    by_cases hc : (fillN lc up b L Wd w0 O n).2.2 < 4 ∧ (fillN lc up b L Wd w0 O n).2.1 n ≠ 0 ∧ pathB lc (L n).toNatClampNeg up = b
    · rw [if_pos hc]; have := hc.1; show (fillN lc up b L Wd w0 O n).2.2 + 1 ≤ 4; omega
    · rw [if_neg hc]; exact h
theorem fillN_O : ∀ n j, n ≤ j → (fillN lc up b L Wd w0 O n).2.1 j = O j
  | 0, _, _ => rfl
  | n + 1, j, hj => by
    have h := fillN_O n j (by omega)
    rw [fillN]
    by_cases hc : (fillN lc up b L Wd w0 O n).2.2 < 4 ∧ (fillN lc up b L Wd w0 O n).2.1 n ≠ 0 ∧ pathB lc (L n).toNatClampNeg up = b
    · rw [if_pos hc]; show upd (fillN lc up b L Wd w0 O n).2.1 n 0 j = O j
      rw [pk_un (by omega)]; exact h
    · rw [if_neg hc]; exact h
theorem fillN_y {n : Nat} (h1 : (fillN lc up b L Wd w0 O n).2.2 < 4) (h2 : O n ≠ 0) (h3 : pathB lc (L n).toNatClampNeg up = b) : fillN lc up b L Wd w0 O (n + 1) = (putR (fillN lc up b L Wd w0 O n).1 (fillN lc up b L Wd w0 O n).2.2 n (L n) (Wd n), upd (fillN lc up b L Wd w0 O n).2.1 n 0, (fillN lc up b L Wd w0 O n).2.2 + 1) := by
  rw [fillN, if_pos ⟨h1, by rw [fillN_O n n (Nat.le_refl n)]; exact h2, h3⟩]
theorem fillN_n {n : Nat} (h : O n = 0 ∨ ¬ pathB lc (L n).toNatClampNeg up = b) : fillN lc up b L Wd w0 O (n + 1) = fillN lc up b L Wd w0 O n := by
  rw [fillN, if_neg]
  rw [fillN_O n n (Nat.le_refl n)]
  rintro ⟨-, h2, h3⟩
  rcases h with h | h
  · exact h2 h
  · exact h h3
theorem fillN_stop {n : Nat} (h : 4 ≤ (fillN lc up b L Wd w0 O n).2.2) : ∀ j, fillN lc up b L Wd w0 O (n + j) = fillN lc up b L Wd w0 O n
  | 0 => rfl
  | j + 1 => by
    have e := fillN_stop h j
    rw [show n + (j + 1) = (n + j) + 1 by omega, fillN, e, if_neg]
    rintro ⟨h1, -⟩
    omega
end Fill
end
section
/-! VeiledFiles.Tree: its world and its methods -/
/-- the two trees there are -/
def TP (lc lvs nb nk : Nat) : Prop := (lc = 4 ∧ lvs = 3 ∧ nb = 7 ∧ nk = 8) ∨ (lc = 32 ∧ lvs = 6 ∧ nb = 63 ∧ nk = 64)
theorem TP.bd {lc lvs nb nk : Nat} (h : TP lc lvs nb nk) : lc ≤ 32 ∧ lvs ≤ 6 ∧ nb ≤ 63 ∧ nk ≤ 64 ∧ 4 ≤ lc ∧ 3 ≤ lvs ∧ 7 ≤ nb ∧ 8 ≤ nk ∧ nb + 1 = 2 * lc := by
  unfold TP at h; omega
abbrev wT (cI cZ cJ : ClassId) (t : Nat) (st : Nat) (ct : Nat) (hd : Nat) (lv : Nat) (wd : Nat) (num : Int32) (lc : Nat) (lvs : Nat) (nb : Nat) (nk : Nat) (key : Int32) (S : Nat → Nat → Int32) (C : Nat → Int32) (O : Nat → Int32) (L : Nat → Int32) (Wd : Nat → Nat → Int32) : va_W := [(t, .inr (3, [.int num, .int (nI lc), .int (nI lvs), .int (nI nb), .int (nI nk), .ref st, .ref ct, .ref hd, .ref lv, .ref wd, .int key])), (st, .inl (cI, 25 * nb, .inl (fl25 S))), (ct, .inl (cI, nb, .inl C)), (hd, .inl (cZ, nk, .inl O)), (lv, .inl (cI, nk, .inl L)), (wd, .inl (cI, 4 * nk, .inl (fl4 Wd)))]
abbrev wN (cI cZ cJ : ClassId)  : va_W := []
theorem k_shr {a u : Nat} (ha : a < 2 ^ 30) (hu : u < 31) : nI a >>> (nI u &&& 31) = nI (a / 2 ^ u) := by
  refine pk_shrN (by omega) _ u ?_
  have h : ∀ n : Nat, n < 32 → ((nI n &&& 31).toBitVec.smod 32).toNat = n := by decide +kernel
  exact h u (by omega)
theorem k_path {lc lvs nb nk l0 up : Nat} (hT : TP lc lvs nb nk) (hl : l0 < lc) (hu : up < lvs) : nI ((lc + l0) / 2 ^ up) - nI 1 = nI (pathB lc l0 up) := by
  unfold pathB
  refine pk_sub ?_
  have h1 : 2 ^ up ≤ lc := by
    rcases hT with ⟨rfl, rfl, -, -⟩ | ⟨rfl, rfl, -, -⟩
    · exact Nat.le_trans (Nat.pow_le_pow_right (by decide) (by omega : up ≤ 2)) (by decide)
    · exact Nat.le_trans (Nat.pow_le_pow_right (by decide) (by omega : up ≤ 5)) (by decide)
  exact (Nat.le_div_iff_mul_le (Nat.two_pow_pos up)).mpr (by omega)
/-- the bucket on a path is one of the tree's -/
theorem pathB_lt {lc lvs nb nk l0 up : Nat} (hT : TP lc lvs nb nk) (hl : l0 < lc) : pathB lc l0 up < nb := by
  have hq := hT.bd
  have h1 : (lc + l0) / 2 ^ up ≤ lc + l0 := Nat.div_le_self _ _
  unfold pathB; omega
set_option maxHeartbeats 4000000 in
set_option maxRecDepth 100000 in
theorem c_pad (l : Launch) (D : va_G) (cI cZ cJ : ClassId) (t : Nat) (st : Nat) (ct : Nat) (hd : Nat) (lv : Nat) (wd : Nat) (num : Int32) (lc : Nat) (lvs : Nat) (nb : Nat) (nk : Nat) (key : Int32) (S : Nat → Nat → Int32) (C : Nat → Int32) (O : Nat → Int32) (L : Nat → Int32) (Wd : Nat → Nat → Int32) (b i : Nat) (hT : TP lc lvs nb nk) (hb0 : b < nb) : KI l yX3_pad wsX3_pad ({ frames := 0, cells := 0, slots := 0, locals := 0 }) D (kty cI cZ cJ) [.ref t, .int (nI b), .int (nI i)] (wT cI cZ cJ t st ct hd lv wd num lc lvs nb nk key S C O L Wd) (fun r (_ : Unit) => r = padF key num (C b) b i) (fun _ : Unit => (wT cI cZ cJ t st ct hd lv wd num lc lvs nb nk key S C O L Wd)) 0 0 := by
  refine k_headI (cc := cX3_pad) (maxL := 4) (ret := (some .int)) (by decide) rfl (Nat.le_of_ble_eq_true rfl) ?_
  intro p e s m below meth c A ls args Q hx hb hr hml hts hown hlk hnm hA hK hP hD hS hl hQ
  have hq := hT.bd
  have hl : lv_has ls 4 [(0, .ref t), (1, .int (nI b)), (2, .int (nI i))] := hl
  refine lv_aload_n hx hb dX3_pad_0 rfl (lv_at hl 0 rfl) ?_
  refine va_get (D := D) (ci := 3) (v := .int key) (C := RX3) (T := TX3) (N := 11) hx hb hts (by decide +kernel) hown hK hP 0 rfl rfl 10 (by decide) (hts (.fieldLink RX3 44 "VeiledFiles$Tree" "key" "I") (by decide +kernel)) (fun _ h9 => h9) rfl dX3_pad_1 ?_
  refine lv_bipush (v := nI 64) hx hb dX3_pad_4 (by decide) ?_
  refine lv_aload_n hx hb dX3_pad_6 rfl (lv_at hl 0 rfl) ?_
  refine va_get (D := D) (ci := 3) (v := .int num) (C := RX3) (T := TX3) (N := 11) hx hb hts (by decide +kernel) hown hK hP 0 rfl rfl 0 (by decide) (hts (.fieldLink RX3 9 "VeiledFiles$Tree" "number" "I") (by decide +kernel)) (fun _ h9 => h9) rfl dX3_pad_7 ?_
  refine lv_imul hx hb dX3_pad_10 ?_
  refine lv_iload_n hx hb dX3_pad_11 rfl (lv_at hl 1 rfl) ?_
  refine lv_iadd hx hb dX3_pad_12 ?_
  refine lv_iconst (v := nI 1) hx hb dX3_pad_13 (by decide) ?_
  refine lv_iadd hx hb dX3_pad_14 ?_
  refine lv_ldc (v := -1640531535) hx hb hown (hts (.constant RX3 105 (-1640531535)) (by decide +kernel)) dX3_pad_15 ?_
  refine lv_imul hx hb dX3_pad_17 ?_
  refine lv_ixor hx hb dX3_pad_18 ?_
  refine lv_aload_n hx hb dX3_pad_19 rfl (lv_at hl 0 rfl) ?_
  refine va_get (D := D) (ci := 3) (v := .ref ct) (C := RX3) (T := TX3) (N := 11) hx hb hts (by decide +kernel) hown hK hP 0 rfl rfl 6 (by decide) (hts (.fieldLink RX3 31 "VeiledFiles$Tree" "counters" "[I") (by decide +kernel)) (fun _ h9 => h9) rfl dX3_pad_20 ?_
  refine lv_iload_n hx hb dX3_pad_23 rfl (lv_at hl 1 rfl) ?_
  refine k_iald hx hb hK hP 2 0 rfl rfl b (by omega) (by omega) (v := C b) (rfl) dX3_pad_24 ?_
  refine lv_ldc (v := -2048144777) hx hb hown (hts (.constant RX3 106 (-2048144777)) (by decide +kernel)) dX3_pad_25 ?_
  refine lv_imul hx hb dX3_pad_27 ?_
  refine lv_ixor hx hb dX3_pad_28 ?_
  refine lv_iload_n hx hb dX3_pad_29 rfl (lv_at hl 2 rfl) ?_
  refine lv_iconst (v := nI 1) hx hb dX3_pad_30 (by decide) ?_
  refine lv_iadd hx hb dX3_pad_31 ?_
  refine lv_ldc (v := -1028477379) hx hb hown (hts (.constant RX3 107 (-1028477379)) (by decide +kernel)) dX3_pad_32 ?_
  refine lv_imul hx hb dX3_pad_34 ?_
  refine lv_ixor hx hb dX3_pad_35 ?_
  refine lv_topi (fun h0 eh0 => ?_)
  refine lv_istore_n (lv' := [(3, .int h0), (0, .ref t), (1, .int (nI b)), (2, .int (nI i))]) hx hb dX3_pad_36 rfl hl (by decide) rfl (fun ls hl => ?_)
  refine lv_iload_n hx hb dX3_pad_37 rfl (lv_at hl 0 rfl) ?_
  refine lv_iload_n hx hb dX3_pad_38 rfl (lv_at hl 0 rfl) ?_
  refine lv_bipush (v := nI 15) hx hb dX3_pad_39 (by decide) ?_
  refine lv_iushr (v := ush h0 (nI 15)) hx hb dX3_pad_41 rfl ?_
  refine lv_ixor hx hb dX3_pad_42 ?_
  refine lv_topi (fun h1 eh1 => ?_)
  refine lv_istore_n (lv' := [(3, .int h1), (0, .ref t), (1, .int (nI b)), (2, .int (nI i))]) hx hb dX3_pad_43 rfl hl (by decide) rfl (fun ls hl => ?_)
  refine lv_iload_n hx hb dX3_pad_44 rfl (lv_at hl 0 rfl) ?_
  refine lv_ldc (v := 739982445) hx hb hown (hts (.constant RX3 108 (739982445)) (by decide +kernel)) dX3_pad_45 ?_
  refine lv_imul hx hb dX3_pad_47 ?_
  refine lv_topi (fun h2 eh2 => ?_)
  refine lv_istore_n (lv' := [(3, .int h2), (0, .ref t), (1, .int (nI b)), (2, .int (nI i))]) hx hb dX3_pad_48 rfl hl (by decide) rfl (fun ls hl => ?_)
  refine lv_iload_n hx hb dX3_pad_49 rfl (lv_at hl 0 rfl) ?_
  refine lv_iload_n hx hb dX3_pad_50 rfl (lv_at hl 0 rfl) ?_
  refine lv_bipush (v := nI 12) hx hb dX3_pad_51 (by decide) ?_
  refine lv_iushr (v := ush h2 (nI 12)) hx hb dX3_pad_53 rfl ?_
  refine lv_ixor hx hb dX3_pad_54 ?_
  refine lv_topi (fun h3 eh3 => ?_)
  refine lv_istore_n (lv' := [(3, .int h3), (0, .ref t), (1, .int (nI b)), (2, .int (nI i))]) hx hb dX3_pad_55 rfl hl (by decide) rfl (fun ls hl => ?_)
  refine lv_iload_n hx hb dX3_pad_56 rfl (lv_at hl 0 rfl) ?_
  refine lv_ldc (v := 695872825) hx hb hown (hts (.constant RX3 109 (695872825)) (by decide +kernel)) dX3_pad_57 ?_
  refine lv_imul hx hb dX3_pad_59 ?_
  refine lv_topi (fun h4 eh4 => ?_)
  refine lv_istore_n (lv' := [(3, .int h4), (0, .ref t), (1, .int (nI b)), (2, .int (nI i))]) hx hb dX3_pad_60 rfl hl (by decide) rfl (fun ls hl => ?_)
  refine lv_iload_n hx hb dX3_pad_61 rfl (lv_at hl 0 rfl) ?_
  refine lv_iload_n hx hb dX3_pad_62 rfl (lv_at hl 0 rfl) ?_
  refine lv_bipush (v := nI 15) hx hb dX3_pad_63 (by decide) ?_
  refine lv_iushr (v := ush h4 (nI 15)) hx hb dX3_pad_65 rfl ?_
  refine lv_ixor hx hb dX3_pad_66 ?_
  refine lv_istore_n (lv' := [(3, .int (h4 ^^^ (ush h4 (nI 15)))), (0, .ref t), (1, .int (nI b)), (2, .int (nI i))]) hx hb dX3_pad_67 rfl hl (by decide) rfl (fun ls hl => ?_)
  refine lv_iload_n hx hb dX3_pad_68 rfl (lv_at hl 0 rfl) ?_
  exact k_reti () hx hb hr hK hS hlk dX3_pad_69 hP hD (by subst eh4; subst eh3; subst eh2; subst eh1; subst eh0; rfl) hQ

set_option maxHeartbeats 4000000 in
set_option maxRecDepth 100000 in
theorem c_slotStart (l : Launch) (D : va_G) (cI cZ cJ : ClassId)  (b sl : Nat)  : KI l yX3_slotStart wsX3_slotStart ({ frames := 0, cells := 0, slots := 0, locals := 0 }) D (kty cI cZ cJ) [.int (nI b), .int (nI sl)] (wN cI cZ cJ ) (fun r (_ : Unit) => r = nI (25 * b + 6 * sl)) (fun _ : Unit => (wN cI cZ cJ )) 0 0 := by
  refine k_headI (cc := cX3_slotStart) (maxL := 2) (ret := (some .int)) (by decide) rfl (Nat.le_of_ble_eq_true rfl) ?_
  intro p e s m below meth c A ls args Q hx hb hr hml hts hown hlk hnm hA hK hP hD hS hl hQ
  have hl : lv_has ls 2 [(0, .int (nI b)), (1, .int (nI sl))] := hl
  refine lv_iload_n hx hb dX3_slotStart_0 rfl (lv_at hl 0 rfl) ?_
  refine lv_bipush (v := nI 25) hx hb dX3_slotStart_1 (by decide) ?_
  refine lv_imul hx hb dX3_slotStart_3 ?_
  refine k_t1 (show (nI b) * (nI 25) = nI (b * 25) from pk_mul _ _) ?_
  refine lv_iload_n hx hb dX3_slotStart_4 rfl (lv_at hl 1 rfl) ?_
  refine lv_bipush (v := nI 6) hx hb dX3_slotStart_5 (by decide) ?_
  refine lv_imul hx hb dX3_slotStart_7 ?_
  refine k_t1 (show (nI sl) * (nI 6) = nI (sl * 6) from pk_mul _ _) ?_
  refine lv_iadd hx hb dX3_slotStart_8 ?_
  refine k_t1 (show (nI (b * 25)) + (nI (sl * 6)) = nI (b * 25 + (sl * 6)) from nI_add _ _) ?_
  refine k_t1 (show nI (b * 25 + (sl * 6)) = nI (25 * b + 6 * sl) from congrArg nI (by omega)) ?_
  exact k_reti () hx hb hr hK hS hlk dX3_slotStart_9 hP hD (rfl) hQ

set_option maxHeartbeats 4000000 in
set_option maxRecDepth 100000 in
theorem c_bucketOver (l : Launch) (D : va_G) (cI cZ cJ : ClassId) (t : Nat) (st : Nat) (ct : Nat) (hd : Nat) (lv : Nat) (wd : Nat) (num : Int32) (lc : Nat) (lvs : Nat) (nb : Nat) (nk : Nat) (key : Int32) (S : Nat → Nat → Int32) (C : Nat → Int32) (O : Nat → Int32) (L : Nat → Int32) (Wd : Nat → Nat → Int32) (l0 up : Nat) (hT : TP lc lvs nb nk) (hl0 : l0 < lc) (hup : up < lvs) : KI l yX3_bucketOver wsX3_bucketOver ({ frames := 0, cells := 0, slots := 0, locals := 0 }) D (kty cI cZ cJ) [.ref t, .int (nI l0), .int (nI up)] (wT cI cZ cJ t st ct hd lv wd num lc lvs nb nk key S C O L Wd) (fun r (_ : Unit) => r = nI (pathB lc l0 up)) (fun _ : Unit => (wT cI cZ cJ t st ct hd lv wd num lc lvs nb nk key S C O L Wd)) 0 0 := by
  refine k_headI (cc := cX3_bucketOver) (maxL := 3) (ret := (some .int)) (by decide) rfl (Nat.le_of_ble_eq_true rfl) ?_
  intro p e s m below meth c A ls args Q hx hb hr hml hts hown hlk hnm hA hK hP hD hS hl hQ
  have hq := hT.bd
  have hl : lv_has ls 3 [(0, .ref t), (1, .int (nI l0)), (2, .int (nI up))] := hl
  refine lv_aload_n hx hb dX3_bucketOver_0 rfl (lv_at hl 0 rfl) ?_
  refine va_get (D := D) (ci := 3) (v := .int (nI lc)) (C := RX3) (T := TX3) (N := 11) hx hb hts (by decide +kernel) hown hK hP 0 rfl rfl 1 (by decide) (hts (.fieldLink RX3 15 "VeiledFiles$Tree" "leafCount" "I") (by decide +kernel)) (fun _ h9 => h9) rfl dX3_bucketOver_1 ?_
  refine lv_iload_n hx hb dX3_bucketOver_4 rfl (lv_at hl 1 rfl) ?_
  refine lv_iadd hx hb dX3_bucketOver_5 ?_
  refine k_t1 (show (nI lc) + (nI l0) = nI (lc + l0) from nI_add _ _) ?_
  refine lv_iload_n hx hb dX3_bucketOver_6 rfl (lv_at hl 2 rfl) ?_
  refine lv_ishr hx hb dX3_bucketOver_7 ?_
  refine k_t1 (show (nI (lc + l0)) >>> ((nI up) &&& 31) = nI ((lc + l0) / 2 ^ up) from k_shr (by omega) (by omega)) ?_
  refine lv_iconst (v := nI 1) hx hb dX3_bucketOver_8 (by decide) ?_
  refine lv_isub hx hb dX3_bucketOver_9 ?_
  refine k_t1 (show (nI ((lc + l0) / 2 ^ up)) - (nI 1) = nI (pathB lc l0 up) from k_path hT hl0 hup) ?_
  exact k_reti () hx hb hr hK hS hlk dX3_bucketOver_10 hP hD (rfl) hQ

set_option maxHeartbeats 4000000 in
set_option maxRecDepth 100000 in
theorem c_wordOf (l : Launch) (D : va_G) (cI cZ cJ : ClassId) (t : Nat) (st : Nat) (ct : Nat) (hd : Nat) (lv : Nat) (wd : Nat) (num : Int32) (lc : Nat) (lvs : Nat) (nb : Nat) (nk : Nat) (key : Int32) (S : Nat → Nat → Int32) (C : Nat → Int32) (O : Nat → Int32) (L : Nat → Int32) (Wd : Nat → Nat → Int32) (n i : Nat) (hT : TP lc lvs nb nk) (hn : n < nk) (hi : i < 4) : KI l yX3_wordOf wsX3_wordOf ({ frames := 0, cells := 0, slots := 0, locals := 0 }) D (kty cI cZ cJ) [.ref t, .int (nI n), .int (nI i)] (wT cI cZ cJ t st ct hd lv wd num lc lvs nb nk key S C O L Wd) (fun r (_ : Unit) => r = Wd n i) (fun _ : Unit => (wT cI cZ cJ t st ct hd lv wd num lc lvs nb nk key S C O L Wd)) 0 0 := by
  refine k_headI (cc := cX3_wordOf) (maxL := 3) (ret := (some .int)) (by decide) rfl (Nat.le_of_ble_eq_true rfl) ?_
  intro p e s m below meth c A ls args Q hx hb hr hml hts hown hlk hnm hA hK hP hD hS hl hQ
  have hq := hT.bd
  have hl : lv_has ls 3 [(0, .ref t), (1, .int (nI n)), (2, .int (nI i))] := hl
  refine lv_aload_n hx hb dX3_wordOf_0 rfl (lv_at hl 0 rfl) ?_
  refine va_get (D := D) (ci := 3) (v := .ref wd) (C := RX3) (T := TX3) (N := 11) hx hb hts (by decide +kernel) hown hK hP 0 rfl rfl 9 (by decide) (hts (.fieldLink RX3 41 "VeiledFiles$Tree" "words" "[I") (by decide +kernel)) (fun _ h9 => h9) rfl dX3_wordOf_1 ?_
  refine lv_iload_n hx hb dX3_wordOf_4 rfl (lv_at hl 1 rfl) ?_
  refine lv_iconst (v := nI 4) hx hb dX3_wordOf_5 (by decide) ?_
  refine lv_imul hx hb dX3_wordOf_6 ?_
  refine k_t1 (show (nI n) * (nI 4) = nI (n * 4) from pk_mul _ _) ?_
  refine lv_iload_n hx hb dX3_wordOf_7 rfl (lv_at hl 2 rfl) ?_
  refine lv_iadd hx hb dX3_wordOf_8 ?_
  refine k_t1 (show (nI (n * 4)) + (nI i) = nI (n * 4 + i) from nI_add _ _) ?_
  refine k_iald hx hb hK hP 5 0 rfl rfl (n * 4 + i) (by omega) (by omega) (v := Wd n i) (fl4_eq (by omega) hi) dX3_wordOf_9 ?_
  exact k_reti () hx hb hr hK hS hlk dX3_wordOf_10 hP hD (rfl) hQ

set_option maxHeartbeats 4000000 in
set_option maxRecDepth 100000 in
theorem c_setWord (l : Launch) (D : va_G) (cI cZ cJ : ClassId) (t : Nat) (st : Nat) (ct : Nat) (hd : Nat) (lv : Nat) (wd : Nat) (num : Int32) (lc : Nat) (lvs : Nat) (nb : Nat) (nk : Nat) (key : Int32) (S : Nat → Nat → Int32) (C : Nat → Int32) (O : Nat → Int32) (L : Nat → Int32) (Wd : Nat → Nat → Int32) (n i : Nat) (v : Int32) (hT : TP lc lvs nb nk) (hn : n < nk) (hi : i < 4) : KV l yX3_setWord wsX3_setWord ({ frames := 0, cells := 0, slots := 0, locals := 0 }) D (kty cI cZ cJ) [.ref t, .int (nI n), .int (nI i), .int v] (wT cI cZ cJ t st ct hd lv wd num lc lvs nb nk key S C O L Wd) (fun (_ : Unit) => True) (fun _ : Unit => (wT cI cZ cJ t st ct hd lv wd num lc lvs nb nk key S C O L (setRow Wd n (upd (Wd n) i v)))) 0 0 := by
  refine k_headV (cc := cX3_setWord) (maxL := 4) (ret := none) (by decide) rfl (Nat.le_of_ble_eq_true rfl) ?_
  intro p e s m below meth c A ls args Q hx hb hr hml hts hown hlk hnm hA hK hP hD hS hl hQ
  have hq := hT.bd
  have hl : lv_has ls 4 [(0, .ref t), (1, .int (nI n)), (2, .int (nI i)), (3, .int v)] := hl
  refine lv_aload_n hx hb dX3_setWord_0 rfl (lv_at hl 0 rfl) ?_
  refine va_get (D := D) (ci := 3) (v := .ref wd) (C := RX3) (T := TX3) (N := 11) hx hb hts (by decide +kernel) hown hK hP 0 rfl rfl 9 (by decide) (hts (.fieldLink RX3 41 "VeiledFiles$Tree" "words" "[I") (by decide +kernel)) (fun _ h9 => h9) rfl dX3_setWord_1 ?_
  refine lv_iload_n hx hb dX3_setWord_4 rfl (lv_at hl 1 rfl) ?_
  refine lv_iconst (v := nI 4) hx hb dX3_setWord_5 (by decide) ?_
  refine lv_imul hx hb dX3_setWord_6 ?_
  refine k_t1 (show (nI n) * (nI 4) = nI (n * 4) from pk_mul _ _) ?_
  refine lv_iload_n hx hb dX3_setWord_7 rfl (lv_at hl 2 rfl) ?_
  refine lv_iadd hx hb dX3_setWord_8 ?_
  refine k_t1 (show (nI (n * 4)) + (nI i) = nI (n * 4 + i) from nI_add _ _) ?_
  refine lv_iload_n hx hb dX3_setWord_9 rfl (lv_at hl 3 rfl) ?_
  refine k_iast hx hb hK hP hD hS 5 0 rfl rfl (n * 4 + i) (by omega) (by omega) (g := fl4 (setRow Wd n (upd (Wd n) i v))) (fl4_up (by omega) hi) dX3_setWord_10 (fun H locs hP hD hS => ?_)
  have hP : va_P D vwCl (wT cI cZ cJ t st ct hd lv wd num lc lvs nb nk key S C O L (setRow Wd n (upd (Wd n) i v))) H := hP
  have hD : va_D A (wT cI cZ cJ t st ct hd lv wd num lc lvs nb nk key S C O L (setRow Wd n (upd (Wd n) i v))) := hD
  exact k_retv () hx hb hr hK hS hlk dX3_setWord_11 hP hD (trivial) hQ

set_option maxHeartbeats 4000000 in
set_option maxRecDepth 100000 in
theorem c_moveTo (l : Launch) (D : va_G) (cI cZ cJ : ClassId) (t : Nat) (st : Nat) (ct : Nat) (hd : Nat) (lv : Nat) (wd : Nat) (num : Int32) (lc : Nat) (lvs : Nat) (nb : Nat) (nk : Nat) (key : Int32) (S : Nat → Nat → Int32) (C : Nat → Int32) (O : Nat → Int32) (L : Nat → Int32) (Wd : Nat → Nat → Int32) (n : Nat) (v : Int32) (hT : TP lc lvs nb nk) (hn : n < nk) : KV l yX3_moveTo wsX3_moveTo ({ frames := 0, cells := 0, slots := 0, locals := 0 }) D (kty cI cZ cJ) [.ref t, .int (nI n), .int v] (wT cI cZ cJ t st ct hd lv wd num lc lvs nb nk key S C O L Wd) (fun (_ : Unit) => True) (fun _ : Unit => (wT cI cZ cJ t st ct hd lv wd num lc lvs nb nk key S C O (upd L n v) Wd)) 0 0 := by
  refine k_headV (cc := cX3_moveTo) (maxL := 3) (ret := none) (by decide) rfl (Nat.le_of_ble_eq_true rfl) ?_
  intro p e s m below meth c A ls args Q hx hb hr hml hts hown hlk hnm hA hK hP hD hS hl hQ
  have hq := hT.bd
  have hl : lv_has ls 3 [(0, .ref t), (1, .int (nI n)), (2, .int v)] := hl
  refine lv_aload_n hx hb dX3_moveTo_0 rfl (lv_at hl 0 rfl) ?_
  refine va_get (D := D) (ci := 3) (v := .ref lv) (C := RX3) (T := TX3) (N := 11) hx hb hts (by decide +kernel) hown hK hP 0 rfl rfl 8 (by decide) (hts (.fieldLink RX3 38 "VeiledFiles$Tree" "leaves" "[I") (by decide +kernel)) (fun _ h9 => h9) rfl dX3_moveTo_1 ?_
  refine lv_iload_n hx hb dX3_moveTo_4 rfl (lv_at hl 1 rfl) ?_
  refine lv_iload_n hx hb dX3_moveTo_5 rfl (lv_at hl 2 rfl) ?_
  refine k_iast hx hb hK hP hD hS 4 0 rfl rfl n (by omega) (by omega) (g := (upd L n v)) (rfl) dX3_moveTo_6 (fun H locs hP hD hS => ?_)
  have hP : va_P D vwCl (wT cI cZ cJ t st ct hd lv wd num lc lvs nb nk key S C O (upd L n v) Wd) H := hP
  have hD : va_D A (wT cI cZ cJ t st ct hd lv wd num lc lvs nb nk key S C O (upd L n v) Wd) := hD
  exact k_retv () hx hb hr hK hS hlk dX3_moveTo_7 hP hD (trivial) hQ

set_option maxHeartbeats 4000000 in
set_option maxRecDepth 100000 in
theorem c_storedWord (l : Launch) (D : va_G) (cI cZ cJ : ClassId) (t : Nat) (st : Nat) (ct : Nat) (hd : Nat) (lv : Nat) (wd : Nat) (num : Int32) (lc : Nat) (lvs : Nat) (nb : Nat) (nk : Nat) (key : Int32) (S : Nat → Nat → Int32) (C : Nat → Int32) (O : Nat → Int32) (L : Nat → Int32) (Wd : Nat → Nat → Int32) (b i : Nat) (hT : TP lc lvs nb nk) (hb0 : b < nb) (hi : i < 25) : KI l yX3_storedWord wsX3_storedWord ({ frames := 0, cells := 0, slots := 0, locals := 0 }) D (kty cI cZ cJ) [.ref t, .int (nI b), .int (nI i)] (wT cI cZ cJ t st ct hd lv wd num lc lvs nb nk key S C O L Wd) (fun r (_ : Unit) => r = S b i) (fun _ : Unit => (wT cI cZ cJ t st ct hd lv wd num lc lvs nb nk key S C O L Wd)) 0 0 := by
  refine k_headI (cc := cX3_storedWord) (maxL := 3) (ret := (some .int)) (by decide) rfl (Nat.le_of_ble_eq_true rfl) ?_
  intro p e s m below meth c A ls args Q hx hb hr hml hts hown hlk hnm hA hK hP hD hS hl hQ
  have hq := hT.bd
  have hl : lv_has ls 3 [(0, .ref t), (1, .int (nI b)), (2, .int (nI i))] := hl
  refine lv_aload_n hx hb dX3_storedWord_0 rfl (lv_at hl 0 rfl) ?_
  refine va_get (D := D) (ci := 3) (v := .ref st) (C := RX3) (T := TX3) (N := 11) hx hb hts (by decide +kernel) hown hK hP 0 rfl rfl 5 (by decide) (hts (.fieldLink RX3 27 "VeiledFiles$Tree" "store" "[I") (by decide +kernel)) (fun _ h9 => h9) rfl dX3_storedWord_1 ?_
  refine lv_iload_n hx hb dX3_storedWord_4 rfl (lv_at hl 1 rfl) ?_
  refine lv_bipush (v := nI 25) hx hb dX3_storedWord_5 (by decide) ?_
  refine lv_imul hx hb dX3_storedWord_7 ?_
  refine k_t1 (show (nI b) * (nI 25) = nI (b * 25) from pk_mul _ _) ?_
  refine lv_iload_n hx hb dX3_storedWord_8 rfl (lv_at hl 2 rfl) ?_
  refine lv_iadd hx hb dX3_storedWord_9 ?_
  refine k_t1 (show (nI (b * 25)) + (nI i) = nI (b * 25 + i) from nI_add _ _) ?_
  refine k_iald hx hb hK hP 1 0 rfl rfl (b * 25 + i) (by omega) (by omega) (v := S b i) (fl25_eq (by omega) hi) dX3_storedWord_10 ?_
  exact k_reti () hx hb hr hK hS hlk dX3_storedWord_11 hP hD (rfl) hQ

set_option maxHeartbeats 4000000 in
set_option maxRecDepth 100000 in
theorem c_timesSealed (l : Launch) (D : va_G) (cI cZ cJ : ClassId) (t : Nat) (st : Nat) (ct : Nat) (hd : Nat) (lv : Nat) (wd : Nat) (num : Int32) (lc : Nat) (lvs : Nat) (nb : Nat) (nk : Nat) (key : Int32) (S : Nat → Nat → Int32) (C : Nat → Int32) (O : Nat → Int32) (L : Nat → Int32) (Wd : Nat → Nat → Int32) (b : Nat) (hT : TP lc lvs nb nk) (hb0 : b < nb) : KI l yX3_timesSealed wsX3_timesSealed ({ frames := 0, cells := 0, slots := 0, locals := 0 }) D (kty cI cZ cJ) [.ref t, .int (nI b)] (wT cI cZ cJ t st ct hd lv wd num lc lvs nb nk key S C O L Wd) (fun r (_ : Unit) => r = C b) (fun _ : Unit => (wT cI cZ cJ t st ct hd lv wd num lc lvs nb nk key S C O L Wd)) 0 0 := by
  refine k_headI (cc := cX3_timesSealed) (maxL := 2) (ret := (some .int)) (by decide) rfl (Nat.le_of_ble_eq_true rfl) ?_
  intro p e s m below meth c A ls args Q hx hb hr hml hts hown hlk hnm hA hK hP hD hS hl hQ
  have hq := hT.bd
  have hl : lv_has ls 2 [(0, .ref t), (1, .int (nI b))] := hl
  refine lv_aload_n hx hb dX3_timesSealed_0 rfl (lv_at hl 0 rfl) ?_
  refine va_get (D := D) (ci := 3) (v := .ref ct) (C := RX3) (T := TX3) (N := 11) hx hb hts (by decide +kernel) hown hK hP 0 rfl rfl 6 (by decide) (hts (.fieldLink RX3 31 "VeiledFiles$Tree" "counters" "[I") (by decide +kernel)) (fun _ h9 => h9) rfl dX3_timesSealed_1 ?_
  refine lv_iload_n hx hb dX3_timesSealed_4 rfl (lv_at hl 1 rfl) ?_
  refine k_iald hx hb hK hP 2 0 rfl rfl b (by omega) (by omega) (v := C b) (rfl) dX3_timesSealed_5 ?_
  exact k_reti () hx hb hr hK hS hlk dX3_timesSealed_6 hP hD (rfl) hQ

set_option maxHeartbeats 4000000 in
set_option maxRecDepth 100000 in
theorem c_maskWords (l : Launch) (D : va_G) (cI cZ cJ : ClassId) (t : Nat) (st : Nat) (ct : Nat) (hd : Nat) (lv : Nat) (wd : Nat) (num : Int32) (lc : Nat) (lvs : Nat) (nb : Nat) (nk : Nat) (key : Int32) (S : Nat → Nat → Int32) (C : Nat → Int32) (O : Nat → Int32) (L : Nat → Int32) (Wd : Nat → Nat → Int32) (b : Nat) (hT : TP lc lvs nb nk) (hb0 : b < nb) : KV l yX3_maskWords wsX3_maskWords ({ frames := 1, cells := 0, slots := 0, locals := 23 }) D (kty cI cZ cJ) [.ref t, .int (nI b)] (wT cI cZ cJ t st ct hd lv wd num lc lvs nb nk key S C O L Wd) (fun (_ : Unit) => True) (fun _ : Unit => (wT cI cZ cJ t st ct hd lv wd num lc lvs nb nk key (setRow S b (maskR key num (C b) b (S b) 24)) C O L Wd)) 0 0 := by
  refine k_headV (cc := cX3_maskWords) (maxL := 4) (ret := none) (by decide) rfl (Nat.le_of_ble_eq_true rfl) ?_
  intro p e s m below meth c A ls args Q hx hb hr hml hts hown hlk hnm hA hK hP hD hS hl hQ
  have hq := hT.bd
  have hl : lv_has ls 4 [(0, .ref t), (1, .int (nI b))] := hl
  refine lv_iload_n hx hb dX3_maskWords_0 rfl (lv_at hl 1 rfl) ?_
  refine lv_bipush (v := nI 25) hx hb dX3_maskWords_1 (by decide) ?_
  refine lv_imul hx hb dX3_maskWords_3 ?_
  refine k_t1 (show (nI b) * (nI 25) = nI (b * 25) from pk_mul _ _) ?_
  refine lv_istore_n (lv' := [(2, .int (nI (b * 25))), (0, .ref t), (1, .int (nI b))]) hx hb dX3_maskWords_4 rfl hl (by decide) rfl (fun ls hl => ?_)
  refine lv_iconst (v := nI 0) hx hb dX3_maskWords_5 (by decide) ?_
  refine lv_istore_n (lv' := [(3, .int (nI 0)), (2, .int (nI (b * 25))), (0, .ref t), (1, .int (nI b))]) hx hb dX3_maskWords_6 rfl hl (by decide) rfl (fun ls hl => ?_)
  have hE1 : (wT cI cZ cJ t st ct hd lv wd num lc lvs nb nk key S C O L Wd) = (wT cI cZ cJ t st ct hd lv wd num lc lvs nb nk key (setRow S b (maskR key num (C b) b (S b) 0)) C O L Wd) := by rw [maskR_0, setRow_id]
  rw [hE1] at hP hD
  have L1 : ∀ (nf k : Nat) (hvL1 : k ≤ 24) (hFL1 : 24 - k < nf) (H : Heap) (locs : List Loc) (ls : Array Slot), va_P D vwCl (wT cI cZ cJ t st ct hd lv wd num lc lvs nb nk key (setRow S b (maskR key num (C b) b (S b) k)) C O L Wd) H → va_D A (wT cI cZ cJ t st ct hd lv wd num lc lvs nb nk key (setRow S b (maskR key num (C b) b (S b) k)) C O L Wd) → va_S A s.heap H locs → lv_has ls 4 [(0, .ref t), (1, .int (nI b)), (2, .int (nI (b * 25))), (3, .int (nI k))] → W p l e ({ frames := 1, cells := 0, slots := 0, locals := 23 } : Room) s m args below meth c H locs 0 0 Q (F0 m 7 ls []) := by
    intro nf
    induction nf with
    | zero => intro k  hvL1 hFL1; omega
    | succ nf ihL1 =>
      intro k  hvL1 hFL1  H locs ls hP hD hS hl
      refine lv_iload_n hx hb dX3_maskWords_7 rfl (lv_at hl 3 rfl) ?_
      refine lv_bipush (v := nI 24) hx hb dX3_maskWords_8 (by decide) ?_
      refine k_icmp_ge (tgt := 36) hx hb (by omega) (by omega) dX3_maskWords_10 (by decide) (fun c1 => ?_) (fun c1 => ?_)
      · skip
        obtain rfl : k = 24 := by omega
        exact k_retv () hx hb hr hK hS hlk dX3_maskWords_36 hP hD (trivial) hQ
      · skip
        refine lv_aload_n hx hb dX3_maskWords_13 rfl (lv_at hl 0 rfl) ?_
        refine va_get (D := D) (ci := 3) (v := .ref st) (C := RX3) (T := TX3) (N := 11) hx hb hts (by decide +kernel) hown hK hP 0 rfl rfl 5 (by decide) (hts (.fieldLink RX3 27 "VeiledFiles$Tree" "store" "[I") (by decide +kernel)) (fun _ h9 => h9) rfl dX3_maskWords_14 ?_
        refine lv_iload_n hx hb dX3_maskWords_17 rfl (lv_at hl 2 rfl) ?_
        refine lv_iload_n hx hb dX3_maskWords_18 rfl (lv_at hl 3 rfl) ?_
        refine lv_iadd hx hb dX3_maskWords_19 ?_
        refine k_t1 (show (nI (b * 25)) + (nI k) = nI (b * 25 + k) from nI_add _ _) ?_
        refine lv_dup2_11 hx hb dX3_maskWords_20 rfl rfl ?_
        refine k_iald hx hb hK hP 1 0 rfl rfl (b * 25 + k) (by omega) (by omega) (v := setRow S b (maskR key num (C b) b (S b) k) b k) (fl25_eq (b := b) (i := k) (by omega) (by omega)) dX3_maskWords_21 ?_
        refine lv_aload_n hx hb dX3_maskWords_22 rfl (lv_at hl 0 rfl) ?_
        refine lv_iload_n hx hb dX3_maskWords_23 rfl (lv_at hl 1 rfl) ?_
        refine lv_iload_n hx hb dX3_maskWords_24 rfl (lv_at hl 3 rfl) ?_
        refine k_vi (As := [.int (nI b), .int (nI k)]) (rest := [.int (setRow S b (maskR key num (C b) b (S b) k) b k), .int (nI (b * 25 + k)), .ref st]) (w2 := fun u : Unit => (wT cI cZ cJ t st ct hd lv wd num lc lvs nb nk key (setRow S b (maskR key num (C b) b (S b) k)) C O L Wd)) ⟨hx, hb, hml, hown, hts⟩ (c_pad l D cI cZ cJ t st ct hd lv wd num lc lvs nb nk key (setRow S b (maskR key num (C b) b (S b) k)) C O L Wd b k hT hb0) (cwV 2 hts gX3_maskWords_X3_pad rfl rfl rfl (by decide +kernel) ⟨Nat.le_of_ble_eq_true rfl, Nat.le_of_ble_eq_true rfl⟩) hP hD hK hS hA [0, 1, 2, 3, 4, 5] [] [0, 1, 2, 3, 4, 5] rfl rfl (by decide) (fun u => rfl) rfl rfl (q0 := 0) rfl rfl hl.1 rfl (Nat.le_of_ble_eq_true rfl) dX3_maskWords_25 ⟨Nat.le_of_ble_eq_true rfl, Nat.le_of_ble_eq_true rfl⟩ (fun r u H locs hu2 hP hD hS => ?_)
        obtain rfl : r = padF key num (C b) b k := hu2
        refine lv_ixor hx hb dX3_maskWords_28 ?_
        refine k_iast hx hb hK hP hD hS 1 0 rfl rfl (b * 25 + k) (by omega) (by omega) (g := fl25 (setRow S b (maskR key num (C b) b (S b) (k + 1)))) ((fl25_up (b := b) (i := k) (by omega) (by omega)).trans (by rw [setRow_s, setRow_2, maskR_s])) dX3_maskWords_29 (fun H locs hP hD hS => ?_)
        have hP : va_P D vwCl (wT cI cZ cJ t st ct hd lv wd num lc lvs nb nk key (setRow S b (maskR key num (C b) b (S b) (k + 1))) C O L Wd) H := hP
        have hD : va_D A (wT cI cZ cJ t st ct hd lv wd num lc lvs nb nk key (setRow S b (maskR key num (C b) b (S b) (k + 1))) C O L Wd) := hD
        refine lv_iinc (v := nI (k + 1)) (lv' := [(3, .int (nI (k + 1))), (0, .ref t), (1, .int (nI b)), (2, .int (nI (b * 25)))]) hx hb dX3_maskWords_30 hl (k := 3) rfl (nI_add k 1) (by decide) rfl (fun ls hl => ?_)
        refine lv_goto (tgt := 7) hx hb dX3_maskWords_33 (by decide) ?_
        exact ihL1 (k + 1)  (by omega) (by omega)  _ _ _ hP hD hS (lv_sub hl [1, 2, 3, 0] rfl)
  exact L1 (24 + 1) 0  (by omega) (by omega)  _ _ _ hP hD hS (lv_sub hl [2, 3, 1, 0] rfl)

set_option maxHeartbeats 4000000 in
set_option maxRecDepth 100000 in
theorem c_tagDue (l : Launch) (D : va_G) (cI cZ cJ : ClassId) (t : Nat) (st : Nat) (ct : Nat) (hd : Nat) (lv : Nat) (wd : Nat) (num : Int32) (lc : Nat) (lvs : Nat) (nb : Nat) (nk : Nat) (key : Int32) (S : Nat → Nat → Int32) (C : Nat → Int32) (O : Nat → Int32) (L : Nat → Int32) (Wd : Nat → Nat → Int32) (b : Nat) (hT : TP lc lvs nb nk) (hb0 : b < nb) : KI l yX3_tagDue wsX3_tagDue ({ frames := 1, cells := 0, slots := 0, locals := 23 }) D (kty cI cZ cJ) [.ref t, .int (nI b)] (wT cI cZ cJ t st ct hd lv wd num lc lvs nb nk key S C O L Wd) (fun r (_ : Unit) => r = tagF key num (C b) b (S b)) (fun _ : Unit => (wT cI cZ cJ t st ct hd lv wd num lc lvs nb nk key S C O L Wd)) 0 0 := by
  refine k_headI (cc := cX3_tagDue) (maxL := 5) (ret := (some .int)) (by decide) rfl (Nat.le_of_ble_eq_true rfl) ?_
  intro p e s m below meth c A ls args Q hx hb hr hml hts hown hlk hnm hA hK hP hD hS hl hQ
  have hq := hT.bd
  have hl : lv_has ls 5 [(0, .ref t), (1, .int (nI b))] := hl
  refine lv_iload_n hx hb dX3_tagDue_0 rfl (lv_at hl 1 rfl) ?_
  refine lv_bipush (v := nI 25) hx hb dX3_tagDue_1 (by decide) ?_
  refine lv_imul hx hb dX3_tagDue_3 ?_
  refine k_t1 (show (nI b) * (nI 25) = nI (b * 25) from pk_mul _ _) ?_
  refine lv_istore_n (lv' := [(2, .int (nI (b * 25))), (0, .ref t), (1, .int (nI b))]) hx hb dX3_tagDue_4 rfl hl (by decide) rfl (fun ls hl => ?_)
  refine lv_aload_n hx hb dX3_tagDue_5 rfl (lv_at hl 1 rfl) ?_
  refine lv_iload_n hx hb dX3_tagDue_6 rfl (lv_at hl 2 rfl) ?_
  refine lv_bipush (v := nI 24) hx hb dX3_tagDue_7 (by decide) ?_
  refine k_vi (As := [.int (nI b), .int (nI 24)]) (rest := []) (w2 := fun u : Unit => (wT cI cZ cJ t st ct hd lv wd num lc lvs nb nk key S C O L Wd)) ⟨hx, hb, hml, hown, hts⟩ (c_pad l D cI cZ cJ t st ct hd lv wd num lc lvs nb nk key S C O L Wd b 24 hT hb0) (cwV 2 hts gX3_tagDue_X3_pad rfl rfl rfl (by decide +kernel) ⟨Nat.le_of_ble_eq_true rfl, Nat.le_of_ble_eq_true rfl⟩) hP hD hK hS hA [0, 1, 2, 3, 4, 5] [] [0, 1, 2, 3, 4, 5] rfl rfl (by decide) (fun u => rfl) rfl rfl (q0 := 0) rfl rfl hl.1 rfl (Nat.le_of_ble_eq_true rfl) dX3_tagDue_9 ⟨Nat.le_of_ble_eq_true rfl, Nat.le_of_ble_eq_true rfl⟩ (fun r u H locs hu1 hP hD hS => ?_)
  obtain rfl : r = padF key num (C b) b 24 := hu1
  refine lv_istore_n (lv' := [(3, .int (padF key num (C b) b 24)), (2, .int (nI (b * 25))), (0, .ref t), (1, .int (nI b))]) hx hb dX3_tagDue_12 rfl hl (by decide) rfl (fun ls hl => ?_)
  refine lv_iconst (v := nI 0) hx hb dX3_tagDue_13 (by decide) ?_
  refine lv_istore (lv' := [(4, .int (nI 0)), (3, .int (padF key num (C b) b 24)), (2, .int (nI (b * 25))), (0, .ref t), (1, .int (nI b))]) hx hb dX3_tagDue_14 hl (by decide) rfl (fun ls hl => ?_)
  have L1 : ∀ (nf k : Nat) (hvL1 : k ≤ 24) (hFL1 : 24 - k < nf) (H : Heap) (locs : List Loc) (ls : Array Slot), va_P D vwCl (wT cI cZ cJ t st ct hd lv wd num lc lvs nb nk key S C O L Wd) H → va_D A (wT cI cZ cJ t st ct hd lv wd num lc lvs nb nk key S C O L Wd) → va_S A s.heap H locs → lv_has ls 5 [(0, .ref t), (1, .int (nI b)), (2, .int (nI (b * 25))), (3, .int (tagN (padF key num (C b) b 24) (S b) k)), (4, .int (nI k))] → W p l e ({ frames := 1, cells := 0, slots := 0, locals := 23 } : Room) s m args below meth c H locs 0 0 Q (F0 m 16 ls []) := by
    intro nf
    induction nf with
    | zero => intro k  hvL1 hFL1; omega
    | succ nf ihL1 =>
      intro k  hvL1 hFL1  H locs ls hP hD hS hl
      refine lv_iload hx hb dX3_tagDue_16 (lv_at hl 4 rfl) ?_
      refine lv_bipush (v := nI 24) hx hb dX3_tagDue_18 (by decide) ?_
      refine k_icmp_ge (tgt := 44) hx hb (by omega) (by omega) dX3_tagDue_20 (by decide) (fun c1 => ?_) (fun c1 => ?_)
      · skip
        obtain rfl : k = 24 := by omega
        refine lv_iload_n hx hb dX3_tagDue_44 rfl (lv_at hl 3 rfl) ?_
        exact k_reti () hx hb hr hK hS hlk dX3_tagDue_45 hP hD (rfl) hQ
      · skip
        refine lv_iload_n hx hb dX3_tagDue_23 rfl (lv_at hl 3 rfl) ?_
        refine lv_aload_n hx hb dX3_tagDue_24 rfl (lv_at hl 0 rfl) ?_
        refine va_get (D := D) (ci := 3) (v := .ref st) (C := RX3) (T := TX3) (N := 11) hx hb hts (by decide +kernel) hown hK hP 0 rfl rfl 5 (by decide) (hts (.fieldLink RX3 27 "VeiledFiles$Tree" "store" "[I") (by decide +kernel)) (fun _ h9 => h9) rfl dX3_tagDue_25 ?_
        refine lv_iload_n hx hb dX3_tagDue_28 rfl (lv_at hl 2 rfl) ?_
        refine lv_iload hx hb dX3_tagDue_29 (lv_at hl 4 rfl) ?_
        refine lv_iadd hx hb dX3_tagDue_31 ?_
        refine k_t1 (show (nI (b * 25)) + (nI k) = nI (b * 25 + k) from nI_add _ _) ?_
        refine k_iald hx hb hK hP 1 0 rfl rfl (b * 25 + k) (by omega) (by omega) (v := S b k) (fl25_eq (b := b) (i := k) (by omega) (by omega)) dX3_tagDue_32 ?_
        refine lv_ixor hx hb dX3_tagDue_33 ?_
        refine lv_ldc (v := 16777619) hx hb hown (hts (.constant RX3 104 (16777619)) (by decide +kernel)) dX3_tagDue_34 ?_
        refine lv_imul hx hb dX3_tagDue_36 ?_
        refine lv_istore_n (lv' := [(3, .int (((tagN (padF key num (C b) b 24) (S b) k) ^^^ (S b k)) * (16777619))), (0, .ref t), (1, .int (nI b)), (2, .int (nI (b * 25))), (4, .int (nI k))]) hx hb dX3_tagDue_37 rfl hl (by decide) rfl (fun ls hl => ?_)
        refine lv_iinc (v := nI (k + 1)) (lv' := [(4, .int (nI (k + 1))), (3, .int (((tagN (padF key num (C b) b 24) (S b) k) ^^^ (S b k)) * (16777619))), (0, .ref t), (1, .int (nI b)), (2, .int (nI (b * 25)))]) hx hb dX3_tagDue_38 hl (k := 4) rfl (nI_add k 1) (by decide) rfl (fun ls hl => ?_)
        refine lv_goto (tgt := 16) hx hb dX3_tagDue_41 (by decide) ?_
        exact ihL1 (k + 1)  (by omega) (by omega)  _ _ _ hP hD hS (lv_sub hl [2, 3, 4, 1, 0] rfl)
  exact L1 (24 + 1) 0  (by omega) (by omega)  _ _ _ hP hD hS (lv_sub hl [3, 4, 2, 1, 0] rfl)

set_option maxHeartbeats 4000000 in
set_option maxRecDepth 100000 in
theorem c_isWhole (l : Launch) (D : va_G) (cI cZ cJ : ClassId) (t : Nat) (st : Nat) (ct : Nat) (hd : Nat) (lv : Nat) (wd : Nat) (num : Int32) (lc : Nat) (lvs : Nat) (nb : Nat) (nk : Nat) (key : Int32) (S : Nat → Nat → Int32) (C : Nat → Int32) (O : Nat → Int32) (L : Nat → Int32) (Wd : Nat → Nat → Int32) (b : Nat) (hT : TP lc lvs nb nk) (hb0 : b < nb) : KI l yX3_isWhole wsX3_isWhole ({ frames := 2, cells := 0, slots := 0, locals := 47 }) D (kty cI cZ cJ) [.ref t, .int (nI b)] (wT cI cZ cJ t st ct hd lv wd num lc lvs nb nk key S C O L Wd) (fun r (_ : Unit) => (r = 1 ∧ wholeB key num C S b) ∨ (r = 0 ∧ ¬ wholeB key num C S b)) (fun _ : Unit => (wT cI cZ cJ t st ct hd lv wd num lc lvs nb nk key S C O L Wd)) 0 0 := by
  refine k_headI (cc := cX3_isWhole) (maxL := 2) (ret := (some .boolean)) (by decide) rfl (Nat.le_of_ble_eq_true rfl) ?_
  intro p e s m below meth c A ls args Q hx hb hr hml hts hown hlk hnm hA hK hP hD hS hl hQ
  have hq := hT.bd
  have hl : lv_has ls 2 [(0, .ref t), (1, .int (nI b))] := hl
  refine lv_aload_n hx hb dX3_isWhole_0 rfl (lv_at hl 0 rfl) ?_
  refine va_get (D := D) (ci := 3) (v := .ref st) (C := RX3) (T := TX3) (N := 11) hx hb hts (by decide +kernel) hown hK hP 0 rfl rfl 5 (by decide) (hts (.fieldLink RX3 27 "VeiledFiles$Tree" "store" "[I") (by decide +kernel)) (fun _ h9 => h9) rfl dX3_isWhole_1 ?_
  refine lv_iload_n hx hb dX3_isWhole_4 rfl (lv_at hl 1 rfl) ?_
  refine lv_bipush (v := nI 25) hx hb dX3_isWhole_5 (by decide) ?_
  refine lv_imul hx hb dX3_isWhole_7 ?_
  refine k_t1 (show (nI b) * (nI 25) = nI (b * 25) from pk_mul _ _) ?_
  refine lv_bipush (v := nI 24) hx hb dX3_isWhole_8 (by decide) ?_
  refine lv_iadd hx hb dX3_isWhole_10 ?_
  refine k_t1 (show (nI (b * 25)) + (nI 24) = nI (b * 25 + 24) from nI_add _ _) ?_
  refine k_iald hx hb hK hP 1 0 rfl rfl (b * 25 + 24) (by omega) (by omega) (v := S b 24) (fl25_eq (b := b) (i := 24) (by omega) (by omega)) dX3_isWhole_11 ?_
  refine lv_aload_n hx hb dX3_isWhole_12 rfl (lv_at hl 0 rfl) ?_
  refine lv_iload_n hx hb dX3_isWhole_13 rfl (lv_at hl 1 rfl) ?_
  refine k_vi (As := [.int (nI b)]) (rest := [.int (S b 24)]) (w2 := fun u : Unit => (wT cI cZ cJ t st ct hd lv wd num lc lvs nb nk key S C O L Wd)) ⟨hx, hb, hml, hown, hts⟩ (c_tagDue l D cI cZ cJ t st ct hd lv wd num lc lvs nb nk key S C O L Wd b hT hb0) (cwV 1 hts gX3_isWhole_X3_tagDue rfl rfl rfl (by decide +kernel) ⟨Nat.le_of_ble_eq_true rfl, Nat.le_of_ble_eq_true rfl⟩) hP hD hK hS hA [0, 1, 2, 3, 4, 5] [] [0, 1, 2, 3, 4, 5] rfl rfl (by decide) (fun u => rfl) rfl rfl (q0 := 0) rfl rfl hl.1 rfl (Nat.le_of_ble_eq_true rfl) dX3_isWhole_14 ⟨Nat.le_of_ble_eq_true rfl, Nat.le_of_ble_eq_true rfl⟩ (fun r u H locs hu1 hP hD hS => ?_)
  obtain rfl : r = tagF key num (C b) b (S b) := hu1
  refine lv_icmp_ne (tgt := 24) hx hb dX3_isWhole_17 (by decide) (fun c1 => ?_) (fun c1 => ?_)
  · skip
    refine lv_iconst (v := nI 0) hx hb dX3_isWhole_24 (by decide) ?_
    exact k_retz () hx hb hr hK hS hlk dX3_isWhole_25 ((by first | exact Or.inl rfl | exact Or.inr rfl)) hP hD (Or.inr ⟨rfl, c1⟩) hQ
  · skip
    refine lv_iconst (v := nI 1) hx hb dX3_isWhole_20 (by decide) ?_
    refine lv_goto (tgt := 25) hx hb dX3_isWhole_21 (by decide) ?_
    exact k_retz () hx hb hr hK hS hlk dX3_isWhole_25 ((by first | exact Or.inl rfl | exact Or.inr rfl)) hP hD (Or.inl ⟨rfl, c1⟩) hQ

set_option maxHeartbeats 4000000 in
set_option maxRecDepth 100000 in
theorem c_seal (l : Launch) (D : va_G) (cI cZ cJ : ClassId) (t : Nat) (st : Nat) (ct : Nat) (hd : Nat) (lv : Nat) (wd : Nat) (num : Int32) (lc : Nat) (lvs : Nat) (nb : Nat) (nk : Nat) (key : Int32) (S : Nat → Nat → Int32) (C : Nat → Int32) (O : Nat → Int32) (L : Nat → Int32) (Wd : Nat → Nat → Int32) (b : Nat) (hT : TP lc lvs nb nk) (hb0 : b < nb) : KV l yX3_seal wsX3_seal ({ frames := 2, cells := 0, slots := 0, locals := 47 }) D (kty cI cZ cJ) [.ref t, .int (nI b)] (wT cI cZ cJ t st ct hd lv wd num lc lvs nb nk key S C O L Wd) (fun (_ : Unit) => True) (fun _ : Unit => (wT cI cZ cJ t st ct hd lv wd num lc lvs nb nk key (setRow S b (sealR key num (C b) b (S b))) C O L Wd)) 0 0 := by
  refine k_headV (cc := cX3_seal) (maxL := 2) (ret := none) (by decide) rfl (Nat.le_of_ble_eq_true rfl) ?_
  intro p e s m below meth c A ls args Q hx hb hr hml hts hown hlk hnm hA hK hP hD hS hl hQ
  have hq := hT.bd
  have hl : lv_has ls 2 [(0, .ref t), (1, .int (nI b))] := hl
  refine lv_aload_n hx hb dX3_seal_0 rfl (lv_at hl 0 rfl) ?_
  refine lv_iload_n hx hb dX3_seal_1 rfl (lv_at hl 1 rfl) ?_
  refine k_vv (As := [.int (nI b)]) (rest := []) (w2 := fun u : Unit => (wT cI cZ cJ t st ct hd lv wd num lc lvs nb nk key (setRow S b (maskR key num (C b) b (S b) 24)) C O L Wd)) ⟨hx, hb, hml, hown, hts⟩ (c_maskWords l D cI cZ cJ t st ct hd lv wd num lc lvs nb nk key S C O L Wd b hT hb0) (cwV 1 hts gX3_seal_X3_maskWords rfl rfl rfl (by decide +kernel) ⟨Nat.le_of_ble_eq_true rfl, Nat.le_of_ble_eq_true rfl⟩) hP hD hK hS hA [0, 1, 2, 3, 4, 5] [] [0, 1, 2, 3, 4, 5] rfl rfl (by decide) (fun u => rfl) rfl rfl (q0 := 0) rfl rfl hl.1 rfl (Nat.le_of_ble_eq_true rfl) dX3_seal_2 ⟨Nat.le_of_ble_eq_true rfl, Nat.le_of_ble_eq_true rfl⟩ (fun u H locs hu1 hP hD hS => ?_)
  refine lv_aload_n hx hb dX3_seal_5 rfl (lv_at hl 0 rfl) ?_
  refine va_get (D := D) (ci := 3) (v := .ref st) (C := RX3) (T := TX3) (N := 11) hx hb hts (by decide +kernel) hown hK hP 0 rfl rfl 5 (by decide) (hts (.fieldLink RX3 27 "VeiledFiles$Tree" "store" "[I") (by decide +kernel)) (fun _ h9 => h9) rfl dX3_seal_6 ?_
  refine lv_iload_n hx hb dX3_seal_9 rfl (lv_at hl 1 rfl) ?_
  refine lv_bipush (v := nI 25) hx hb dX3_seal_10 (by decide) ?_
  refine lv_imul hx hb dX3_seal_12 ?_
  refine k_t1 (show (nI b) * (nI 25) = nI (b * 25) from pk_mul _ _) ?_
  refine lv_bipush (v := nI 24) hx hb dX3_seal_13 (by decide) ?_
  refine lv_iadd hx hb dX3_seal_15 ?_
  refine k_t1 (show (nI (b * 25)) + (nI 24) = nI (b * 25 + 24) from nI_add _ _) ?_
  refine lv_aload_n hx hb dX3_seal_16 rfl (lv_at hl 0 rfl) ?_
  refine lv_iload_n hx hb dX3_seal_17 rfl (lv_at hl 1 rfl) ?_
  refine k_vi (As := [.int (nI b)]) (rest := [.int (nI (b * 25 + 24)), .ref st]) (w2 := fun u : Unit => (wT cI cZ cJ t st ct hd lv wd num lc lvs nb nk key (setRow S b (maskR key num (C b) b (S b) 24)) C O L Wd)) ⟨hx, hb, hml, hown, hts⟩ (c_tagDue l D cI cZ cJ t st ct hd lv wd num lc lvs nb nk key (setRow S b (maskR key num (C b) b (S b) 24)) C O L Wd b hT hb0) (cwV 1 hts gX3_seal_X3_tagDue rfl rfl rfl (by decide +kernel) ⟨Nat.le_of_ble_eq_true rfl, Nat.le_of_ble_eq_true rfl⟩) hP hD hK hS hA [0, 1, 2, 3, 4, 5] [] [0, 1, 2, 3, 4, 5] rfl rfl (by decide) (fun u => rfl) rfl rfl (q0 := 0) rfl rfl hl.1 rfl (Nat.le_of_ble_eq_true rfl) dX3_seal_18 ⟨Nat.le_of_ble_eq_true rfl, Nat.le_of_ble_eq_true rfl⟩ (fun r u H locs hu2 hP hD hS => ?_)
  obtain rfl : r = tagF key num (C b) b (setRow S b (maskR key num (C b) b (S b) 24) b) := hu2
  refine k_iast hx hb hK hP hD hS 1 0 rfl rfl (b * 25 + 24) (by omega) (by omega) (g := fl25 (setRow S b (sealR key num (C b) b (S b)))) ((fl25_up (b := b) (i := 24) (by omega) (by omega)).trans (by rw [setRow_s, setRow_2]; rfl)) dX3_seal_21 (fun H locs hP hD hS => ?_)
  have hP : va_P D vwCl (wT cI cZ cJ t st ct hd lv wd num lc lvs nb nk key (setRow S b (sealR key num (C b) b (S b))) C O L Wd) H := hP
  have hD : va_D A (wT cI cZ cJ t st ct hd lv wd num lc lvs nb nk key (setRow S b (sealR key num (C b) b (S b))) C O L Wd) := hD
  exact k_retv () hx hb hr hK hS hlk dX3_seal_22 hP hD (trivial) hQ
end
section
set_option maxHeartbeats 4000000 in
set_option maxRecDepth 100000 in
theorem c_hasBucket_y (l : Launch) (D : va_G) (cI cZ cJ : ClassId) (t : Nat) (st : Nat) (ct : Nat) (hd : Nat) (lv : Nat) (wd : Nat) (num : Int32) (lc : Nat) (lvs : Nat) (nb : Nat) (nk : Nat) (key : Int32) (S : Nat → Nat → Int32) (C : Nat → Int32) (O : Nat → Int32) (L : Nat → Int32) (Wd : Nat → Nat → Int32) (b : Nat) (hT : TP lc lvs nb nk) (hb0 : b < nb) : KI l yX3_hasBucket wsX3_hasBucket ({ frames := 0, cells := 0, slots := 0, locals := 0 }) D (kty cI cZ cJ) [.ref t, .int (nI b)] (wT cI cZ cJ t st ct hd lv wd num lc lvs nb nk key S C O L Wd) (fun r (_ : Unit) => r = 1) (fun _ : Unit => (wT cI cZ cJ t st ct hd lv wd num lc lvs nb nk key S C O L Wd)) 0 0 := by
  refine k_headI (cc := cX3_hasBucket) (maxL := 2) (ret := (some .boolean)) (by decide) rfl (Nat.le_of_ble_eq_true rfl) ?_
  intro p e s m below meth c A ls args Q hx hb hr hml hts hown hlk hnm hA hK hP hD hS hl hQ
  have hq := hT.bd
  have hl : lv_has ls 2 [(0, .ref t), (1, .int (nI b))] := hl
  refine lv_iload_n hx hb dX3_hasBucket_0 rfl (lv_at hl 1 rfl) ?_
  refine lv_if_lt (tgt := 16) hx hb dX3_hasBucket_1 (by decide) (fun c1 => ?_) (fun c1 => ?_)
  · skip
    exact absurd c1 (nI_pos (by omega))
  · skip
    refine lv_iload_n hx hb dX3_hasBucket_4 rfl (lv_at hl 1 rfl) ?_
    refine lv_aload_n hx hb dX3_hasBucket_5 rfl (lv_at hl 0 rfl) ?_
    refine va_get (D := D) (ci := 3) (v := .int (nI nb)) (C := RX3) (T := TX3) (N := 11) hx hb hts (by decide +kernel) hown hK hP 0 rfl rfl 3 (by decide) (hts (.fieldLink RX3 21 "VeiledFiles$Tree" "buckets" "I") (by decide +kernel)) (fun _ h9 => h9) rfl dX3_hasBucket_6 ?_
    refine k_icmp_ge (tgt := 16) hx hb (by omega) (by omega) dX3_hasBucket_9 (by decide) (fun c2 => ?_) (fun c2 => ?_)
    · skip
      omega
    · skip
      refine lv_iconst (v := nI 1) hx hb dX3_hasBucket_12 (by decide) ?_
      refine lv_goto (tgt := 17) hx hb dX3_hasBucket_13 (by decide) ?_
      exact k_retz () hx hb hr hK hS hlk dX3_hasBucket_17 ((by first | exact Or.inl rfl | exact Or.inr rfl)) hP hD (rfl) hQ

set_option maxHeartbeats 4000000 in
set_option maxRecDepth 100000 in
theorem c_hasBucket_n (l : Launch) (D : va_G) (cI cZ cJ : ClassId) (t : Nat) (st : Nat) (ct : Nat) (hd : Nat) (lv : Nat) (wd : Nat) (num : Int32) (lc : Nat) (lvs : Nat) (nb : Nat) (nk : Nat) (key : Int32) (S : Nat → Nat → Int32) (C : Nat → Int32) (O : Nat → Int32) (L : Nat → Int32) (Wd : Nat → Nat → Int32) (x : Int32) (hT : TP lc lvs nb nk) (hx0 : noB nb x = true) : KI l yX3_hasBucket wsX3_hasBucket ({ frames := 0, cells := 0, slots := 0, locals := 0 }) D (kty cI cZ cJ) [.ref t, .int x] (wT cI cZ cJ t st ct hd lv wd num lc lvs nb nk key S C O L Wd) (fun r (_ : Unit) => r = 0) (fun _ : Unit => (wT cI cZ cJ t st ct hd lv wd num lc lvs nb nk key S C O L Wd)) 0 0 := by
  refine k_headI (cc := cX3_hasBucket) (maxL := 2) (ret := (some .boolean)) (by decide) rfl (Nat.le_of_ble_eq_true rfl) ?_
  intro p e s m below meth c A ls args Q hx hb hr hml hts hown hlk hnm hA hK hP hD hS hl hQ
  have hq := hT.bd
  have hl : lv_has ls 2 [(0, .ref t), (1, .int x)] := hl
  refine lv_iload_n hx hb dX3_hasBucket_0 rfl (lv_at hl 1 rfl) ?_
  refine lv_if_lt (tgt := 16) hx hb dX3_hasBucket_1 (by decide) (fun c1 => ?_) (fun c1 => ?_)
  · skip
    refine lv_iconst (v := nI 0) hx hb dX3_hasBucket_16 (by decide) ?_
    exact k_retz () hx hb hr hK hS hlk dX3_hasBucket_17 ((by first | exact Or.inl rfl | exact Or.inr rfl)) hP hD (rfl) hQ
  · skip
    refine lv_iload_n hx hb dX3_hasBucket_4 rfl (lv_at hl 1 rfl) ?_
    refine lv_aload_n hx hb dX3_hasBucket_5 rfl (lv_at hl 0 rfl) ?_
    refine va_get (D := D) (ci := 3) (v := .int (nI nb)) (C := RX3) (T := TX3) (N := 11) hx hb hts (by decide +kernel) hown hK hP 0 rfl rfl 3 (by decide) (hts (.fieldLink RX3 21 "VeiledFiles$Tree" "buckets" "I") (by decide +kernel)) (fun _ h9 => h9) rfl dX3_hasBucket_6 ?_
    refine lv_icmp_ge (tgt := 16) hx hb dX3_hasBucket_9 (by decide) (fun c2 => ?_) (fun c2 => ?_)
    · skip
      refine lv_iconst (v := nI 0) hx hb dX3_hasBucket_16 (by decide) ?_
      exact k_retz () hx hb hr hK hS hlk dX3_hasBucket_17 ((by first | exact Or.inl rfl | exact Or.inr rfl)) hP hD (rfl) hQ
    · skip
      exact absurd hx0 (by simp [noB, c1, c2])

set_option maxHeartbeats 4000000 in
set_option maxRecDepth 100000 in
theorem c_hasStored_y (l : Launch) (D : va_G) (cI cZ cJ : ClassId) (t : Nat) (st : Nat) (ct : Nat) (hd : Nat) (lv : Nat) (wd : Nat) (num : Int32) (lc : Nat) (lvs : Nat) (nb : Nat) (nk : Nat) (key : Int32) (S : Nat → Nat → Int32) (C : Nat → Int32) (O : Nat → Int32) (L : Nat → Int32) (Wd : Nat → Nat → Int32) (b i : Nat) (hT : TP lc lvs nb nk) (hb0 : b < nb) (hi : i < 25) : KI l yX3_hasStored wsX3_hasStored ({ frames := 1, cells := 0, slots := 0, locals := 21 }) D (kty cI cZ cJ) [.ref t, .int (nI b), .int (nI i)] (wT cI cZ cJ t st ct hd lv wd num lc lvs nb nk key S C O L Wd) (fun r (_ : Unit) => r = 1) (fun _ : Unit => (wT cI cZ cJ t st ct hd lv wd num lc lvs nb nk key S C O L Wd)) 0 0 := by
  refine k_headI (cc := cX3_hasStored) (maxL := 3) (ret := (some .boolean)) (by decide) rfl (Nat.le_of_ble_eq_true rfl) ?_
  intro p e s m below meth c A ls args Q hx hb hr hml hts hown hlk hnm hA hK hP hD hS hl hQ
  have hq := hT.bd
  have hl : lv_has ls 3 [(0, .ref t), (1, .int (nI b)), (2, .int (nI i))] := hl
  refine lv_aload_n hx hb dX3_hasStored_0 rfl (lv_at hl 0 rfl) ?_
  refine lv_iload_n hx hb dX3_hasStored_1 rfl (lv_at hl 1 rfl) ?_
  refine k_vi (As := [.int (nI b)]) (rest := []) (w2 := fun u : Unit => (wT cI cZ cJ t st ct hd lv wd num lc lvs nb nk key S C O L Wd)) ⟨hx, hb, hml, hown, hts⟩ (c_hasBucket_y l D cI cZ cJ t st ct hd lv wd num lc lvs nb nk key S C O L Wd b hT hb0) (cwV 1 hts gX3_hasStored_X3_hasBucket rfl rfl rfl (by decide +kernel) ⟨Nat.le_of_ble_eq_true rfl, Nat.le_of_ble_eq_true rfl⟩) hP hD hK hS hA [0, 1, 2, 3, 4, 5] [] [0, 1, 2, 3, 4, 5] rfl rfl (by decide) (fun u => rfl) rfl rfl (q0 := 0) rfl rfl hl.1 rfl (Nat.le_of_ble_eq_true rfl) dX3_hasStored_2 ⟨Nat.le_of_ble_eq_true rfl, Nat.le_of_ble_eq_true rfl⟩ (fun r u H locs hu1 hP hD hS => ?_)
  obtain rfl : r = 1 := hu1
  refine lv_if_eq (tgt := 22) hx hb dX3_hasStored_5 (by decide) (fun c1 => ?_) (fun c1 => ?_)
  · skip
    exact absurd c1 (by decide)
  · skip
    refine lv_iload_n hx hb dX3_hasStored_8 rfl (lv_at hl 2 rfl) ?_
    refine lv_if_lt (tgt := 22) hx hb dX3_hasStored_9 (by decide) (fun c2 => ?_) (fun c2 => ?_)
    · skip
      exact absurd c2 (nI_pos (by omega))
    · skip
      refine lv_iload_n hx hb dX3_hasStored_12 rfl (lv_at hl 2 rfl) ?_
      refine lv_bipush (v := nI 25) hx hb dX3_hasStored_13 (by decide) ?_
      refine k_icmp_ge (tgt := 22) hx hb (by omega) (by omega) dX3_hasStored_15 (by decide) (fun c3 => ?_) (fun c3 => ?_)
      · skip
        omega
      · skip
        refine lv_iconst (v := nI 1) hx hb dX3_hasStored_18 (by decide) ?_
        refine lv_goto (tgt := 23) hx hb dX3_hasStored_19 (by decide) ?_
        exact k_retz () hx hb hr hK hS hlk dX3_hasStored_23 ((by first | exact Or.inl rfl | exact Or.inr rfl)) hP hD (rfl) hQ

set_option maxHeartbeats 4000000 in
set_option maxRecDepth 100000 in
theorem c_hasStored_n1 (l : Launch) (D : va_G) (cI cZ cJ : ClassId) (t : Nat) (st : Nat) (ct : Nat) (hd : Nat) (lv : Nat) (wd : Nat) (num : Int32) (lc : Nat) (lvs : Nat) (nb : Nat) (nk : Nat) (key : Int32) (S : Nat → Nat → Int32) (C : Nat → Int32) (O : Nat → Int32) (L : Nat → Int32) (Wd : Nat → Nat → Int32) (x y : Int32) (hT : TP lc lvs nb nk) (hx0 : noB nb x = true) : KI l yX3_hasStored wsX3_hasStored ({ frames := 1, cells := 0, slots := 0, locals := 21 }) D (kty cI cZ cJ) [.ref t, .int x, .int y] (wT cI cZ cJ t st ct hd lv wd num lc lvs nb nk key S C O L Wd) (fun r (_ : Unit) => r = 0) (fun _ : Unit => (wT cI cZ cJ t st ct hd lv wd num lc lvs nb nk key S C O L Wd)) 0 0 := by
  refine k_headI (cc := cX3_hasStored) (maxL := 3) (ret := (some .boolean)) (by decide) rfl (Nat.le_of_ble_eq_true rfl) ?_
  intro p e s m below meth c A ls args Q hx hb hr hml hts hown hlk hnm hA hK hP hD hS hl hQ
  have hq := hT.bd
  have hl : lv_has ls 3 [(0, .ref t), (1, .int x), (2, .int y)] := hl
  refine lv_aload_n hx hb dX3_hasStored_0 rfl (lv_at hl 0 rfl) ?_
  refine lv_iload_n hx hb dX3_hasStored_1 rfl (lv_at hl 1 rfl) ?_
  refine k_vi (As := [.int x]) (rest := []) (w2 := fun u : Unit => (wT cI cZ cJ t st ct hd lv wd num lc lvs nb nk key S C O L Wd)) ⟨hx, hb, hml, hown, hts⟩ (c_hasBucket_n l D cI cZ cJ t st ct hd lv wd num lc lvs nb nk key S C O L Wd x hT hx0) (cwV 1 hts gX3_hasStored_X3_hasBucket rfl rfl rfl (by decide +kernel) ⟨Nat.le_of_ble_eq_true rfl, Nat.le_of_ble_eq_true rfl⟩) hP hD hK hS hA [0, 1, 2, 3, 4, 5] [] [0, 1, 2, 3, 4, 5] rfl rfl (by decide) (fun u => rfl) rfl rfl (q0 := 0) rfl rfl hl.1 rfl (Nat.le_of_ble_eq_true rfl) dX3_hasStored_2 ⟨Nat.le_of_ble_eq_true rfl, Nat.le_of_ble_eq_true rfl⟩ (fun r u H locs hu1 hP hD hS => ?_)
  obtain rfl : r = 0 := hu1
  refine lv_if_eq (tgt := 22) hx hb dX3_hasStored_5 (by decide) (fun c1 => ?_) (fun c1 => ?_)
  · skip
    refine lv_iconst (v := nI 0) hx hb dX3_hasStored_22 (by decide) ?_
    exact k_retz () hx hb hr hK hS hlk dX3_hasStored_23 ((by first | exact Or.inl rfl | exact Or.inr rfl)) hP hD (rfl) hQ
  · skip
    exact absurd rfl c1

set_option maxHeartbeats 4000000 in
set_option maxRecDepth 100000 in
theorem c_hasStored_n2 (l : Launch) (D : va_G) (cI cZ cJ : ClassId) (t : Nat) (st : Nat) (ct : Nat) (hd : Nat) (lv : Nat) (wd : Nat) (num : Int32) (lc : Nat) (lvs : Nat) (nb : Nat) (nk : Nat) (key : Int32) (S : Nat → Nat → Int32) (C : Nat → Int32) (O : Nat → Int32) (L : Nat → Int32) (Wd : Nat → Nat → Int32) (b : Nat) (y : Int32) (hT : TP lc lvs nb nk) (hb0 : b < nb) (hx0 : noB 25 y = true) : KI l yX3_hasStored wsX3_hasStored ({ frames := 1, cells := 0, slots := 0, locals := 21 }) D (kty cI cZ cJ) [.ref t, .int (nI b), .int y] (wT cI cZ cJ t st ct hd lv wd num lc lvs nb nk key S C O L Wd) (fun r (_ : Unit) => r = 0) (fun _ : Unit => (wT cI cZ cJ t st ct hd lv wd num lc lvs nb nk key S C O L Wd)) 0 0 := by
  refine k_headI (cc := cX3_hasStored) (maxL := 3) (ret := (some .boolean)) (by decide) rfl (Nat.le_of_ble_eq_true rfl) ?_
  intro p e s m below meth c A ls args Q hx hb hr hml hts hown hlk hnm hA hK hP hD hS hl hQ
  have hq := hT.bd
  have hl : lv_has ls 3 [(0, .ref t), (1, .int (nI b)), (2, .int y)] := hl
  refine lv_aload_n hx hb dX3_hasStored_0 rfl (lv_at hl 0 rfl) ?_
  refine lv_iload_n hx hb dX3_hasStored_1 rfl (lv_at hl 1 rfl) ?_
  refine k_vi (As := [.int (nI b)]) (rest := []) (w2 := fun u : Unit => (wT cI cZ cJ t st ct hd lv wd num lc lvs nb nk key S C O L Wd)) ⟨hx, hb, hml, hown, hts⟩ (c_hasBucket_y l D cI cZ cJ t st ct hd lv wd num lc lvs nb nk key S C O L Wd b hT hb0) (cwV 1 hts gX3_hasStored_X3_hasBucket rfl rfl rfl (by decide +kernel) ⟨Nat.le_of_ble_eq_true rfl, Nat.le_of_ble_eq_true rfl⟩) hP hD hK hS hA [0, 1, 2, 3, 4, 5] [] [0, 1, 2, 3, 4, 5] rfl rfl (by decide) (fun u => rfl) rfl rfl (q0 := 0) rfl rfl hl.1 rfl (Nat.le_of_ble_eq_true rfl) dX3_hasStored_2 ⟨Nat.le_of_ble_eq_true rfl, Nat.le_of_ble_eq_true rfl⟩ (fun r u H locs hu1 hP hD hS => ?_)
  obtain rfl : r = 1 := hu1
  refine lv_if_eq (tgt := 22) hx hb dX3_hasStored_5 (by decide) (fun c1 => ?_) (fun c1 => ?_)
  · skip
    refine lv_iconst (v := nI 0) hx hb dX3_hasStored_22 (by decide) ?_
    exact k_retz () hx hb hr hK hS hlk dX3_hasStored_23 ((by first | exact Or.inl rfl | exact Or.inr rfl)) hP hD (rfl) hQ
  · skip
    refine lv_iload_n hx hb dX3_hasStored_8 rfl (lv_at hl 2 rfl) ?_
    refine lv_if_lt (tgt := 22) hx hb dX3_hasStored_9 (by decide) (fun c2 => ?_) (fun c2 => ?_)
    · skip
      refine lv_iconst (v := nI 0) hx hb dX3_hasStored_22 (by decide) ?_
      exact k_retz () hx hb hr hK hS hlk dX3_hasStored_23 ((by first | exact Or.inl rfl | exact Or.inr rfl)) hP hD (rfl) hQ
    · skip
      refine lv_iload_n hx hb dX3_hasStored_12 rfl (lv_at hl 2 rfl) ?_
      refine lv_bipush (v := nI 25) hx hb dX3_hasStored_13 (by decide) ?_
      refine lv_icmp_ge (tgt := 22) hx hb dX3_hasStored_15 (by decide) (fun c3 => ?_) (fun c3 => ?_)
      · skip
        refine lv_iconst (v := nI 0) hx hb dX3_hasStored_22 (by decide) ?_
        exact k_retz () hx hb hr hK hS hlk dX3_hasStored_23 ((by first | exact Or.inl rfl | exact Or.inr rfl)) hP hD (rfl) hQ
      · skip
        exact absurd hx0 (by simp [noB, c2, c3])

set_option maxHeartbeats 4000000 in
set_option maxRecDepth 100000 in
theorem c_countHeld (l : Launch) (D : va_G) (cI cZ cJ : ClassId) (t : Nat) (st : Nat) (ct : Nat) (hd : Nat) (lv : Nat) (wd : Nat) (num : Int32) (lc : Nat) (lvs : Nat) (nb : Nat) (nk : Nat) (key : Int32) (S : Nat → Nat → Int32) (C : Nat → Int32) (O : Nat → Int32) (L : Nat → Int32) (Wd : Nat → Nat → Int32)  (hT : TP lc lvs nb nk)  : KI l yX3_countHeld wsX3_countHeld ({ frames := 0, cells := 0, slots := 0, locals := 0 }) D (kty cI cZ cJ) [.ref t] (wT cI cZ cJ t st ct hd lv wd num lc lvs nb nk key S C O L Wd) (fun r (_ : Unit) => r = nI (cntN O nk)) (fun _ : Unit => (wT cI cZ cJ t st ct hd lv wd num lc lvs nb nk key S C O L Wd)) 0 0 := by
  refine k_headI (cc := cX3_countHeld) (maxL := 3) (ret := (some .int)) (by decide) rfl (Nat.le_of_ble_eq_true rfl) ?_
  intro p e s m below meth c A ls args Q hx hb hr hml hts hown hlk hnm hA hK hP hD hS hl hQ
  have hq := hT.bd
  have hl : lv_has ls 3 [(0, .ref t)] := hl
  refine lv_iconst (v := nI 0) hx hb dX3_countHeld_0 (by decide) ?_
  refine lv_istore_n (lv' := [(1, .int (nI 0)), (0, .ref t)]) hx hb dX3_countHeld_1 rfl hl (by decide) rfl (fun ls hl => ?_)
  refine lv_iconst (v := nI 0) hx hb dX3_countHeld_2 (by decide) ?_
  refine lv_istore_n (lv' := [(2, .int (nI 0)), (1, .int (nI 0)), (0, .ref t)]) hx hb dX3_countHeld_3 rfl hl (by decide) rfl (fun ls hl => ?_)
  have L1 : ∀ (nf k : Nat) (hvL1 : k ≤ nk) (hFL1 : nk - k < nf) (H : Heap) (locs : List Loc) (ls : Array Slot), va_P D vwCl (wT cI cZ cJ t st ct hd lv wd num lc lvs nb nk key S C O L Wd) H → va_D A (wT cI cZ cJ t st ct hd lv wd num lc lvs nb nk key S C O L Wd) → va_S A s.heap H locs → lv_has ls 3 [(0, .ref t), (1, .int (nI (cntN O k))), (2, .int (nI k))] → W p l e ({ frames := 0, cells := 0, slots := 0, locals := 0 } : Room) s m args below meth c H locs 0 0 Q (F0 m 4 ls []) := by
    intro nf
    induction nf with
    | zero => intro k  hvL1 hFL1; omega
    | succ nf ihL1 =>
      intro k  hvL1 hFL1  H locs ls hP hD hS hl
      refine lv_iload_n hx hb dX3_countHeld_4 rfl (lv_at hl 2 rfl) ?_
      refine lv_aload_n hx hb dX3_countHeld_5 rfl (lv_at hl 0 rfl) ?_
      refine va_get (D := D) (ci := 3) (v := .int (nI nk)) (C := RX3) (T := TX3) (N := 11) hx hb hts (by decide +kernel) hown hK hP 0 rfl rfl 4 (by decide) (hts (.fieldLink RX3 24 "VeiledFiles$Tree" "blocks" "I") (by decide +kernel)) (fun _ h9 => h9) rfl dX3_countHeld_6 ?_
      refine k_icmp_ge (tgt := 30) hx hb (by omega) (by omega) dX3_countHeld_9 (by decide) (fun c1 => ?_) (fun c1 => ?_)
      · skip
        obtain rfl : nk = k := by omega
        refine lv_iload_n hx hb dX3_countHeld_30 rfl (lv_at hl 1 rfl) ?_
        exact k_reti () hx hb hr hK hS hlk dX3_countHeld_31 hP hD (rfl) hQ
      · skip
        have hcl := cntN_le O k
        refine lv_aload_n hx hb dX3_countHeld_12 rfl (lv_at hl 0 rfl) ?_
        refine va_get (D := D) (ci := 3) (v := .ref hd) (C := RX3) (T := TX3) (N := 11) hx hb hts (by decide +kernel) hown hK hP 0 rfl rfl 7 (by decide) (hts (.fieldLink RX3 34 "VeiledFiles$Tree" "held" "[Z") (by decide +kernel)) (fun _ h9 => h9) rfl dX3_countHeld_13 ?_
        refine lv_iload_n hx hb dX3_countHeld_16 rfl (lv_at hl 2 rfl) ?_
        refine k_zald hx hb hK hP 3 1 rfl rfl k (by omega) (by omega) (v := O k) (rfl) dX3_countHeld_17 ?_
        refine lv_if_eq (tgt := 24) hx hb dX3_countHeld_18 (by decide) (fun c2 => ?_) (fun c2 => ?_)
        · skip
          refine lv_iinc (v := nI (k + 1)) (lv' := [(2, .int (nI (k + 1))), (0, .ref t), (1, .int (nI (cntN O k)))]) hx hb dX3_countHeld_24 hl (k := 2) rfl (nI_add k 1) (by decide) rfl (fun ls hl => ?_)
          refine lv_goto (tgt := 4) hx hb dX3_countHeld_27 (by decide) ?_
          have hc2 : cntN O (k + 1) = cntN O k := by simp [cntN, c2]
          rw [← hc2] at hl
          exact ihL1 (k + 1)  (by omega) (by omega)  _ _ _ hP hD hS (lv_sub hl [1, 2, 0] rfl)
        · skip
          refine lv_iinc (v := nI (cntN O k + 1)) (lv' := [(1, .int (nI (cntN O k + 1))), (0, .ref t), (2, .int (nI k))]) hx hb dX3_countHeld_21 hl (k := 1) rfl (nI_add (cntN O k) 1) (by decide) rfl (fun ls hl => ?_)
          refine lv_iinc (v := nI (k + 1)) (lv' := [(2, .int (nI (k + 1))), (1, .int (nI (cntN O k + 1))), (0, .ref t)]) hx hb dX3_countHeld_24 hl (k := 2) rfl (nI_add k 1) (by decide) rfl (fun ls hl => ?_)
          refine lv_goto (tgt := 4) hx hb dX3_countHeld_27 (by decide) ?_
          have hc2 : cntN O (k + 1) = cntN O k + 1 := by simp [cntN, c2]
          rw [← hc2] at hl
          exact ihL1 (k + 1)  (by omega) (by omega)  _ _ _ hP hD hS (lv_sub hl [2, 1, 0] rfl)
  exact L1 (nk + 1) 0  (by omega) (by omega)  _ _ _ hP hD hS (lv_sub hl [2, 1, 0] rfl)

theorem KI_imp {l : Launch} {y : MethodName} {ws : List Cond} {rm : Room} {D : va_G} {ty : List (ClassId × FieldType)} {As : List Value} {wc : va_W} {S : Type} {post post' : Int32 → S → Prop} {wf : S → va_W} {mc ms : Nat} (h : KI l y ws rm D ty As wc post wf mc ms) (hp : ∀ r u, post r u → post' r u) : KI l y ws rm D ty As wc post' wf mc ms := by
  intro sz p e ha hc hk s m args below hf happ hP hK
  obtain ⟨n, o, h1, h2, h3, ⟨⟨r, u, e1, e2, e3⟩, hF⟩, hL⟩ := h sz p e ha hc hk s m args below hf happ hP hK
  exact ⟨n, o, h1, h2, h3, ⟨⟨r, u, e1, hp r u e2, e3⟩, hF⟩, hL⟩

theorem c_isWhole_y (l : Launch) (D : va_G) (cI cZ cJ : ClassId) (t : Nat) (st : Nat) (ct : Nat) (hd : Nat) (lv : Nat) (wd : Nat) (num : Int32) (lc : Nat) (lvs : Nat) (nb : Nat) (nk : Nat) (key : Int32) (S : Nat → Nat → Int32) (C : Nat → Int32) (O : Nat → Int32) (L : Nat → Int32) (Wd : Nat → Nat → Int32) (b : Nat) (hT : TP lc lvs nb nk) (hb0 : b < nb) (hw : wholeB key num C S b) : KI l yX3_isWhole wsX3_isWhole ({ frames := 2, cells := 0, slots := 0, locals := 47 }) D (kty cI cZ cJ) [.ref t, .int (nI b)] (wT cI cZ cJ t st ct hd lv wd num lc lvs nb nk key S C O L Wd) (fun r (_ : Unit) => r = 1) (fun _ : Unit => (wT cI cZ cJ t st ct hd lv wd num lc lvs nb nk key S C O L Wd)) 0 0 :=
  KI_imp (c_isWhole l D cI cZ cJ t st ct hd lv wd num lc lvs nb nk key S C O L Wd b hT hb0) (fun r u h => by rcases h with ⟨h1, -⟩ | ⟨-, h2⟩; exact h1; exact absurd hw h2)

theorem c_isWhole_n (l : Launch) (D : va_G) (cI cZ cJ : ClassId) (t : Nat) (st : Nat) (ct : Nat) (hd : Nat) (lv : Nat) (wd : Nat) (num : Int32) (lc : Nat) (lvs : Nat) (nb : Nat) (nk : Nat) (key : Int32) (S : Nat → Nat → Int32) (C : Nat → Int32) (O : Nat → Int32) (L : Nat → Int32) (Wd : Nat → Nat → Int32) (b : Nat) (hT : TP lc lvs nb nk) (hb0 : b < nb) (hw : ¬ wholeB key num C S b) : KI l yX3_isWhole wsX3_isWhole ({ frames := 2, cells := 0, slots := 0, locals := 47 }) D (kty cI cZ cJ) [.ref t, .int (nI b)] (wT cI cZ cJ t st ct hd lv wd num lc lvs nb nk key S C O L Wd) (fun r (_ : Unit) => r = 0) (fun _ : Unit => (wT cI cZ cJ t st ct hd lv wd num lc lvs nb nk key S C O L Wd)) 0 0 :=
  KI_imp (c_isWhole l D cI cZ cJ t st ct hd lv wd num lc lvs nb nk key S C O L Wd b hT hb0) (fun r u h => by rcases h with ⟨-, h2⟩ | ⟨h1, -⟩; exact absurd h2 hw; exact h1)

set_option maxHeartbeats 4000000 in
set_option maxRecDepth 100000 in
theorem c_spoil_y (l : Launch) (D : va_G) (cI cZ cJ : ClassId) (t : Nat) (st : Nat) (ct : Nat) (hd : Nat) (lv : Nat) (wd : Nat) (num : Int32) (lc : Nat) (lvs : Nat) (nb : Nat) (nk : Nat) (key : Int32) (S : Nat → Nat → Int32) (C : Nat → Int32) (O : Nat → Int32) (L : Nat → Int32) (Wd : Nat → Nat → Int32) (b i : Nat) (v : Int32) (hT : TP lc lvs nb nk) (hb0 : b < nb) (hi : i < 25) (hw : ¬ wholeB key num C (setRow S b (upd (S b) i v)) b) : KI l yX3_spoil wsX3_spoil ({ frames := 3, cells := 0, slots := 0, locals := 69 }) D (kty cI cZ cJ) [.ref t, .int (nI b), .int (nI i), .int v] (wT cI cZ cJ t st ct hd lv wd num lc lvs nb nk key S C O L Wd) (fun r (_ : Unit) => r = 1) (fun _ : Unit => (wT cI cZ cJ t st ct hd lv wd num lc lvs nb nk key (setRow S b (upd (S b) i v)) C O L Wd)) 0 0 := by
  refine k_headI (cc := cX3_spoil) (maxL := 6) (ret := (some .boolean)) (by decide) rfl (Nat.le_of_ble_eq_true rfl) ?_
  intro p e s m below meth c A ls args Q hx hb hr hml hts hown hlk hnm hA hK hP hD hS hl hQ
  have hq := hT.bd
  have hl : lv_has ls 6 [(0, .ref t), (1, .int (nI b)), (2, .int (nI i)), (3, .int v)] := hl
  refine lv_iload_n hx hb dX3_spoil_0 rfl (lv_at hl 1 rfl) ?_
  refine lv_bipush (v := nI 25) hx hb dX3_spoil_1 (by decide) ?_
  refine lv_imul hx hb dX3_spoil_3 ?_
  refine k_t1 (show (nI b) * (nI 25) = nI (b * 25) from pk_mul _ _) ?_
  refine lv_iload_n hx hb dX3_spoil_4 rfl (lv_at hl 2 rfl) ?_
  refine lv_iadd hx hb dX3_spoil_5 ?_
  refine k_t1 (show (nI (b * 25)) + (nI i) = nI (b * 25 + i) from nI_add _ _) ?_
  refine lv_istore (lv' := [(4, .int (nI (b * 25 + i))), (0, .ref t), (1, .int (nI b)), (2, .int (nI i)), (3, .int v)]) hx hb dX3_spoil_6 hl (by decide) rfl (fun ls hl => ?_)
  refine lv_aload_n hx hb dX3_spoil_8 rfl (lv_at hl 1 rfl) ?_
  refine va_get (D := D) (ci := 3) (v := .ref st) (C := RX3) (T := TX3) (N := 11) hx hb hts (by decide +kernel) hown hK hP 0 rfl rfl 5 (by decide) (hts (.fieldLink RX3 27 "VeiledFiles$Tree" "store" "[I") (by decide +kernel)) (fun _ h9 => h9) rfl dX3_spoil_9 ?_
  refine lv_iload hx hb dX3_spoil_12 (lv_at hl 0 rfl) ?_
  refine k_iald hx hb hK hP 1 0 rfl rfl (b * 25 + i) (by omega) (by omega) (v := S b i) (fl25_eq (by omega) hi) dX3_spoil_14 ?_
  refine lv_istore (lv' := [(5, .int (S b i)), (4, .int (nI (b * 25 + i))), (0, .ref t), (1, .int (nI b)), (2, .int (nI i)), (3, .int v)]) hx hb dX3_spoil_15 hl (by decide) rfl (fun ls hl => ?_)
  refine lv_aload_n hx hb dX3_spoil_17 rfl (lv_at hl 2 rfl) ?_
  refine va_get (D := D) (ci := 3) (v := .ref st) (C := RX3) (T := TX3) (N := 11) hx hb hts (by decide +kernel) hown hK hP 0 rfl rfl 5 (by decide) (hts (.fieldLink RX3 27 "VeiledFiles$Tree" "store" "[I") (by decide +kernel)) (fun _ h9 => h9) rfl dX3_spoil_18 ?_
  refine lv_iload hx hb dX3_spoil_21 (lv_at hl 1 rfl) ?_
  refine lv_iload_n hx hb dX3_spoil_23 rfl (lv_at hl 5 rfl) ?_
  refine k_iast hx hb hK hP hD hS 1 0 rfl rfl (b * 25 + i) (by omega) (by omega) (g := fl25 (setRow S b (upd (S b) i v))) (fl25_up (by omega) hi) dX3_spoil_24 (fun H locs hP hD hS => ?_)
  have hP : va_P D vwCl (wT cI cZ cJ t st ct hd lv wd num lc lvs nb nk key (setRow S b (upd (S b) i v)) C O L Wd) H := hP
  have hD : va_D A (wT cI cZ cJ t st ct hd lv wd num lc lvs nb nk key (setRow S b (upd (S b) i v)) C O L Wd) := hD
  refine lv_aload_n hx hb dX3_spoil_25 rfl (lv_at hl 2 rfl) ?_
  refine lv_iload_n hx hb dX3_spoil_26 rfl (lv_at hl 3 rfl) ?_
  refine k_vi (As := [.int (nI b)]) (rest := []) (w2 := fun u : Unit => (wT cI cZ cJ t st ct hd lv wd num lc lvs nb nk key (setRow S b (upd (S b) i v)) C O L Wd)) ⟨hx, hb, hml, hown, hts⟩ (c_isWhole_n l D cI cZ cJ t st ct hd lv wd num lc lvs nb nk key (setRow S b (upd (S b) i v)) C O L Wd b hT hb0 hw) (cwV 1 hts gX3_spoil_X3_isWhole rfl rfl rfl (by decide +kernel) ⟨Nat.le_of_ble_eq_true rfl, Nat.le_of_ble_eq_true rfl⟩) hP hD hK hS hA [0, 1, 2, 3, 4, 5] [] [0, 1, 2, 3, 4, 5] rfl rfl (by decide) (fun u => rfl) rfl rfl (q0 := 0) rfl rfl hl.1 rfl (Nat.le_of_ble_eq_true rfl) dX3_spoil_27 ⟨Nat.le_of_ble_eq_true rfl, Nat.le_of_ble_eq_true rfl⟩ (fun r u H locs hu1 hP hD hS => ?_)
  obtain rfl : r = 0 := hu1
  refine lv_if_eq (tgt := 44) hx hb dX3_spoil_30 (by decide) (fun c1 => ?_) (fun c1 => ?_)
  · skip
    refine lv_iconst (v := nI 1) hx hb dX3_spoil_44 (by decide) ?_
    exact k_retz () hx hb hr hK hS hlk dX3_spoil_45 ((by first | exact Or.inl rfl | exact Or.inr rfl)) hP hD (rfl) hQ
  · skip
    exact absurd rfl c1

set_option maxHeartbeats 4000000 in
set_option maxRecDepth 100000 in
theorem c_spoil_n (l : Launch) (D : va_G) (cI cZ cJ : ClassId) (t : Nat) (st : Nat) (ct : Nat) (hd : Nat) (lv : Nat) (wd : Nat) (num : Int32) (lc : Nat) (lvs : Nat) (nb : Nat) (nk : Nat) (key : Int32) (S : Nat → Nat → Int32) (C : Nat → Int32) (O : Nat → Int32) (L : Nat → Int32) (Wd : Nat → Nat → Int32) (b i : Nat) (v : Int32) (hT : TP lc lvs nb nk) (hb0 : b < nb) (hi : i < 25) (hw : wholeB key num C (setRow S b (upd (S b) i v)) b) : KI l yX3_spoil wsX3_spoil ({ frames := 3, cells := 0, slots := 0, locals := 69 }) D (kty cI cZ cJ) [.ref t, .int (nI b), .int (nI i), .int v] (wT cI cZ cJ t st ct hd lv wd num lc lvs nb nk key S C O L Wd) (fun r (_ : Unit) => r = 0) (fun _ : Unit => (wT cI cZ cJ t st ct hd lv wd num lc lvs nb nk key S C O L Wd)) 0 0 := by
  refine k_headI (cc := cX3_spoil) (maxL := 6) (ret := (some .boolean)) (by decide) rfl (Nat.le_of_ble_eq_true rfl) ?_
  intro p e s m below meth c A ls args Q hx hb hr hml hts hown hlk hnm hA hK hP hD hS hl hQ
  have hq := hT.bd
  have hl : lv_has ls 6 [(0, .ref t), (1, .int (nI b)), (2, .int (nI i)), (3, .int v)] := hl
  refine lv_iload_n hx hb dX3_spoil_0 rfl (lv_at hl 1 rfl) ?_
  refine lv_bipush (v := nI 25) hx hb dX3_spoil_1 (by decide) ?_
  refine lv_imul hx hb dX3_spoil_3 ?_
  refine k_t1 (show (nI b) * (nI 25) = nI (b * 25) from pk_mul _ _) ?_
  refine lv_iload_n hx hb dX3_spoil_4 rfl (lv_at hl 2 rfl) ?_
  refine lv_iadd hx hb dX3_spoil_5 ?_
  refine k_t1 (show (nI (b * 25)) + (nI i) = nI (b * 25 + i) from nI_add _ _) ?_
  refine lv_istore (lv' := [(4, .int (nI (b * 25 + i))), (0, .ref t), (1, .int (nI b)), (2, .int (nI i)), (3, .int v)]) hx hb dX3_spoil_6 hl (by decide) rfl (fun ls hl => ?_)
  refine lv_aload_n hx hb dX3_spoil_8 rfl (lv_at hl 1 rfl) ?_
  refine va_get (D := D) (ci := 3) (v := .ref st) (C := RX3) (T := TX3) (N := 11) hx hb hts (by decide +kernel) hown hK hP 0 rfl rfl 5 (by decide) (hts (.fieldLink RX3 27 "VeiledFiles$Tree" "store" "[I") (by decide +kernel)) (fun _ h9 => h9) rfl dX3_spoil_9 ?_
  refine lv_iload hx hb dX3_spoil_12 (lv_at hl 0 rfl) ?_
  refine k_iald hx hb hK hP 1 0 rfl rfl (b * 25 + i) (by omega) (by omega) (v := S b i) (fl25_eq (by omega) hi) dX3_spoil_14 ?_
  refine lv_istore (lv' := [(5, .int (S b i)), (4, .int (nI (b * 25 + i))), (0, .ref t), (1, .int (nI b)), (2, .int (nI i)), (3, .int v)]) hx hb dX3_spoil_15 hl (by decide) rfl (fun ls hl => ?_)
  refine lv_aload_n hx hb dX3_spoil_17 rfl (lv_at hl 2 rfl) ?_
  refine va_get (D := D) (ci := 3) (v := .ref st) (C := RX3) (T := TX3) (N := 11) hx hb hts (by decide +kernel) hown hK hP 0 rfl rfl 5 (by decide) (hts (.fieldLink RX3 27 "VeiledFiles$Tree" "store" "[I") (by decide +kernel)) (fun _ h9 => h9) rfl dX3_spoil_18 ?_
  refine lv_iload hx hb dX3_spoil_21 (lv_at hl 1 rfl) ?_
  refine lv_iload_n hx hb dX3_spoil_23 rfl (lv_at hl 5 rfl) ?_
  refine k_iast hx hb hK hP hD hS 1 0 rfl rfl (b * 25 + i) (by omega) (by omega) (g := fl25 (setRow S b (upd (S b) i v))) (fl25_up (by omega) hi) dX3_spoil_24 (fun H locs hP hD hS => ?_)
  have hP : va_P D vwCl (wT cI cZ cJ t st ct hd lv wd num lc lvs nb nk key (setRow S b (upd (S b) i v)) C O L Wd) H := hP
  have hD : va_D A (wT cI cZ cJ t st ct hd lv wd num lc lvs nb nk key (setRow S b (upd (S b) i v)) C O L Wd) := hD
  refine lv_aload_n hx hb dX3_spoil_25 rfl (lv_at hl 2 rfl) ?_
  refine lv_iload_n hx hb dX3_spoil_26 rfl (lv_at hl 3 rfl) ?_
  refine k_vi (As := [.int (nI b)]) (rest := []) (w2 := fun u : Unit => (wT cI cZ cJ t st ct hd lv wd num lc lvs nb nk key (setRow S b (upd (S b) i v)) C O L Wd)) ⟨hx, hb, hml, hown, hts⟩ (c_isWhole_y l D cI cZ cJ t st ct hd lv wd num lc lvs nb nk key (setRow S b (upd (S b) i v)) C O L Wd b hT hb0 hw) (cwV 1 hts gX3_spoil_X3_isWhole rfl rfl rfl (by decide +kernel) ⟨Nat.le_of_ble_eq_true rfl, Nat.le_of_ble_eq_true rfl⟩) hP hD hK hS hA [0, 1, 2, 3, 4, 5] [] [0, 1, 2, 3, 4, 5] rfl rfl (by decide) (fun u => rfl) rfl rfl (q0 := 0) rfl rfl hl.1 rfl (Nat.le_of_ble_eq_true rfl) dX3_spoil_27 ⟨Nat.le_of_ble_eq_true rfl, Nat.le_of_ble_eq_true rfl⟩ (fun r u H locs hu1 hP hD hS => ?_)
  obtain rfl : r = 1 := hu1
  refine lv_if_eq (tgt := 44) hx hb dX3_spoil_30 (by decide) (fun c1 => ?_) (fun c1 => ?_)
  · skip
    exact absurd c1 (by decide)
  · skip
    refine lv_aload_n hx hb dX3_spoil_33 rfl (lv_at hl 2 rfl) ?_
    refine va_get (D := D) (ci := 3) (v := .ref st) (C := RX3) (T := TX3) (N := 11) hx hb hts (by decide +kernel) hown hK hP 0 rfl rfl 5 (by decide) (hts (.fieldLink RX3 27 "VeiledFiles$Tree" "store" "[I") (by decide +kernel)) (fun _ h9 => h9) rfl dX3_spoil_34 ?_
    refine lv_iload hx hb dX3_spoil_37 (lv_at hl 1 rfl) ?_
    refine lv_iload hx hb dX3_spoil_39 (lv_at hl 0 rfl) ?_
    refine k_iast hx hb hK hP hD hS 1 0 rfl rfl (b * 25 + i) (by omega) (by omega) (g := fl25 S) ((fl25_up (b := b) (i := i) (by omega) hi).trans (congrArg fl25 (by rw [setRow_s, setRow_2, upd_back, setRow_id]))) dX3_spoil_41 (fun H locs hP hD hS => ?_)
    have hP : va_P D vwCl (wT cI cZ cJ t st ct hd lv wd num lc lvs nb nk key S C O L Wd) H := hP
    have hD : va_D A (wT cI cZ cJ t st ct hd lv wd num lc lvs nb nk key S C O L Wd) := hD
    refine lv_iconst (v := nI 0) hx hb dX3_spoil_42 (by decide) ?_
    exact k_retz () hx hb hr hK hS hlk dX3_spoil_43 ((by first | exact Or.inl rfl | exact Or.inr rfl)) hP hD (rfl) hQ

set_option maxHeartbeats 4000000 in
set_option maxRecDepth 100000 in
theorem c_place (l : Launch) (D : va_G) (cI cZ cJ : ClassId) (t : Nat) (st : Nat) (ct : Nat) (hd : Nat) (lv : Nat) (wd : Nat) (num : Int32) (lc : Nat) (lvs : Nat) (nb : Nat) (nk : Nat) (key : Int32) (S : Nat → Nat → Int32) (C : Nat → Int32) (O : Nat → Int32) (L : Nat → Int32) (Wd : Nat → Nat → Int32) (n b sl : Nat) (hT : TP lc lvs nb nk) (hn : n < nk) (hb0 : b < nb) (hs : sl < 4) : KV l yX3_place wsX3_place ({ frames := 1, cells := 0, slots := 0, locals := 22 }) D (kty cI cZ cJ) [.ref t, .int (nI n), .int (nI b), .int (nI sl)] (wT cI cZ cJ t st ct hd lv wd num lc lvs nb nk key S C O L Wd) (fun (_ : Unit) => True) (fun _ : Unit => (wT cI cZ cJ t st ct hd lv wd num lc lvs nb nk key (setRow S b (putR (S b) sl n (L n) (Wd n))) C (upd O n 0) L Wd)) 0 0 := by
  refine k_headV (cc := cX3_place) (maxL := 6) (ret := none) (by decide) rfl (Nat.le_of_ble_eq_true rfl) ?_
  intro p e s m below meth c A ls args Q hx hb hr hml hts hown hlk hnm hA hK hP hD hS hl hQ
  have hq := hT.bd
  have hl : lv_has ls 6 [(0, .ref t), (1, .int (nI n)), (2, .int (nI b)), (3, .int (nI sl))] := hl
  refine lv_iload_n hx hb dX3_place_0 rfl (lv_at hl 2 rfl) ?_
  refine lv_iload_n hx hb dX3_place_1 rfl (lv_at hl 3 rfl) ?_
  refine k_si (As := [.int (nI b), .int (nI sl)]) (rest := []) (w2 := fun u : Unit => (wT cI cZ cJ t st ct hd lv wd num lc lvs nb nk key S C O L Wd)) ⟨hx, hb, hml, hown, hts⟩ (c_slotStart l D cI cZ cJ  b sl) (va_cwS 2 hts gX3_place_X3_slotStart rfl rfl rfl (by decide +kernel) ⟨Nat.le_of_ble_eq_true rfl, Nat.le_of_ble_eq_true rfl⟩) hP hD hK hS hA [] [0, 1, 2, 3, 4, 5] [0, 1, 2, 3, 4, 5] rfl rfl (by decide) (fun u => rfl) rfl hl.1 rfl (Nat.le_of_ble_eq_true rfl) dX3_place_2 ⟨Nat.le_of_ble_eq_true rfl, Nat.le_of_ble_eq_true rfl⟩ (fun r u H locs hu1 hP hD hS => ?_)
  obtain rfl : r = nI (25 * b + 6 * sl) := hu1
  refine lv_istore (lv' := [(4, .int (nI (25 * b + 6 * sl))), (0, .ref t), (1, .int (nI n)), (2, .int (nI b)), (3, .int (nI sl))]) hx hb dX3_place_5 hl (by decide) rfl (fun ls hl => ?_)
  refine lv_aload_n hx hb dX3_place_7 rfl (lv_at hl 1 rfl) ?_
  refine va_get (D := D) (ci := 3) (v := .ref st) (C := RX3) (T := TX3) (N := 11) hx hb hts (by decide +kernel) hown hK hP 0 rfl rfl 5 (by decide) (hts (.fieldLink RX3 27 "VeiledFiles$Tree" "store" "[I") (by decide +kernel)) (fun _ h9 => h9) rfl dX3_place_8 ?_
  refine lv_iload hx hb dX3_place_11 (lv_at hl 0 rfl) ?_
  refine lv_iload_n hx hb dX3_place_13 rfl (lv_at hl 2 rfl) ?_
  refine lv_iconst (v := nI 1) hx hb dX3_place_14 (by decide) ?_
  refine lv_iadd hx hb dX3_place_15 ?_
  refine k_t1 (show (nI n) + (nI 1) = nI (n + 1) from nI_add _ _) ?_
  have hE2 : (wT cI cZ cJ t st ct hd lv wd num lc lvs nb nk key S C O L Wd) = (wT cI cZ cJ t st ct hd lv wd num lc lvs nb nk key (setRow S b (putK (S b) sl n (L n) (Wd n) 0)) C O L Wd) := by rw [putK_0, setRow_id]
  rw [hE2] at hP hD
  refine k_iast hx hb hK hP hD hS 1 0 rfl rfl (25 * b + 6 * sl) (by omega) (by omega) (g := fl25 (setRow S b (putK (S b) sl n (L n) (Wd n) 1))) ((fl25_up (b := b) (i := 6 * sl + 0) (by omega) (by omega)).trans (congrArg fl25 (by rw [setRow_s, setRow_2, putK_s sloV_0]))) dX3_place_16 (fun H locs hP hD hS => ?_)
  have hP : va_P D vwCl (wT cI cZ cJ t st ct hd lv wd num lc lvs nb nk key (setRow S b (putK (S b) sl n (L n) (Wd n) 1)) C O L Wd) H := hP
  have hD : va_D A (wT cI cZ cJ t st ct hd lv wd num lc lvs nb nk key (setRow S b (putK (S b) sl n (L n) (Wd n) 1)) C O L Wd) := hD
  refine lv_aload_n hx hb dX3_place_17 rfl (lv_at hl 1 rfl) ?_
  refine va_get (D := D) (ci := 3) (v := .ref st) (C := RX3) (T := TX3) (N := 11) hx hb hts (by decide +kernel) hown hK hP 0 rfl rfl 5 (by decide) (hts (.fieldLink RX3 27 "VeiledFiles$Tree" "store" "[I") (by decide +kernel)) (fun _ h9 => h9) rfl dX3_place_18 ?_
  refine lv_iload hx hb dX3_place_21 (lv_at hl 0 rfl) ?_
  refine lv_iconst (v := nI 1) hx hb dX3_place_23 (by decide) ?_
  refine lv_iadd hx hb dX3_place_24 ?_
  refine k_t1 (show (nI (25 * b + 6 * sl)) + (nI 1) = nI (25 * b + 6 * sl + 1) from nI_add _ _) ?_
  refine lv_aload_n hx hb dX3_place_25 rfl (lv_at hl 1 rfl) ?_
  refine va_get (D := D) (ci := 3) (v := .ref lv) (C := RX3) (T := TX3) (N := 11) hx hb hts (by decide +kernel) hown hK hP 0 rfl rfl 8 (by decide) (hts (.fieldLink RX3 38 "VeiledFiles$Tree" "leaves" "[I") (by decide +kernel)) (fun _ h9 => h9) rfl dX3_place_26 ?_
  refine lv_iload_n hx hb dX3_place_29 rfl (lv_at hl 2 rfl) ?_
  refine k_iald hx hb hK hP 4 0 rfl rfl n (by omega) (by omega) (v := L n) (rfl) dX3_place_30 ?_
  refine k_iast hx hb hK hP hD hS 1 0 rfl rfl (25 * b + 6 * sl + 1) (by omega) (by omega) (g := fl25 (setRow S b (putK (S b) sl n (L n) (Wd n) (2 + 0)))) ((fl25_up (b := b) (i := 6 * sl + 1) (by omega) (by omega)).trans (congrArg fl25 (by rw [setRow_s, setRow_2, putK_s sloV_1]))) dX3_place_31 (fun H locs hP hD hS => ?_)
  have hP : va_P D vwCl (wT cI cZ cJ t st ct hd lv wd num lc lvs nb nk key (setRow S b (putK (S b) sl n (L n) (Wd n) (2 + 0))) C O L Wd) H := hP
  have hD : va_D A (wT cI cZ cJ t st ct hd lv wd num lc lvs nb nk key (setRow S b (putK (S b) sl n (L n) (Wd n) (2 + 0))) C O L Wd) := hD
  refine lv_iconst (v := nI 0) hx hb dX3_place_32 (by decide) ?_
  refine lv_istore (lv' := [(5, .int (nI 0)), (4, .int (nI (25 * b + 6 * sl))), (0, .ref t), (1, .int (nI n)), (2, .int (nI b)), (3, .int (nI sl))]) hx hb dX3_place_33 hl (by decide) rfl (fun ls hl => ?_)
  have L1 : ∀ (nf k : Nat) (hvL1 : k ≤ 4) (hFL1 : 4 - k < nf) (H : Heap) (locs : List Loc) (ls : Array Slot), va_P D vwCl (wT cI cZ cJ t st ct hd lv wd num lc lvs nb nk key (setRow S b (putK (S b) sl n (L n) (Wd n) (2 + k))) C O L Wd) H → va_D A (wT cI cZ cJ t st ct hd lv wd num lc lvs nb nk key (setRow S b (putK (S b) sl n (L n) (Wd n) (2 + k))) C O L Wd) → va_S A s.heap H locs → lv_has ls 6 [(0, .ref t), (1, .int (nI n)), (2, .int (nI b)), (3, .int (nI sl)), (4, .int (nI (25 * b + 6 * sl))), (5, .int (nI k))] → W p l e ({ frames := 1, cells := 0, slots := 0, locals := 22 } : Room) s m args below meth c H locs 0 0 Q (F0 m 35 ls []) := by
    intro nf
    induction nf with
    | zero => intro k  hvL1 hFL1; omega
    | succ nf ihL1 =>
      intro k  hvL1 hFL1  H locs ls hP hD hS hl
      refine lv_iload hx hb dX3_place_35 (lv_at hl 5 rfl) ?_
      refine lv_iconst (v := nI 4) hx hb dX3_place_37 (by decide) ?_
      refine k_icmp_ge (tgt := 66) hx hb (by omega) (by omega) dX3_place_38 (by decide) (fun c1 => ?_) (fun c1 => ?_)
      · skip
        obtain rfl : k = 4 := by omega
        have hP : va_P D vwCl (wT cI cZ cJ t st ct hd lv wd num lc lvs nb nk key (setRow S b (putR (S b) sl n (L n) (Wd n))) C O L Wd) H := hP
        have hD : va_D A (wT cI cZ cJ t st ct hd lv wd num lc lvs nb nk key (setRow S b (putR (S b) sl n (L n) (Wd n))) C O L Wd) := hD
        refine lv_aload_n hx hb dX3_place_66 rfl (lv_at hl 0 rfl) ?_
        refine va_get (D := D) (ci := 3) (v := .ref hd) (C := RX3) (T := TX3) (N := 11) hx hb hts (by decide +kernel) hown hK hP 0 rfl rfl 7 (by decide) (hts (.fieldLink RX3 34 "VeiledFiles$Tree" "held" "[Z") (by decide +kernel)) (fun _ h9 => h9) rfl dX3_place_67 ?_
        refine lv_iload_n hx hb dX3_place_70 rfl (lv_at hl 1 rfl) ?_
        refine lv_iconst (v := nI 0) hx hb dX3_place_71 (by decide) ?_
        refine k_zast hx hb hK hP hD hS 3 1 rfl rfl n (by omega) (by omega) (g := (upd O n (nI 0))) (rfl) (by first | rfl | decide) dX3_place_72 (fun H locs hP hD hS => ?_)
        have hP : va_P D vwCl (wT cI cZ cJ t st ct hd lv wd num lc lvs nb nk key (setRow S b (putR (S b) sl n (L n) (Wd n))) C (upd O n (nI 0)) L Wd) H := hP
        have hD : va_D A (wT cI cZ cJ t st ct hd lv wd num lc lvs nb nk key (setRow S b (putR (S b) sl n (L n) (Wd n))) C (upd O n (nI 0)) L Wd) := hD
        exact k_retv () hx hb hr hK hS hlk dX3_place_73 hP hD (trivial) hQ
      · skip
        refine lv_aload_n hx hb dX3_place_41 rfl (lv_at hl 0 rfl) ?_
        refine va_get (D := D) (ci := 3) (v := .ref st) (C := RX3) (T := TX3) (N := 11) hx hb hts (by decide +kernel) hown hK hP 0 rfl rfl 5 (by decide) (hts (.fieldLink RX3 27 "VeiledFiles$Tree" "store" "[I") (by decide +kernel)) (fun _ h9 => h9) rfl dX3_place_42 ?_
        refine lv_iload hx hb dX3_place_45 (lv_at hl 4 rfl) ?_
        refine lv_iconst (v := nI 2) hx hb dX3_place_47 (by decide) ?_
        refine lv_iadd hx hb dX3_place_48 ?_
        refine k_t1 (show (nI (25 * b + 6 * sl)) + (nI 2) = nI (25 * b + 6 * sl + 2) from nI_add _ _) ?_
        refine lv_iload hx hb dX3_place_49 (lv_at hl 5 rfl) ?_
        refine lv_iadd hx hb dX3_place_51 ?_
        refine k_t1 (show (nI (25 * b + 6 * sl + 2)) + (nI k) = nI (25 * b + 6 * sl + 2 + k) from nI_add _ _) ?_
        refine lv_aload_n hx hb dX3_place_52 rfl (lv_at hl 0 rfl) ?_
        refine lv_iload_n hx hb dX3_place_53 rfl (lv_at hl 1 rfl) ?_
        refine lv_iload hx hb dX3_place_54 (lv_at hl 5 rfl) ?_
        refine k_vi (As := [.int (nI n), .int (nI k)]) (rest := [.int (nI (25 * b + 6 * sl + 2 + k)), .ref st]) (w2 := fun u : Unit => (wT cI cZ cJ t st ct hd lv wd num lc lvs nb nk key (setRow S b (putK (S b) sl n (L n) (Wd n) (2 + k))) C O L Wd)) ⟨hx, hb, hml, hown, hts⟩ (c_wordOf l D cI cZ cJ t st ct hd lv wd num lc lvs nb nk key (setRow S b (putK (S b) sl n (L n) (Wd n) (2 + k))) C O L Wd n k hT hn (by omega)) (cwV 2 hts gX3_place_X3_wordOf rfl rfl rfl (by decide +kernel) ⟨Nat.le_of_ble_eq_true rfl, Nat.le_of_ble_eq_true rfl⟩) hP hD hK hS hA [0, 1, 2, 3, 4, 5] [] [0, 1, 2, 3, 4, 5] rfl rfl (by decide) (fun u => rfl) rfl rfl (q0 := 0) rfl rfl hl.1 rfl (Nat.le_of_ble_eq_true rfl) dX3_place_56 ⟨Nat.le_of_ble_eq_true rfl, Nat.le_of_ble_eq_true rfl⟩ (fun r u H locs hu3 hP hD hS => ?_)
        obtain rfl : r = Wd n k := hu3
        refine k_iast hx hb hK hP hD hS 1 0 rfl rfl (25 * b + 6 * sl + 2 + k) (by omega) (by omega) (g := fl25 (setRow S b (putK (S b) sl n (L n) (Wd n) (2 + (k + 1))))) ((fl25_up (b := b) (i := 6 * sl + (2 + k)) (by omega) (by omega)).trans (congrArg fl25 (by rw [setRow_s, setRow_2, putK_s sloV_2]; rfl))) dX3_place_59 (fun H locs hP hD hS => ?_)
        have hP : va_P D vwCl (wT cI cZ cJ t st ct hd lv wd num lc lvs nb nk key (setRow S b (putK (S b) sl n (L n) (Wd n) (2 + (k + 1)))) C O L Wd) H := hP
        have hD : va_D A (wT cI cZ cJ t st ct hd lv wd num lc lvs nb nk key (setRow S b (putK (S b) sl n (L n) (Wd n) (2 + (k + 1)))) C O L Wd) := hD
        refine lv_iinc (v := nI (k + 1)) (lv' := [(5, .int (nI (k + 1))), (0, .ref t), (1, .int (nI n)), (2, .int (nI b)), (3, .int (nI sl)), (4, .int (nI (25 * b + 6 * sl)))]) hx hb dX3_place_60 hl (k := 5) rfl (nI_add k 1) (by decide) rfl (fun ls hl => ?_)
        refine lv_goto (tgt := 35) hx hb dX3_place_63 (by decide) ?_
        exact ihL1 (k + 1)  (by omega) (by omega)  _ _ _ hP hD hS (lv_sub hl [1, 2, 3, 4, 5, 0] rfl)
  exact L1 (4 + 1) 0  (by omega) (by omega)  _ _ _ hP hD hS (lv_sub hl [2, 3, 4, 5, 1, 0] rfl)

set_option maxHeartbeats 4000000 in
set_option maxRecDepth 100000 in
theorem c_hold (l : Launch) (D : va_G) (cI cZ cJ : ClassId) (t : Nat) (st : Nat) (ct : Nat) (hd : Nat) (lv : Nat) (wd : Nat) (num : Int32) (lc : Nat) (lvs : Nat) (nb : Nat) (nk : Nat) (key : Int32) (S : Nat → Nat → Int32) (C : Nat → Int32) (O : Nat → Int32) (L : Nat → Int32) (Wd : Nat → Nat → Int32) (b sl : Nat) (hT : TP lc lvs nb nk) (hb0 : b < nb) (hs : sl < 4) : KV l yX3_hold wsX3_hold ({ frames := 1, cells := 0, slots := 0, locals := 23 }) D (kty cI cZ cJ) [.ref t, .int (nI (25 * b + 6 * sl))] (wT cI cZ cJ t st ct hd lv wd num lc lvs nb nk key S C O L Wd) (fun (_ : Unit) => True) (fun _ : Unit => (wT cI cZ cJ t st ct hd lv wd num lc lvs nb nk key S C (hoO nk (S b) sl O) (hoL nk (S b) sl L) (hoW nk (S b) sl Wd))) 0 0 := by
  refine k_headV (cc := cX3_hold) (maxL := 4) (ret := none) (by decide) rfl (Nat.le_of_ble_eq_true rfl) ?_
  intro p e s m below meth c A ls args Q hx hb hr hml hts hown hlk hnm hA hK hP hD hS hl hQ
  have hq := hT.bd
  have hl : lv_has ls 4 [(0, .ref t), (1, .int (nI (25 * b + 6 * sl)))] := hl
  refine lv_aload_n hx hb dX3_hold_0 rfl (lv_at hl 0 rfl) ?_
  refine va_get (D := D) (ci := 3) (v := .ref st) (C := RX3) (T := TX3) (N := 11) hx hb hts (by decide +kernel) hown hK hP 0 rfl rfl 5 (by decide) (hts (.fieldLink RX3 27 "VeiledFiles$Tree" "store" "[I") (by decide +kernel)) (fun _ h9 => h9) rfl dX3_hold_1 ?_
  refine lv_iload_n hx hb dX3_hold_4 rfl (lv_at hl 1 rfl) ?_
  refine k_iald hx hb hK hP 1 0 rfl rfl (25 * b + 6 * sl) (by omega) (by omega) (v := S b (6 * sl)) (fl25_eq (b := b) (i := 6 * sl) (by omega) (by omega)) dX3_hold_5 ?_
  refine lv_iconst (v := nI 1) hx hb dX3_hold_6 (by decide) ?_
  refine lv_isub hx hb dX3_hold_7 ?_
  refine lv_istore_n (lv' := [(2, .int ((S b (6 * sl)) - (nI 1))), (0, .ref t), (1, .int (nI (25 * b + 6 * sl)))]) hx hb dX3_hold_8 rfl hl (by decide) rfl (fun ls hl => ?_)
  refine lv_iload_n hx hb dX3_hold_9 rfl (lv_at hl 0 rfl) ?_
  refine lv_if_lt (tgt := 21) hx hb dX3_hold_10 (by decide) (fun c1 => ?_) (fun c1 => ?_)
  · skip
    have hE1 : (wT cI cZ cJ t st ct hd lv wd num lc lvs nb nk key S C O L Wd) = (wT cI cZ cJ t st ct hd lv wd num lc lvs nb nk key S C (hoO nk (S b) sl O) L Wd) := by rw [hoO_n (noB_lt c1)]
    rw [hE1] at hP hD
    have hE2 : (wT cI cZ cJ t st ct hd lv wd num lc lvs nb nk key S C (hoO nk (S b) sl O) L Wd) = (wT cI cZ cJ t st ct hd lv wd num lc lvs nb nk key S C (hoO nk (S b) sl O) (hoL nk (S b) sl L) Wd) := by rw [hoL_n (noB_lt c1)]
    rw [hE2] at hP hD
    have hE3 : (wT cI cZ cJ t st ct hd lv wd num lc lvs nb nk key S C (hoO nk (S b) sl O) (hoL nk (S b) sl L) Wd) = (wT cI cZ cJ t st ct hd lv wd num lc lvs nb nk key S C (hoO nk (S b) sl O) (hoL nk (S b) sl L) (hoW nk (S b) sl Wd)) := by rw [hoW_n (noB_lt c1)]
    rw [hE3] at hP hD
    exact k_retv () hx hb hr hK hS hlk dX3_hold_21 hP hD (trivial) hQ
  · skip
    refine lv_iload_n hx hb dX3_hold_13 rfl (lv_at hl 0 rfl) ?_
    refine lv_aload_n hx hb dX3_hold_14 rfl (lv_at hl 1 rfl) ?_
    refine va_get (D := D) (ci := 3) (v := .int (nI nk)) (C := RX3) (T := TX3) (N := 11) hx hb hts (by decide +kernel) hown hK hP 0 rfl rfl 4 (by decide) (hts (.fieldLink RX3 24 "VeiledFiles$Tree" "blocks" "I") (by decide +kernel)) (fun _ h9 => h9) rfl dX3_hold_15 ?_
    have hnk : nk < 2147483648 := by omega
    refine lv_icmp_lt (tgt := 22) hx hb dX3_hold_18 (by decide) (fun c2 => ?_) (fun c2 => ?_)
    · skip
      obtain ⟨n, hn, hxn⟩ : ∃ n, n < nk ∧ S b (6 * sl) - nI 1 = nI n := noB_false hnk c1 (fun q => absurd c2 (Int32.not_lt.mpr q))
      have hxn1 : S b (6 * sl) - 1 = nI n := hxn
      rw [hxn] at hl
      refine lv_aload_n hx hb dX3_hold_22 rfl (lv_at hl 1 rfl) ?_
      refine va_get (D := D) (ci := 3) (v := .ref hd) (C := RX3) (T := TX3) (N := 11) hx hb hts (by decide +kernel) hown hK hP 0 rfl rfl 7 (by decide) (hts (.fieldLink RX3 34 "VeiledFiles$Tree" "held" "[Z") (by decide +kernel)) (fun _ h9 => h9) rfl dX3_hold_23 ?_
      refine lv_iload_n hx hb dX3_hold_26 rfl (lv_at hl 0 rfl) ?_
      refine lv_iconst (v := nI 1) hx hb dX3_hold_27 (by decide) ?_
      refine k_zast hx hb hK hP hD hS 3 1 rfl rfl n (by omega) (by omega) (g := (upd O n (nI 1))) (rfl) (by first | rfl | decide) dX3_hold_28 (fun H locs hP hD hS => ?_)
      have hP : va_P D vwCl (wT cI cZ cJ t st ct hd lv wd num lc lvs nb nk key S C (upd O n (nI 1)) L Wd) H := hP
      have hD : va_D A (wT cI cZ cJ t st ct hd lv wd num lc lvs nb nk key S C (upd O n (nI 1)) L Wd) := hD
      refine lv_aload_n hx hb dX3_hold_29 rfl (lv_at hl 1 rfl) ?_
      refine va_get (D := D) (ci := 3) (v := .ref lv) (C := RX3) (T := TX3) (N := 11) hx hb hts (by decide +kernel) hown hK hP 0 rfl rfl 8 (by decide) (hts (.fieldLink RX3 38 "VeiledFiles$Tree" "leaves" "[I") (by decide +kernel)) (fun _ h9 => h9) rfl dX3_hold_30 ?_
      refine lv_iload_n hx hb dX3_hold_33 rfl (lv_at hl 0 rfl) ?_
      refine lv_aload_n hx hb dX3_hold_34 rfl (lv_at hl 1 rfl) ?_
      refine va_get (D := D) (ci := 3) (v := .ref st) (C := RX3) (T := TX3) (N := 11) hx hb hts (by decide +kernel) hown hK hP 0 rfl rfl 5 (by decide) (hts (.fieldLink RX3 27 "VeiledFiles$Tree" "store" "[I") (by decide +kernel)) (fun _ h9 => h9) rfl dX3_hold_35 ?_
      refine lv_iload_n hx hb dX3_hold_38 rfl (lv_at hl 2 rfl) ?_
      refine lv_iconst (v := nI 1) hx hb dX3_hold_39 (by decide) ?_
      refine lv_iadd hx hb dX3_hold_40 ?_
      refine k_t1 (show (nI (25 * b + 6 * sl)) + (nI 1) = nI (25 * b + 6 * sl + 1) from nI_add _ _) ?_
      refine k_iald hx hb hK hP 1 0 rfl rfl (25 * b + 6 * sl + 1) (by omega) (by omega) (v := S b (6 * sl + 1)) (fl25_eq (b := b) (i := 6 * sl + 1) (by omega) (by omega)) dX3_hold_41 ?_
      refine k_iast hx hb hK hP hD hS 4 0 rfl rfl n (by omega) (by omega) (g := (upd L n (S b (6 * sl + 1)))) (rfl) dX3_hold_42 (fun H locs hP hD hS => ?_)
      have hP : va_P D vwCl (wT cI cZ cJ t st ct hd lv wd num lc lvs nb nk key S C (upd O n (nI 1)) (upd L n (S b (6 * sl + 1))) Wd) H := hP
      have hD : va_D A (wT cI cZ cJ t st ct hd lv wd num lc lvs nb nk key S C (upd O n (nI 1)) (upd L n (S b (6 * sl + 1))) Wd) := hD
      refine lv_iconst (v := nI 0) hx hb dX3_hold_43 (by decide) ?_
      refine lv_istore_n (lv' := [(3, .int (nI 0)), (2, .int (nI n)), (0, .ref t), (1, .int (nI (25 * b + 6 * sl)))]) hx hb dX3_hold_44 rfl hl (by decide) rfl (fun ls hl => ?_)
      have hE4 : (wT cI cZ cJ t st ct hd lv wd num lc lvs nb nk key S C (upd O n (nI 1)) (upd L n (S b (6 * sl + 1))) Wd) = (wT cI cZ cJ t st ct hd lv wd num lc lvs nb nk key S C (hoO nk (S b) sl O) (upd L n (S b (6 * sl + 1))) Wd) := by rw [hoO_y hn hnk hxn1]; rfl
      rw [hE4] at hP hD
      have hE5 : (wT cI cZ cJ t st ct hd lv wd num lc lvs nb nk key S C (hoO nk (S b) sl O) (upd L n (S b (6 * sl + 1))) Wd) = (wT cI cZ cJ t st ct hd lv wd num lc lvs nb nk key S C (hoO nk (S b) sl O) (hoL nk (S b) sl L) Wd) := by rw [hoL_y hn hnk hxn1]
      rw [hE5] at hP hD
      have hE6 : (wT cI cZ cJ t st ct hd lv wd num lc lvs nb nk key S C (hoO nk (S b) sl O) (hoL nk (S b) sl L) Wd) = (wT cI cZ cJ t st ct hd lv wd num lc lvs nb nk key S C (hoO nk (S b) sl O) (hoL nk (S b) sl L) (setRow Wd n (wdK (S b) sl (Wd n) 0))) := by rw [wdK_0, setRow_id]
      rw [hE6] at hP hD
      have L1 : ∀ (nf k : Nat) (hvL1 : k ≤ 4) (hFL1 : 4 - k < nf) (H : Heap) (locs : List Loc) (ls : Array Slot), va_P D vwCl (wT cI cZ cJ t st ct hd lv wd num lc lvs nb nk key S C (hoO nk (S b) sl O) (hoL nk (S b) sl L) (setRow Wd n (wdK (S b) sl (Wd n) k))) H → va_D A (wT cI cZ cJ t st ct hd lv wd num lc lvs nb nk key S C (hoO nk (S b) sl O) (hoL nk (S b) sl L) (setRow Wd n (wdK (S b) sl (Wd n) k))) → va_S A s.heap H locs → lv_has ls 4 [(0, .ref t), (1, .int (nI (25 * b + 6 * sl))), (2, .int (nI n)), (3, .int (nI k))] → W p l e ({ frames := 1, cells := 0, slots := 0, locals := 23 } : Room) s m args below meth c H locs 0 0 Q (F0 m 45 ls []) := by
        intro nf
        induction nf with
        | zero => intro k  hvL1 hFL1; omega
        | succ nf ihL1 =>
          intro k  hvL1 hFL1  H locs ls hP hD hS hl
          refine lv_iload_n hx hb dX3_hold_45 rfl (lv_at hl 3 rfl) ?_
          refine lv_iconst (v := nI 4) hx hb dX3_hold_46 (by decide) ?_
          refine k_icmp_ge (tgt := 72) hx hb (by omega) (by omega) dX3_hold_47 (by decide) (fun c3 => ?_) (fun c3 => ?_)
          · skip
            obtain rfl : k = 4 := by omega
            have hE7 : (wT cI cZ cJ t st ct hd lv wd num lc lvs nb nk key S C (hoO nk (S b) sl O) (hoL nk (S b) sl L) (setRow Wd n (wdK (S b) sl (Wd n) 4))) = (wT cI cZ cJ t st ct hd lv wd num lc lvs nb nk key S C (hoO nk (S b) sl O) (hoL nk (S b) sl L) (hoW nk (S b) sl Wd)) := by rw [hoW_y hn hnk hxn1]
            rw [hE7] at hP hD
            exact k_retv () hx hb hr hK hS hlk dX3_hold_72 hP hD (trivial) hQ
          · skip
            refine lv_aload_n hx hb dX3_hold_50 rfl (lv_at hl 0 rfl) ?_
            refine lv_iload_n hx hb dX3_hold_51 rfl (lv_at hl 2 rfl) ?_
            refine lv_iload_n hx hb dX3_hold_52 rfl (lv_at hl 3 rfl) ?_
            refine lv_aload_n hx hb dX3_hold_53 rfl (lv_at hl 0 rfl) ?_
            refine va_get (D := D) (ci := 3) (v := .ref st) (C := RX3) (T := TX3) (N := 11) hx hb hts (by decide +kernel) hown hK hP 0 rfl rfl 5 (by decide) (hts (.fieldLink RX3 27 "VeiledFiles$Tree" "store" "[I") (by decide +kernel)) (fun _ h9 => h9) rfl dX3_hold_54 ?_
            refine lv_iload_n hx hb dX3_hold_57 rfl (lv_at hl 1 rfl) ?_
            refine lv_iconst (v := nI 2) hx hb dX3_hold_58 (by decide) ?_
            refine lv_iadd hx hb dX3_hold_59 ?_
            refine k_t1 (show (nI (25 * b + 6 * sl)) + (nI 2) = nI (25 * b + 6 * sl + 2) from nI_add _ _) ?_
            refine lv_iload_n hx hb dX3_hold_60 rfl (lv_at hl 3 rfl) ?_
            refine lv_iadd hx hb dX3_hold_61 ?_
            refine k_t1 (show (nI (25 * b + 6 * sl + 2)) + (nI k) = nI (25 * b + 6 * sl + 2 + k) from nI_add _ _) ?_
            refine k_iald hx hb hK hP 1 0 rfl rfl (25 * b + 6 * sl + 2 + k) (by omega) (by omega) (v := S b (6 * sl + 2 + k)) (fl25_eq (b := b) (i := 6 * sl + 2 + k) (by omega) (by omega)) dX3_hold_62 ?_
            refine k_vv (As := [.int (nI n), .int (nI k), .int (S b (6 * sl + 2 + k))]) (rest := []) (w2 := fun u : Unit => (wT cI cZ cJ t st ct hd lv wd num lc lvs nb nk key S C (hoO nk (S b) sl O) (hoL nk (S b) sl L) (setRow (setRow Wd n (wdK (S b) sl (Wd n) k)) n (upd ((setRow Wd n (wdK (S b) sl (Wd n) k)) n) k (S b (6 * sl + 2 + k)))))) ⟨hx, hb, hml, hown, hts⟩ (c_setWord l D cI cZ cJ t st ct hd lv wd num lc lvs nb nk key S C (hoO nk (S b) sl O) (hoL nk (S b) sl L) (setRow Wd n (wdK (S b) sl (Wd n) k)) n k (S b (6 * sl + 2 + k)) hT hn (by omega)) (cwV 3 hts gX3_hold_X3_setWord rfl rfl rfl (by decide +kernel) ⟨Nat.le_of_ble_eq_true rfl, Nat.le_of_ble_eq_true rfl⟩) hP hD hK hS hA [0, 1, 2, 3, 4, 5] [] [0, 1, 2, 3, 4, 5] rfl rfl (by decide) (fun u => rfl) rfl rfl (q0 := 0) rfl rfl hl.1 rfl (Nat.le_of_ble_eq_true rfl) dX3_hold_63 ⟨Nat.le_of_ble_eq_true rfl, Nat.le_of_ble_eq_true rfl⟩ (fun u H locs hu8 hP hD hS => ?_)
            have hE9 : (wT cI cZ cJ t st ct hd lv wd num lc lvs nb nk key S C (hoO nk (S b) sl O) (hoL nk (S b) sl L) (setRow (setRow Wd n (wdK (S b) sl (Wd n) k)) n (upd ((setRow Wd n (wdK (S b) sl (Wd n) k)) n) k (S b (6 * sl + 2 + k))))) = (wT cI cZ cJ t st ct hd lv wd num lc lvs nb nk key S C (hoO nk (S b) sl O) (hoL nk (S b) sl L) (setRow Wd n (wdK (S b) sl (Wd n) (k + 1)))) := by rw [setRow_s, setRow_2, wdK_s]
            rw [hE9] at hP hD
            refine lv_iinc (v := nI (k + 1)) (lv' := [(3, .int (nI (k + 1))), (0, .ref t), (1, .int (nI (25 * b + 6 * sl))), (2, .int (nI n))]) hx hb dX3_hold_66 hl (k := 3) rfl (nI_add k 1) (by decide) rfl (fun ls hl => ?_)
            refine lv_goto (tgt := 45) hx hb dX3_hold_69 (by decide) ?_
            exact ihL1 (k + 1)  (by omega) (by omega)  _ _ _ hP hD hS (lv_sub hl [1, 2, 3, 0] rfl)
      exact L1 (4 + 1) 0  (by omega) (by omega)  _ _ _ hP hD hS (lv_sub hl [2, 3, 1, 0] rfl)
    · skip
      have hE10 : (wT cI cZ cJ t st ct hd lv wd num lc lvs nb nk key S C O L Wd) = (wT cI cZ cJ t st ct hd lv wd num lc lvs nb nk key S C (hoO nk (S b) sl O) L Wd) := by rw [hoO_n (noB_ge (Int32.not_lt.mp c2))]
      rw [hE10] at hP hD
      have hE11 : (wT cI cZ cJ t st ct hd lv wd num lc lvs nb nk key S C (hoO nk (S b) sl O) L Wd) = (wT cI cZ cJ t st ct hd lv wd num lc lvs nb nk key S C (hoO nk (S b) sl O) (hoL nk (S b) sl L) Wd) := by rw [hoL_n (noB_ge (Int32.not_lt.mp c2))]
      rw [hE11] at hP hD
      have hE12 : (wT cI cZ cJ t st ct hd lv wd num lc lvs nb nk key S C (hoO nk (S b) sl O) (hoL nk (S b) sl L) Wd) = (wT cI cZ cJ t st ct hd lv wd num lc lvs nb nk key S C (hoO nk (S b) sl O) (hoL nk (S b) sl L) (hoW nk (S b) sl Wd)) := by rw [hoW_n (noB_ge (Int32.not_lt.mp c2))]
      rw [hE12] at hP hD
      exact k_retv () hx hb hr hK hS hlk dX3_hold_21 hP hD (trivial) hQ
end
section
/-! paths, the start -/
theorem path_inj32 : ∀ l, l < 32 → ∀ j, j < 6 → ∀ k, k < 6 → j ≠ k → pathB 32 l j ≠ pathB 32 l k := by decide +kernel
theorem path_inj4 : ∀ l, l < 4 → ∀ j, j < 3 → ∀ k, k < 3 → j ≠ k → pathB 4 l j ≠ pathB 4 l k := by decide +kernel
theorem pathB_ne {lc lvs nb nk l j k : Nat} (hT : TP lc lvs nb nk) (hl : l < lc) (hj : j < lvs) (hk : k < lvs) (h : j ≠ k) : pathB lc l j ≠ pathB lc l k := by
  rcases hT with ⟨rfl, rfl, -, -⟩ | ⟨rfl, rfl, -, -⟩
  · exact path_inj4 l hl j hj k hk h
  · exact path_inj32 l hl j hj k hk h
theorem zpS_at {lc lvs nb nk l : Nat} {S : Nat → Nat → Int32} (hT : TP lc lvs nb nk) (hl : l < lc) {j : Nat} (hj : j < lvs) : ∀ k, k ≤ j → zpS lc l S k (pathB lc l j) = S (pathB lc l j)
  | 0, _ => rfl
  | k + 1, hk => by
    show setRow (zpS lc l S k) (pathB lc l k) zrow (pathB lc l j) = S (pathB lc l j)
    rw [setRow_n (pathB_ne hT hl hj (by omega) (by omega)), zpS_at hT hl hj k (by omega)]
theorem decR_zp {lc lvs nb nk l k : Nat} {S : Nat → Nat → Int32} {key num : Int32} {C : Nat → Int32} (hT : TP lc lvs nb nk) (hl : l < lc) (hk : k < lvs) : decR key num C (zpS lc l S k) (pathB lc l k) = rowsP key num C S lc l k := by
  funext i
  show zpS lc l S k (pathB lc l k) i ^^^ _ = S (pathB lc l k) i ^^^ _
  rw [zpS_at hT hl hk k (Nat.le_refl k)]
/-- put back: what the store has on the path above -/
theorem pbN_S {lc lvs nb nk l : Nat} {key num : Int32} {L : Nat → Int32} {Wd : Nat → Nat → Int32} {S : Nat → Nat → Int32} {C O : Nat → Int32} (hT : TP lc lvs nb nk) (hl : l < lc) {j : Nat} (hj : j < lvs) : ∀ k, k ≤ j → (pbN key num lc nk l L Wd S C O k).1 (pathB lc l j) = S (pathB lc l j)
  | 0, _ => rfl
  | k + 1, hk => by
    show setRow (pbN key num lc nk l L Wd S C O k).1 (pathB lc l k) _ (pathB lc l j) = S (pathB lc l j)
    rw [setRow_n (pathB_ne hT hl hj (by omega) (by omega)), pbN_S hT hl hj k (by omega)]
theorem fill_sub {lc up b : Nat} {L : Nat → Int32} {Wd : Nat → Nat → Int32} {w0 O : Nat → Int32} {P : Nat → Prop} (h : ∀ n, O n ≠ 0 → P n) : ∀ k n, (fillN lc up b L Wd w0 O k).2.1 n ≠ 0 → P n
  | 0, n, hn => h n hn
  | k + 1, n, hn => by
    rw [fillN] at hn
    by_cases hc : (fillN lc up b L Wd w0 O k).2.2 < 4 ∧ (fillN lc up b L Wd w0 O k).2.1 k ≠ 0 ∧ pathB lc (L k).toNatClampNeg up = b
    · rw [if_pos hc] at hn
      by_cases hnk : n = k
      · subst hnk; exact absurd (pk_us (f := (fillN lc up b L Wd w0 O n).2.1)) hn
      · exact fill_sub h k n (by
          have e : upd (fillN lc up b L Wd w0 O k).2.1 k 0 n = (fillN lc up b L Wd w0 O k).2.1 n := pk_un hnk
          rw [← e]; exact hn)
    · rw [if_neg hc] at hn; exact fill_sub h k n hn
theorem pb_sub {lc nk l : Nat} {key num : Int32} {L : Nat → Int32} {Wd : Nat → Nat → Int32} {S : Nat → Nat → Int32} {C O : Nat → Int32} {P : Nat → Prop} (h : ∀ n, O n ≠ 0 → P n) : ∀ k n, (pbN key num lc nk l L Wd S C O k).2.2 n ≠ 0 → P n
  | 0, n, hn => h n hn
  | k + 1, n, hn => fill_sub (fun n q => pb_sub h k n q) nk n hn
/-- the blocks settled one by one -/
def saN (lc lvs : Nat) (L : Nat → Int32) (Wd : Nat → Nat → Int32) (S : Nat → Nat → Int32) (O : Nat → Int32) : Nat → (Nat → Nat → Int32) × (Nat → Int32)
  | 0 => (S, O)
  | n + 1 => (stS lc lvs (L n).toNatClampNeg n (L n) (Wd n) (saN lc lvs L Wd S O n).1, stO lc lvs (L n).toNatClampNeg n (saN lc lvs L Wd S O n).1 (saN lc lvs L Wd S O n).2)
/-- the first k buckets sealed -/
def seK (key num : Int32) (C : Nat → Int32) (S : Nat → Nat → Int32) (k : Nat) : Nat → Nat → Int32 := fun b => if b < k then sealR key num (C b) b (S b) else S b
theorem seK_0 {key num : Int32} {C : Nat → Int32} {S : Nat → Nat → Int32} : seK key num C S 0 = S := by funext b; simp [seK]
theorem seK_at {key num : Int32} {C : Nat → Int32} {S : Nat → Nat → Int32} {k : Nat} : seK key num C S k k = S k := by simp [seK]
theorem seK_s {key num : Int32} {C : Nat → Int32} {S : Nat → Nat → Int32} {k : Nat} : setRow (seK key num C S k) k (sealR key num (C k) k (S k)) = seK key num C S (k + 1) := by
  funext b
  by_cases h : b = k
  · subst h; simp [setRow, seK]
  · have h1 : (b < k + 1) = (b < k) := by apply propext; omega
    simp [setRow, h, seK, h1]
theorem st_y {lc lvs l n up sl : Nat} {lf : Int32} {wd : Nat → Int32} {S : Nat → Nat → Int32} {O : Nat → Int32} (hu : up < lvs) (hs : sl < 4) (h0 : S (pathB lc l up) (6 * sl) = 0) (hf : ∀ j, j < 4 * up + sl → ¬ S (pathB lc l (j / 4)) (6 * (j % 4)) = 0) :
    stS lc lvs l n lf wd S = setRow S (pathB lc l up) (putR (S (pathB lc l up)) sl n lf wd) ∧ stO lc lvs l n S O = upd O n 0 := by
  have e1 : (4 * up + sl) / 4 = up := by omega
  have e2 : (4 * up + sl) % 4 = sl := by omega
  have hq : stQ lc lvs l S = 4 * up + sl := by
    refine ff_at (by omega) ?_ (fun j hj => ?_)
    · show decide (S (pathB lc l ((4 * up + sl) / 4)) (6 * ((4 * up + sl) % 4)) = 0) = true
      rw [e1, e2]; simpa using h0
    · show decide (S (pathB lc l (j / 4)) (6 * (j % 4)) = 0) = false
      simpa using hf j hj
  have hlt : 4 * up + sl < 4 * lvs := by omega
  refine ⟨?_, ?_⟩
  · rw [stS, hq, if_pos hlt, e1, e2]
  · rw [stO, hq, if_pos hlt]
theorem st_n {lc lvs l n : Nat} {lf : Int32} {wd : Nat → Int32} {S : Nat → Nat → Int32} {O : Nat → Int32} (hf : ∀ j, j < 4 * lvs → ¬ S (pathB lc l (j / 4)) (6 * (j % 4)) = 0) :
    stS lc lvs l n lf wd S = S ∧ stO lc lvs l n S O = O := by
  have hq : stQ lc lvs l S = 4 * lvs := by
    refine ff_no (fun j hj => ?_)
    show decide (S (pathB lc l (j / 4)) (6 * (j % 4)) = 0) = false
    simpa using hf j hj
  exact ⟨by rw [stS, hq, if_neg (Nat.lt_irrefl _)], by rw [stO, hq, if_neg (Nat.lt_irrefl _)]⟩
end
section
set_option maxHeartbeats 4000000 in
set_option maxRecDepth 100000 in
theorem c_unload (l : Launch) (D : va_G) (cI cZ cJ : ClassId) (t : Nat) (st : Nat) (ct : Nat) (hd : Nat) (lv : Nat) (wd : Nat) (num : Int32) (lc : Nat) (lvs : Nat) (nb : Nat) (nk : Nat) (key : Int32) (S : Nat → Nat → Int32) (C : Nat → Int32) (O : Nat → Int32) (L : Nat → Int32) (Wd : Nat → Nat → Int32) (b : Nat) (hT : TP lc lvs nb nk) (hb0 : b < nb) : KV l yX3_unload wsX3_unload ({ frames := 2, cells := 0, slots := 0, locals := 46 }) D (kty cI cZ cJ) [.ref t, .int (nI b)] (wT cI cZ cJ t st ct hd lv wd num lc lvs nb nk key S C O L Wd) (fun (_ : Unit) => True) (fun _ : Unit => (wT cI cZ cJ t st ct hd lv wd num lc lvs nb nk key (setRow S b zrow) C (opO nk (decR key num C S b) O 4) (opL nk (decR key num C S b) L 4) (opW nk (decR key num C S b) Wd 4))) 0 0 := by
  refine k_headV (cc := cX3_unload) (maxL := 4) (ret := none) (by decide) rfl (Nat.le_of_ble_eq_true rfl) ?_
  intro p e s m below meth c A ls args Q hx hb hr hml hts hown hlk hnm hA hK hP hD hS hl hQ
  have hq := hT.bd
  have hl : lv_has ls 4 [(0, .ref t), (1, .int (nI b))] := hl
  refine lv_aload_n hx hb dX3_unload_0 rfl (lv_at hl 0 rfl) ?_
  refine lv_iload_n hx hb dX3_unload_1 rfl (lv_at hl 1 rfl) ?_
  refine k_vv (As := [.int (nI b)]) (rest := []) (w2 := fun u : Unit => (wT cI cZ cJ t st ct hd lv wd num lc lvs nb nk key (setRow S b (maskR key num (C b) b (S b) 24)) C O L Wd)) ⟨hx, hb, hml, hown, hts⟩ (c_maskWords l D cI cZ cJ t st ct hd lv wd num lc lvs nb nk key S C O L Wd b hT hb0) (cwV 1 hts gX3_unload_X3_maskWords rfl rfl rfl (by decide +kernel) ⟨Nat.le_of_ble_eq_true rfl, Nat.le_of_ble_eq_true rfl⟩) hP hD hK hS hA [0, 1, 2, 3, 4, 5] [] [0, 1, 2, 3, 4, 5] rfl rfl (by decide) (fun u => rfl) rfl rfl (q0 := 0) rfl rfl hl.1 rfl (Nat.le_of_ble_eq_true rfl) dX3_unload_2 ⟨Nat.le_of_ble_eq_true rfl, Nat.le_of_ble_eq_true rfl⟩ (fun u H locs hu1 hP hD hS => ?_)
  refine lv_iconst (v := nI 0) hx hb dX3_unload_5 (by decide) ?_
  refine lv_istore_n (lv' := [(2, .int (nI 0)), (0, .ref t), (1, .int (nI b))]) hx hb dX3_unload_6 rfl hl (by decide) rfl (fun ls hl => ?_)
  have L1 : ∀ (nf k : Nat) (hvL1 : k ≤ 4) (hFL1 : 4 - k < nf) (H : Heap) (locs : List Loc) (ls : Array Slot), va_P D vwCl (wT cI cZ cJ t st ct hd lv wd num lc lvs nb nk key (setRow S b (maskR key num (C b) b (S b) 24)) C (opO nk (maskR key num (C b) b (S b) 24) O k) (opL nk (maskR key num (C b) b (S b) 24) L k) (opW nk (maskR key num (C b) b (S b) 24) Wd k)) H → va_D A (wT cI cZ cJ t st ct hd lv wd num lc lvs nb nk key (setRow S b (maskR key num (C b) b (S b) 24)) C (opO nk (maskR key num (C b) b (S b) 24) O k) (opL nk (maskR key num (C b) b (S b) 24) L k) (opW nk (maskR key num (C b) b (S b) 24) Wd k)) → va_S A s.heap H locs → lv_has ls 4 [(0, .ref t), (1, .int (nI b)), (2, .int (nI k))] → W p l e ({ frames := 2, cells := 0, slots := 0, locals := 46 } : Room) s m args below meth c H locs 0 0 Q (F0 m 7 ls []) := by
    intro nf
    induction nf with
    | zero => intro k  hvL1 hFL1; omega
    | succ nf ihL1 =>
      intro k  hvL1 hFL1  H locs ls hP hD hS hl
      refine lv_iload_n hx hb dX3_unload_7 rfl (lv_at hl 2 rfl) ?_
      refine lv_iconst (v := nI 4) hx hb dX3_unload_8 (by decide) ?_
      refine k_icmp_ge (tgt := 27) hx hb (by omega) (by omega) dX3_unload_9 (by decide) (fun c1 => ?_) (fun c1 => ?_)
      · skip
        obtain rfl : k = 4 := by omega
        have hE2 : (wT cI cZ cJ t st ct hd lv wd num lc lvs nb nk key (setRow S b (maskR key num (C b) b (S b) 24)) C (opO nk (maskR key num (C b) b (S b) 24) O 4) (opL nk (maskR key num (C b) b (S b) 24) L 4) (opW nk (maskR key num (C b) b (S b) 24) Wd 4)) = (wT cI cZ cJ t st ct hd lv wd num lc lvs nb nk key (setRow S b (maskR key num (C b) b (S b) 24)) C (opO nk (decR key num C S b) O 4) (opL nk (maskR key num (C b) b (S b) 24) L 4) (opW nk (maskR key num (C b) b (S b) 24) Wd 4)) := by rw [opO_congr mask_dec (Nat.le_refl 4)]
        rw [hE2] at hP hD
        have hE3 : (wT cI cZ cJ t st ct hd lv wd num lc lvs nb nk key (setRow S b (maskR key num (C b) b (S b) 24)) C (opO nk (decR key num C S b) O 4) (opL nk (maskR key num (C b) b (S b) 24) L 4) (opW nk (maskR key num (C b) b (S b) 24) Wd 4)) = (wT cI cZ cJ t st ct hd lv wd num lc lvs nb nk key (setRow S b (maskR key num (C b) b (S b) 24)) C (opO nk (decR key num C S b) O 4) (opL nk (decR key num C S b) L 4) (opW nk (maskR key num (C b) b (S b) 24) Wd 4)) := by rw [opL_congr mask_dec (Nat.le_refl 4)]
        rw [hE3] at hP hD
        have hE4 : (wT cI cZ cJ t st ct hd lv wd num lc lvs nb nk key (setRow S b (maskR key num (C b) b (S b) 24)) C (opO nk (decR key num C S b) O 4) (opL nk (decR key num C S b) L 4) (opW nk (maskR key num (C b) b (S b) 24) Wd 4)) = (wT cI cZ cJ t st ct hd lv wd num lc lvs nb nk key (setRow S b (maskR key num (C b) b (S b) 24)) C (opO nk (decR key num C S b) O 4) (opL nk (decR key num C S b) L 4) (opW nk (decR key num C S b) Wd 4)) := by rw [opW_congr mask_dec (Nat.le_refl 4)]
        rw [hE4] at hP hD
        refine lv_iload_n hx hb dX3_unload_27 rfl (lv_at hl 1 rfl) ?_
        refine lv_bipush (v := nI 25) hx hb dX3_unload_28 (by decide) ?_
        refine lv_imul hx hb dX3_unload_30 ?_
        refine k_t1 (show (nI b) * (nI 25) = nI (b * 25) from pk_mul _ _) ?_
        refine lv_istore_n (lv' := [(2, .int (nI (b * 25))), (0, .ref t), (1, .int (nI b))]) hx hb dX3_unload_31 rfl hl (by decide) rfl (fun ls hl => ?_)
        refine lv_iconst (v := nI 0) hx hb dX3_unload_32 (by decide) ?_
        refine lv_istore_n (lv' := [(3, .int (nI 0)), (2, .int (nI (b * 25))), (0, .ref t), (1, .int (nI b))]) hx hb dX3_unload_33 rfl hl (by decide) rfl (fun ls hl => ?_)
        have hE5 : (wT cI cZ cJ t st ct hd lv wd num lc lvs nb nk key (setRow S b (maskR key num (C b) b (S b) 24)) C (opO nk (decR key num C S b) O 4) (opL nk (decR key num C S b) L 4) (opW nk (decR key num C S b) Wd 4)) = (wT cI cZ cJ t st ct hd lv wd num lc lvs nb nk key (setRow S b (zerK (maskR key num (C b) b (S b) 24) 0)) C (opO nk (decR key num C S b) O 4) (opL nk (decR key num C S b) L 4) (opW nk (decR key num C S b) Wd 4)) := by rw [zerK_0]
        rw [hE5] at hP hD
        have L2 : ∀ (nf k : Nat) (hvL2 : k ≤ 25) (hFL2 : 25 - k < nf) (H : Heap) (locs : List Loc) (ls : Array Slot), va_P D vwCl (wT cI cZ cJ t st ct hd lv wd num lc lvs nb nk key (setRow S b (zerK (maskR key num (C b) b (S b) 24) k)) C (opO nk (decR key num C S b) O 4) (opL nk (decR key num C S b) L 4) (opW nk (decR key num C S b) Wd 4)) H → va_D A (wT cI cZ cJ t st ct hd lv wd num lc lvs nb nk key (setRow S b (zerK (maskR key num (C b) b (S b) 24) k)) C (opO nk (decR key num C S b) O 4) (opL nk (decR key num C S b) L 4) (opW nk (decR key num C S b) Wd 4)) → va_S A s.heap H locs → lv_has ls 4 [(0, .ref t), (1, .int (nI b)), (2, .int (nI (b * 25))), (3, .int (nI k))] → W p l e ({ frames := 2, cells := 0, slots := 0, locals := 46 } : Room) s m args below meth c H locs 0 0 Q (F0 m 34 ls []) := by
          intro nf
          induction nf with
          | zero => intro k  hvL2 hFL2; omega
          | succ nf ihL2 =>
            intro k  hvL2 hFL2  H locs ls hP hD hS hl
            refine lv_iload_n hx hb dX3_unload_34 rfl (lv_at hl 3 rfl) ?_
            refine lv_bipush (v := nI 25) hx hb dX3_unload_35 (by decide) ?_
            refine k_icmp_ge (tgt := 55) hx hb (by omega) (by omega) dX3_unload_37 (by decide) (fun c2 => ?_) (fun c2 => ?_)
            · skip
              obtain rfl : k = 25 := by omega
              have hP : va_P D vwCl (wT cI cZ cJ t st ct hd lv wd num lc lvs nb nk key (setRow S b zrow) C (opO nk (decR key num C S b) O 4) (opL nk (decR key num C S b) L 4) (opW nk (decR key num C S b) Wd 4)) H := k_extP (q0 := 1) hP rfl (fun j hj => congrFun fl25_zer j)
              have hD : va_D A (wT cI cZ cJ t st ct hd lv wd num lc lvs nb nk key (setRow S b zrow) C (opO nk (decR key num C S b) O 4) (opL nk (decR key num C S b) L 4) (opW nk (decR key num C S b) Wd 4)) := hD.set (p := 1) rfl
              exact k_retv () hx hb hr hK hS hlk dX3_unload_55 hP hD (trivial) hQ
            · skip
              refine lv_aload_n hx hb dX3_unload_40 rfl (lv_at hl 0 rfl) ?_
              refine va_get (D := D) (ci := 3) (v := .ref st) (C := RX3) (T := TX3) (N := 11) hx hb hts (by decide +kernel) hown hK hP 0 rfl rfl 5 (by decide) (hts (.fieldLink RX3 27 "VeiledFiles$Tree" "store" "[I") (by decide +kernel)) (fun _ h9 => h9) rfl dX3_unload_41 ?_
              refine lv_iload_n hx hb dX3_unload_44 rfl (lv_at hl 2 rfl) ?_
              refine lv_iload_n hx hb dX3_unload_45 rfl (lv_at hl 3 rfl) ?_
              refine lv_iadd hx hb dX3_unload_46 ?_
              refine k_t1 (show (nI (b * 25)) + (nI k) = nI (b * 25 + k) from nI_add _ _) ?_
              refine lv_iconst (v := nI 0) hx hb dX3_unload_47 (by decide) ?_
              refine k_iast hx hb hK hP hD hS 1 0 rfl rfl (b * 25 + k) (by omega) (by omega) (g := fl25 (setRow S b (zerK (maskR key num (C b) b (S b) 24) (k + 1)))) ((fl25_up (b := b) (i := k) (by omega) (by omega)).trans (congrArg fl25 (by rw [setRow_s, setRow_2]; exact congrArg (setRow S b) zerK_s))) dX3_unload_48 (fun H locs hP hD hS => ?_)
              have hP : va_P D vwCl (wT cI cZ cJ t st ct hd lv wd num lc lvs nb nk key (setRow S b (zerK (maskR key num (C b) b (S b) 24) (k + 1))) C (opO nk (decR key num C S b) O 4) (opL nk (decR key num C S b) L 4) (opW nk (decR key num C S b) Wd 4)) H := hP
              have hD : va_D A (wT cI cZ cJ t st ct hd lv wd num lc lvs nb nk key (setRow S b (zerK (maskR key num (C b) b (S b) 24) (k + 1))) C (opO nk (decR key num C S b) O 4) (opL nk (decR key num C S b) L 4) (opW nk (decR key num C S b) Wd 4)) := hD
              refine lv_iinc (v := nI (k + 1)) (lv' := [(3, .int (nI (k + 1))), (0, .ref t), (1, .int (nI b)), (2, .int (nI (b * 25)))]) hx hb dX3_unload_49 hl (k := 3) rfl (nI_add k 1) (by decide) rfl (fun ls hl => ?_)
              refine lv_goto (tgt := 34) hx hb dX3_unload_52 (by decide) ?_
              exact ihL2 (k + 1)  (by omega) (by omega)  _ _ _ hP hD hS (lv_sub hl [1, 2, 3, 0] rfl)
        exact L2 (25 + 1) 0  (by omega) (by omega)  _ _ _ hP hD hS (lv_sub hl [2, 3, 1, 0] rfl)
      · skip
        refine lv_aload_n hx hb dX3_unload_12 rfl (lv_at hl 0 rfl) ?_
        refine lv_iload_n hx hb dX3_unload_13 rfl (lv_at hl 1 rfl) ?_
        refine lv_iload_n hx hb dX3_unload_14 rfl (lv_at hl 2 rfl) ?_
        refine k_si (As := [.int (nI b), .int (nI k)]) (rest := [.ref t]) (w2 := fun u : Unit => (wT cI cZ cJ t st ct hd lv wd num lc lvs nb nk key (setRow S b (maskR key num (C b) b (S b) 24)) C (opO nk (maskR key num (C b) b (S b) 24) O k) (opL nk (maskR key num (C b) b (S b) 24) L k) (opW nk (maskR key num (C b) b (S b) 24) Wd k))) ⟨hx, hb, hml, hown, hts⟩ (c_slotStart l D cI cZ cJ  b k) (va_cwS 2 hts gX3_unload_X3_slotStart rfl rfl rfl (by decide +kernel) ⟨Nat.le_of_ble_eq_true rfl, Nat.le_of_ble_eq_true rfl⟩) hP hD hK hS hA [] [0, 1, 2, 3, 4, 5] [0, 1, 2, 3, 4, 5] rfl rfl (by decide) (fun u => rfl) rfl hl.1 rfl (Nat.le_of_ble_eq_true rfl) dX3_unload_15 ⟨Nat.le_of_ble_eq_true rfl, Nat.le_of_ble_eq_true rfl⟩ (fun r u H locs hu6 hP hD hS => ?_)
        obtain rfl : r = nI (25 * b + 6 * k) := hu6
        refine k_vv (As := [.int (nI (25 * b + 6 * k))]) (rest := []) (w2 := fun u : Unit => (wT cI cZ cJ t st ct hd lv wd num lc lvs nb nk key (setRow S b (maskR key num (C b) b (S b) 24)) C (hoO nk (setRow S b (maskR key num (C b) b (S b) 24) b) k (opO nk (maskR key num (C b) b (S b) 24) O k)) (hoL nk (setRow S b (maskR key num (C b) b (S b) 24) b) k (opL nk (maskR key num (C b) b (S b) 24) L k)) (hoW nk (setRow S b (maskR key num (C b) b (S b) 24) b) k (opW nk (maskR key num (C b) b (S b) 24) Wd k)))) ⟨hx, hb, hml, hown, hts⟩ (c_hold l D cI cZ cJ t st ct hd lv wd num lc lvs nb nk key (setRow S b (maskR key num (C b) b (S b) 24)) C (opO nk (maskR key num (C b) b (S b) 24) O k) (opL nk (maskR key num (C b) b (S b) 24) L k) (opW nk (maskR key num (C b) b (S b) 24) Wd k) b k hT hb0 (by omega)) (cwV 1 hts gX3_unload_X3_hold rfl rfl rfl (by decide +kernel) ⟨Nat.le_of_ble_eq_true rfl, Nat.le_of_ble_eq_true rfl⟩) hP hD hK hS hA [0, 1, 2, 3, 4, 5] [] [0, 1, 2, 3, 4, 5] rfl rfl (by decide) (fun u => rfl) rfl rfl (q0 := 0) rfl rfl hl.1 rfl (Nat.le_of_ble_eq_true rfl) dX3_unload_18 ⟨Nat.le_of_ble_eq_true rfl, Nat.le_of_ble_eq_true rfl⟩ (fun u H locs hu7 hP hD hS => ?_)
        have hE8 : (wT cI cZ cJ t st ct hd lv wd num lc lvs nb nk key (setRow S b (maskR key num (C b) b (S b) 24)) C (hoO nk (setRow S b (maskR key num (C b) b (S b) 24) b) k (opO nk (maskR key num (C b) b (S b) 24) O k)) (hoL nk (setRow S b (maskR key num (C b) b (S b) 24) b) k (opL nk (maskR key num (C b) b (S b) 24) L k)) (hoW nk (setRow S b (maskR key num (C b) b (S b) 24) b) k (opW nk (maskR key num (C b) b (S b) 24) Wd k))) = (wT cI cZ cJ t st ct hd lv wd num lc lvs nb nk key (setRow S b (maskR key num (C b) b (S b) 24)) C (opO nk (maskR key num (C b) b (S b) 24) O (k + 1)) (hoL nk (setRow S b (maskR key num (C b) b (S b) 24) b) k (opL nk (maskR key num (C b) b (S b) 24) L k)) (hoW nk (setRow S b (maskR key num (C b) b (S b) 24) b) k (opW nk (maskR key num (C b) b (S b) 24) Wd k))) := by rw [setRow_s]; rfl
        rw [hE8] at hP hD
        have hE9 : (wT cI cZ cJ t st ct hd lv wd num lc lvs nb nk key (setRow S b (maskR key num (C b) b (S b) 24)) C (opO nk (maskR key num (C b) b (S b) 24) O (k + 1)) (hoL nk (setRow S b (maskR key num (C b) b (S b) 24) b) k (opL nk (maskR key num (C b) b (S b) 24) L k)) (hoW nk (setRow S b (maskR key num (C b) b (S b) 24) b) k (opW nk (maskR key num (C b) b (S b) 24) Wd k))) = (wT cI cZ cJ t st ct hd lv wd num lc lvs nb nk key (setRow S b (maskR key num (C b) b (S b) 24)) C (opO nk (maskR key num (C b) b (S b) 24) O (k + 1)) (opL nk (maskR key num (C b) b (S b) 24) L (k + 1)) (hoW nk (setRow S b (maskR key num (C b) b (S b) 24) b) k (opW nk (maskR key num (C b) b (S b) 24) Wd k))) := by rw [setRow_s]; rfl
        rw [hE9] at hP hD
        have hE10 : (wT cI cZ cJ t st ct hd lv wd num lc lvs nb nk key (setRow S b (maskR key num (C b) b (S b) 24)) C (opO nk (maskR key num (C b) b (S b) 24) O (k + 1)) (opL nk (maskR key num (C b) b (S b) 24) L (k + 1)) (hoW nk (setRow S b (maskR key num (C b) b (S b) 24) b) k (opW nk (maskR key num (C b) b (S b) 24) Wd k))) = (wT cI cZ cJ t st ct hd lv wd num lc lvs nb nk key (setRow S b (maskR key num (C b) b (S b) 24)) C (opO nk (maskR key num (C b) b (S b) 24) O (k + 1)) (opL nk (maskR key num (C b) b (S b) 24) L (k + 1)) (opW nk (maskR key num (C b) b (S b) 24) Wd (k + 1))) := by rw [setRow_s]; rfl
        rw [hE10] at hP hD
        refine lv_iinc (v := nI (k + 1)) (lv' := [(2, .int (nI (k + 1))), (0, .ref t), (1, .int (nI b))]) hx hb dX3_unload_21 hl (k := 2) rfl (nI_add k 1) (by decide) rfl (fun ls hl => ?_)
        refine lv_goto (tgt := 7) hx hb dX3_unload_24 (by decide) ?_
        exact ihL1 (k + 1)  (by omega) (by omega)  _ _ _ hP hD hS (lv_sub hl [1, 2, 0] rfl)
  exact L1 (4 + 1) 0  (by omega) (by omega)  _ _ _ hP hD hS (lv_sub hl [1, 2, 0] rfl)

set_option maxHeartbeats 4000000 in
set_option maxRecDepth 100000 in
theorem c_take_y (l : Launch) (D : va_G) (cI cZ cJ : ClassId) (t : Nat) (st : Nat) (ct : Nat) (hd : Nat) (lv : Nat) (wd : Nat) (num : Int32) (lc : Nat) (lvs : Nat) (nb : Nat) (nk : Nat) (key : Int32) (S : Nat → Nat → Int32) (C : Nat → Int32) (O : Nat → Int32) (L : Nat → Int32) (Wd : Nat → Nat → Int32) (l0 : Nat) (hT : TP lc lvs nb nk) (hl0 : l0 < lc) (hw : ∀ up, up < lvs → wholeB key num C S (pathB lc l0 up)) : KI l yX3_take wsX3_take ({ frames := 3, cells := 0, slots := 0, locals := 69 }) D (kty cI cZ cJ) [.ref t, .int (nI l0)] (wT cI cZ cJ t st ct hd lv wd num lc lvs nb nk key S C O L Wd) (fun r (_ : Unit) => r = 1) (fun _ : Unit => (wT cI cZ cJ t st ct hd lv wd num lc lvs nb nk key (zpS lc l0 S lvs) C (tkO nk (rowsP key num C S lc l0) O lvs) (tkL nk (rowsP key num C S lc l0) L lvs) (tkW nk (rowsP key num C S lc l0) Wd lvs))) 0 0 := by
  refine k_headI (cc := cX3_take) (maxL := 3) (ret := (some .boolean)) (by decide) rfl (Nat.le_of_ble_eq_true rfl) ?_
  intro p e s m below meth c A ls args Q hx hb hr hml hts hown hlk hnm hA hK hP hD hS hl hQ
  have hq := hT.bd
  have hl : lv_has ls 3 [(0, .ref t), (1, .int (nI l0))] := hl
  refine lv_iconst (v := nI 0) hx hb dX3_take_0 (by decide) ?_
  refine lv_istore_n (lv' := [(2, .int (nI 0)), (0, .ref t), (1, .int (nI l0))]) hx hb dX3_take_1 rfl hl (by decide) rfl (fun ls hl => ?_)
  have L1 : ∀ (nf k : Nat) (hvL1 : k ≤ lvs) (hFL1 : lvs - k < nf) (H : Heap) (locs : List Loc) (ls : Array Slot), va_P D vwCl (wT cI cZ cJ t st ct hd lv wd num lc lvs nb nk key S C O L Wd) H → va_D A (wT cI cZ cJ t st ct hd lv wd num lc lvs nb nk key S C O L Wd) → va_S A s.heap H locs → lv_has ls 3 [(0, .ref t), (1, .int (nI l0)), (2, .int (nI k))] → W p l e ({ frames := 3, cells := 0, slots := 0, locals := 69 } : Room) s m args below meth c H locs 0 0 Q (F0 m 2 ls []) := by
    intro nf
    induction nf with
    | zero => intro k  hvL1 hFL1; omega
    | succ nf ihL1 =>
      intro k  hvL1 hFL1  H locs ls hP hD hS hl
      refine lv_iload_n hx hb dX3_take_2 rfl (lv_at hl 2 rfl) ?_
      refine lv_aload_n hx hb dX3_take_3 rfl (lv_at hl 0 rfl) ?_
      refine va_get (D := D) (ci := 3) (v := .int (nI lvs)) (C := RX3) (T := TX3) (N := 11) hx hb hts (by decide +kernel) hown hK hP 0 rfl rfl 2 (by decide) (hts (.fieldLink RX3 18 "VeiledFiles$Tree" "levels" "I") (by decide +kernel)) (fun _ h9 => h9) rfl dX3_take_4 ?_
      refine k_icmp_ge (tgt := 31) hx hb (by omega) (by omega) dX3_take_7 (by decide) (fun c1 => ?_) (fun c1 => ?_)
      · skip
        refine lv_iconst (v := nI 0) hx hb dX3_take_31 (by decide) ?_
        refine lv_istore_n (lv' := [(2, .int (nI 0)), (0, .ref t), (1, .int (nI l0))]) hx hb dX3_take_32 rfl hl (by decide) rfl (fun ls hl => ?_)
        have L2 : ∀ (nf k : Nat) (hvL2 : k ≤ lvs) (hFL2 : lvs - k < nf) (H : Heap) (locs : List Loc) (ls : Array Slot), va_P D vwCl (wT cI cZ cJ t st ct hd lv wd num lc lvs nb nk key (zpS lc l0 S k) C (tkO nk (rowsP key num C S lc l0) O k) (tkL nk (rowsP key num C S lc l0) L k) (tkW nk (rowsP key num C S lc l0) Wd k)) H → va_D A (wT cI cZ cJ t st ct hd lv wd num lc lvs nb nk key (zpS lc l0 S k) C (tkO nk (rowsP key num C S lc l0) O k) (tkL nk (rowsP key num C S lc l0) L k) (tkW nk (rowsP key num C S lc l0) Wd k)) → va_S A s.heap H locs → lv_has ls 3 [(0, .ref t), (1, .int (nI l0)), (2, .int (nI k))] → W p l e ({ frames := 3, cells := 0, slots := 0, locals := 69 } : Room) s m args below meth c H locs 0 0 Q (F0 m 33 ls []) := by
          intro nf
          induction nf with
          | zero => intro k  hvL2 hFL2; omega
          | succ nf ihL2 =>
            intro k  hvL2 hFL2  H locs ls hP hD hS hl
            refine lv_iload_n hx hb dX3_take_33 rfl (lv_at hl 2 rfl) ?_
            refine lv_aload_n hx hb dX3_take_34 rfl (lv_at hl 0 rfl) ?_
            refine va_get (D := D) (ci := 3) (v := .int (nI lvs)) (C := RX3) (T := TX3) (N := 11) hx hb hts (by decide +kernel) hown hK hP 0 rfl rfl 2 (by decide) (hts (.fieldLink RX3 18 "VeiledFiles$Tree" "levels" "I") (by decide +kernel)) (fun _ h9 => h9) rfl dX3_take_35 ?_
            refine k_icmp_ge (tgt := 57) hx hb (by omega) (by omega) dX3_take_38 (by decide) (fun c2 => ?_) (fun c2 => ?_)
            · skip
              obtain rfl : lvs = k := by omega
              refine lv_iconst (v := nI 1) hx hb dX3_take_57 (by decide) ?_
              exact k_retz () hx hb hr hK hS hlk dX3_take_58 ((by first | exact Or.inl rfl | exact Or.inr rfl)) hP hD (rfl) hQ
            · skip
              refine lv_aload_n hx hb dX3_take_41 rfl (lv_at hl 0 rfl) ?_
              refine lv_aload_n hx hb dX3_take_42 rfl (lv_at hl 0 rfl) ?_
              refine lv_iload_n hx hb dX3_take_43 rfl (lv_at hl 1 rfl) ?_
              refine lv_iload_n hx hb dX3_take_44 rfl (lv_at hl 2 rfl) ?_
              refine k_vi (As := [.int (nI l0), .int (nI k)]) (rest := [.ref t]) (w2 := fun u : Unit => (wT cI cZ cJ t st ct hd lv wd num lc lvs nb nk key (zpS lc l0 S k) C (tkO nk (rowsP key num C S lc l0) O k) (tkL nk (rowsP key num C S lc l0) L k) (tkW nk (rowsP key num C S lc l0) Wd k))) ⟨hx, hb, hml, hown, hts⟩ (c_bucketOver l D cI cZ cJ t st ct hd lv wd num lc lvs nb nk key (zpS lc l0 S k) C (tkO nk (rowsP key num C S lc l0) O k) (tkL nk (rowsP key num C S lc l0) L k) (tkW nk (rowsP key num C S lc l0) Wd k) l0 k hT hl0 c2) (cwV 2 hts gX3_take_X3_bucketOver rfl rfl rfl (by decide +kernel) ⟨Nat.le_of_ble_eq_true rfl, Nat.le_of_ble_eq_true rfl⟩) hP hD hK hS hA [0, 1, 2, 3, 4, 5] [] [0, 1, 2, 3, 4, 5] rfl rfl (by decide) (fun u => rfl) rfl rfl (q0 := 0) rfl rfl hl.1 rfl (Nat.le_of_ble_eq_true rfl) dX3_take_45 ⟨Nat.le_of_ble_eq_true rfl, Nat.le_of_ble_eq_true rfl⟩ (fun r u H locs hu1 hP hD hS => ?_)
              obtain rfl : r = nI (pathB lc l0 k) := hu1
              refine k_vv (As := [.int (nI (pathB lc l0 k))]) (rest := []) (w2 := fun u : Unit => (wT cI cZ cJ t st ct hd lv wd num lc lvs nb nk key (setRow (zpS lc l0 S k) (pathB lc l0 k) zrow) C (opO nk (decR key num C (zpS lc l0 S k) (pathB lc l0 k)) (tkO nk (rowsP key num C S lc l0) O k) 4) (opL nk (decR key num C (zpS lc l0 S k) (pathB lc l0 k)) (tkL nk (rowsP key num C S lc l0) L k) 4) (opW nk (decR key num C (zpS lc l0 S k) (pathB lc l0 k)) (tkW nk (rowsP key num C S lc l0) Wd k) 4))) ⟨hx, hb, hml, hown, hts⟩ (c_unload l D cI cZ cJ t st ct hd lv wd num lc lvs nb nk key (zpS lc l0 S k) C (tkO nk (rowsP key num C S lc l0) O k) (tkL nk (rowsP key num C S lc l0) L k) (tkW nk (rowsP key num C S lc l0) Wd k) (pathB lc l0 k) hT (pathB_lt hT hl0)) (cwV 1 hts gX3_take_X3_unload rfl rfl rfl (by decide +kernel) ⟨Nat.le_of_ble_eq_true rfl, Nat.le_of_ble_eq_true rfl⟩) hP hD hK hS hA [0, 1, 2, 3, 4, 5] [] [0, 1, 2, 3, 4, 5] rfl rfl (by decide) (fun u => rfl) rfl rfl (q0 := 0) rfl rfl hl.1 rfl (Nat.le_of_ble_eq_true rfl) dX3_take_48 ⟨Nat.le_of_ble_eq_true rfl, Nat.le_of_ble_eq_true rfl⟩ (fun u H locs hu2 hP hD hS => ?_)
              have hE3 : (wT cI cZ cJ t st ct hd lv wd num lc lvs nb nk key (setRow (zpS lc l0 S k) (pathB lc l0 k) zrow) C (opO nk (decR key num C (zpS lc l0 S k) (pathB lc l0 k)) (tkO nk (rowsP key num C S lc l0) O k) 4) (opL nk (decR key num C (zpS lc l0 S k) (pathB lc l0 k)) (tkL nk (rowsP key num C S lc l0) L k) 4) (opW nk (decR key num C (zpS lc l0 S k) (pathB lc l0 k)) (tkW nk (rowsP key num C S lc l0) Wd k) 4)) = (wT cI cZ cJ t st ct hd lv wd num lc lvs nb nk key (zpS lc l0 S (k + 1)) C (opO nk (decR key num C (zpS lc l0 S k) (pathB lc l0 k)) (tkO nk (rowsP key num C S lc l0) O k) 4) (opL nk (decR key num C (zpS lc l0 S k) (pathB lc l0 k)) (tkL nk (rowsP key num C S lc l0) L k) 4) (opW nk (decR key num C (zpS lc l0 S k) (pathB lc l0 k)) (tkW nk (rowsP key num C S lc l0) Wd k) 4)) := rfl
              rw [hE3] at hP hD
              have hE4 : (wT cI cZ cJ t st ct hd lv wd num lc lvs nb nk key (zpS lc l0 S (k + 1)) C (opO nk (decR key num C (zpS lc l0 S k) (pathB lc l0 k)) (tkO nk (rowsP key num C S lc l0) O k) 4) (opL nk (decR key num C (zpS lc l0 S k) (pathB lc l0 k)) (tkL nk (rowsP key num C S lc l0) L k) 4) (opW nk (decR key num C (zpS lc l0 S k) (pathB lc l0 k)) (tkW nk (rowsP key num C S lc l0) Wd k) 4)) = (wT cI cZ cJ t st ct hd lv wd num lc lvs nb nk key (zpS lc l0 S (k + 1)) C (tkO nk (rowsP key num C S lc l0) O (k + 1)) (opL nk (decR key num C (zpS lc l0 S k) (pathB lc l0 k)) (tkL nk (rowsP key num C S lc l0) L k) 4) (opW nk (decR key num C (zpS lc l0 S k) (pathB lc l0 k)) (tkW nk (rowsP key num C S lc l0) Wd k) 4)) := by rw [decR_zp hT hl0 c2]; rfl
              rw [hE4] at hP hD
              have hE5 : (wT cI cZ cJ t st ct hd lv wd num lc lvs nb nk key (zpS lc l0 S (k + 1)) C (tkO nk (rowsP key num C S lc l0) O (k + 1)) (opL nk (decR key num C (zpS lc l0 S k) (pathB lc l0 k)) (tkL nk (rowsP key num C S lc l0) L k) 4) (opW nk (decR key num C (zpS lc l0 S k) (pathB lc l0 k)) (tkW nk (rowsP key num C S lc l0) Wd k) 4)) = (wT cI cZ cJ t st ct hd lv wd num lc lvs nb nk key (zpS lc l0 S (k + 1)) C (tkO nk (rowsP key num C S lc l0) O (k + 1)) (tkL nk (rowsP key num C S lc l0) L (k + 1)) (opW nk (decR key num C (zpS lc l0 S k) (pathB lc l0 k)) (tkW nk (rowsP key num C S lc l0) Wd k) 4)) := by rw [decR_zp hT hl0 c2]; rfl
              rw [hE5] at hP hD
              have hE6 : (wT cI cZ cJ t st ct hd lv wd num lc lvs nb nk key (zpS lc l0 S (k + 1)) C (tkO nk (rowsP key num C S lc l0) O (k + 1)) (tkL nk (rowsP key num C S lc l0) L (k + 1)) (opW nk (decR key num C (zpS lc l0 S k) (pathB lc l0 k)) (tkW nk (rowsP key num C S lc l0) Wd k) 4)) = (wT cI cZ cJ t st ct hd lv wd num lc lvs nb nk key (zpS lc l0 S (k + 1)) C (tkO nk (rowsP key num C S lc l0) O (k + 1)) (tkL nk (rowsP key num C S lc l0) L (k + 1)) (tkW nk (rowsP key num C S lc l0) Wd (k + 1))) := by rw [decR_zp hT hl0 c2]; rfl
              rw [hE6] at hP hD
              refine lv_iinc (v := nI (k + 1)) (lv' := [(2, .int (nI (k + 1))), (0, .ref t), (1, .int (nI l0))]) hx hb dX3_take_51 hl (k := 2) rfl (nI_add k 1) (by decide) rfl (fun ls hl => ?_)
              refine lv_goto (tgt := 33) hx hb dX3_take_54 (by decide) ?_
              exact ihL2 (k + 1)  (by omega) (by omega)  _ _ _ hP hD hS (lv_sub hl [1, 2, 0] rfl)
        exact L2 (lvs + 1) 0  (by omega) (by omega)  _ _ _ hP hD hS (lv_sub hl [1, 2, 0] rfl)
      · skip
        refine lv_aload_n hx hb dX3_take_10 rfl (lv_at hl 0 rfl) ?_
        refine lv_aload_n hx hb dX3_take_11 rfl (lv_at hl 0 rfl) ?_
        refine lv_iload_n hx hb dX3_take_12 rfl (lv_at hl 1 rfl) ?_
        refine lv_iload_n hx hb dX3_take_13 rfl (lv_at hl 2 rfl) ?_
        refine k_vi (As := [.int (nI l0), .int (nI k)]) (rest := [.ref t]) (w2 := fun u : Unit => (wT cI cZ cJ t st ct hd lv wd num lc lvs nb nk key S C O L Wd)) ⟨hx, hb, hml, hown, hts⟩ (c_bucketOver l D cI cZ cJ t st ct hd lv wd num lc lvs nb nk key S C O L Wd l0 k hT hl0 c1) (cwV 2 hts gX3_take_X3_bucketOver rfl rfl rfl (by decide +kernel) ⟨Nat.le_of_ble_eq_true rfl, Nat.le_of_ble_eq_true rfl⟩) hP hD hK hS hA [0, 1, 2, 3, 4, 5] [] [0, 1, 2, 3, 4, 5] rfl rfl (by decide) (fun u => rfl) rfl rfl (q0 := 0) rfl rfl hl.1 rfl (Nat.le_of_ble_eq_true rfl) dX3_take_14 ⟨Nat.le_of_ble_eq_true rfl, Nat.le_of_ble_eq_true rfl⟩ (fun r u H locs hu7 hP hD hS => ?_)
        obtain rfl : r = nI (pathB lc l0 k) := hu7
        refine k_vi (As := [.int (nI (pathB lc l0 k))]) (rest := []) (w2 := fun u : Unit => (wT cI cZ cJ t st ct hd lv wd num lc lvs nb nk key S C O L Wd)) ⟨hx, hb, hml, hown, hts⟩ (c_isWhole_y l D cI cZ cJ t st ct hd lv wd num lc lvs nb nk key S C O L Wd (pathB lc l0 k) hT (pathB_lt hT hl0) (hw k c1)) (cwV 1 hts gX3_take_X3_isWhole rfl rfl rfl (by decide +kernel) ⟨Nat.le_of_ble_eq_true rfl, Nat.le_of_ble_eq_true rfl⟩) hP hD hK hS hA [0, 1, 2, 3, 4, 5] [] [0, 1, 2, 3, 4, 5] rfl rfl (by decide) (fun u => rfl) rfl rfl (q0 := 0) rfl rfl hl.1 rfl (Nat.le_of_ble_eq_true rfl) dX3_take_17 ⟨Nat.le_of_ble_eq_true rfl, Nat.le_of_ble_eq_true rfl⟩ (fun r u H locs hu8 hP hD hS => ?_)
        obtain rfl : r = 1 := hu8
        refine lv_if_ne (tgt := 25) hx hb dX3_take_20 (by decide) (fun c2 => ?_) (fun c2 => ?_)
        · skip
          refine lv_iinc (v := nI (k + 1)) (lv' := [(2, .int (nI (k + 1))), (0, .ref t), (1, .int (nI l0))]) hx hb dX3_take_25 hl (k := 2) rfl (nI_add k 1) (by decide) rfl (fun ls hl => ?_)
          refine lv_goto (tgt := 2) hx hb dX3_take_28 (by decide) ?_
          exact ihL1 (k + 1)  (by omega) (by omega)  _ _ _ hP hD hS (lv_sub hl [1, 2, 0] rfl)
        · skip
          exact absurd c2 (by decide)
  exact L1 (lvs + 1) 0  (by omega) (by omega)  _ _ _ hP hD hS (lv_sub hl [1, 2, 0] rfl)

set_option maxHeartbeats 4000000 in
set_option maxRecDepth 100000 in
theorem c_take_n (l : Launch) (D : va_G) (cI cZ cJ : ClassId) (t : Nat) (st : Nat) (ct : Nat) (hd : Nat) (lv : Nat) (wd : Nat) (num : Int32) (lc : Nat) (lvs : Nat) (nb : Nat) (nk : Nat) (key : Int32) (S : Nat → Nat → Int32) (C : Nat → Int32) (O : Nat → Int32) (L : Nat → Int32) (Wd : Nat → Nat → Int32) (l0 j0 : Nat) (hT : TP lc lvs nb nk) (hl0 : l0 < lc) (hj : j0 < lvs) (hw : ∀ up, up < j0 → wholeB key num C S (pathB lc l0 up)) (hn : ¬ wholeB key num C S (pathB lc l0 j0)) : KI l yX3_take wsX3_take ({ frames := 3, cells := 0, slots := 0, locals := 68 }) D (kty cI cZ cJ) [.ref t, .int (nI l0)] (wT cI cZ cJ t st ct hd lv wd num lc lvs nb nk key S C O L Wd) (fun r (_ : Unit) => r = 0) (fun _ : Unit => (wT cI cZ cJ t st ct hd lv wd num lc lvs nb nk key S C O L Wd)) 0 0 := by
  refine k_headI (cc := cX3_take) (maxL := 3) (ret := (some .boolean)) (by decide) rfl (Nat.le_of_ble_eq_true rfl) ?_
  intro p e s m below meth c A ls args Q hx hb hr hml hts hown hlk hnm hA hK hP hD hS hl hQ
  have hq := hT.bd
  have hl : lv_has ls 3 [(0, .ref t), (1, .int (nI l0))] := hl
  refine lv_iconst (v := nI 0) hx hb dX3_take_0 (by decide) ?_
  refine lv_istore_n (lv' := [(2, .int (nI 0)), (0, .ref t), (1, .int (nI l0))]) hx hb dX3_take_1 rfl hl (by decide) rfl (fun ls hl => ?_)
  have L1 : ∀ (nf k : Nat) (hvL1 : k ≤ j0) (hFL1 : j0 - k < nf) (H : Heap) (locs : List Loc) (ls : Array Slot), va_P D vwCl (wT cI cZ cJ t st ct hd lv wd num lc lvs nb nk key S C O L Wd) H → va_D A (wT cI cZ cJ t st ct hd lv wd num lc lvs nb nk key S C O L Wd) → va_S A s.heap H locs → lv_has ls 3 [(0, .ref t), (1, .int (nI l0)), (2, .int (nI k))] → W p l e ({ frames := 3, cells := 0, slots := 0, locals := 68 } : Room) s m args below meth c H locs 0 0 Q (F0 m 2 ls []) := by
    intro nf
    induction nf with
    | zero => intro k  hvL1 hFL1; omega
    | succ nf ihL1 =>
      intro k  hvL1 hFL1  H locs ls hP hD hS hl
      refine lv_iload_n hx hb dX3_take_2 rfl (lv_at hl 2 rfl) ?_
      refine lv_aload_n hx hb dX3_take_3 rfl (lv_at hl 0 rfl) ?_
      refine va_get (D := D) (ci := 3) (v := .int (nI lvs)) (C := RX3) (T := TX3) (N := 11) hx hb hts (by decide +kernel) hown hK hP 0 rfl rfl 2 (by decide) (hts (.fieldLink RX3 18 "VeiledFiles$Tree" "levels" "I") (by decide +kernel)) (fun _ h9 => h9) rfl dX3_take_4 ?_
      refine k_icmp_ge (tgt := 31) hx hb (by omega) (by omega) dX3_take_7 (by decide) (fun c1 => ?_) (fun c1 => ?_)
      · skip
        omega
      · skip
        refine lv_aload_n hx hb dX3_take_10 rfl (lv_at hl 0 rfl) ?_
        refine lv_aload_n hx hb dX3_take_11 rfl (lv_at hl 0 rfl) ?_
        refine lv_iload_n hx hb dX3_take_12 rfl (lv_at hl 1 rfl) ?_
        refine lv_iload_n hx hb dX3_take_13 rfl (lv_at hl 2 rfl) ?_
        refine k_vi (As := [.int (nI l0), .int (nI k)]) (rest := [.ref t]) (w2 := fun u : Unit => (wT cI cZ cJ t st ct hd lv wd num lc lvs nb nk key S C O L Wd)) ⟨hx, hb, hml, hown, hts⟩ (c_bucketOver l D cI cZ cJ t st ct hd lv wd num lc lvs nb nk key S C O L Wd l0 k hT hl0 c1) (cwV 2 hts gX3_take_X3_bucketOver rfl rfl rfl (by decide +kernel) ⟨Nat.le_of_ble_eq_true rfl, Nat.le_of_ble_eq_true rfl⟩) hP hD hK hS hA [0, 1, 2, 3, 4, 5] [] [0, 1, 2, 3, 4, 5] rfl rfl (by decide) (fun u => rfl) rfl rfl (q0 := 0) rfl rfl hl.1 rfl (Nat.le_of_ble_eq_true rfl) dX3_take_14 ⟨Nat.le_of_ble_eq_true rfl, Nat.le_of_ble_eq_true rfl⟩ (fun r u H locs hu1 hP hD hS => ?_)
        obtain rfl : r = nI (pathB lc l0 k) := hu1
        by_cases hk0 : k < j0
        · skip
          refine k_vi (As := [.int (nI (pathB lc l0 k))]) (rest := []) (w2 := fun u : Unit => (wT cI cZ cJ t st ct hd lv wd num lc lvs nb nk key S C O L Wd)) ⟨hx, hb, hml, hown, hts⟩ (c_isWhole_y l D cI cZ cJ t st ct hd lv wd num lc lvs nb nk key S C O L Wd (pathB lc l0 k) hT (pathB_lt hT hl0) (hw k hk0)) (cwV 1 hts gX3_take_X3_isWhole rfl rfl rfl (by decide +kernel) ⟨Nat.le_of_ble_eq_true rfl, Nat.le_of_ble_eq_true rfl⟩) hP hD hK hS hA [0, 1, 2, 3, 4, 5] [] [0, 1, 2, 3, 4, 5] rfl rfl (by decide) (fun u => rfl) rfl rfl (q0 := 0) rfl rfl hl.1 rfl (Nat.le_of_ble_eq_true rfl) dX3_take_17 ⟨Nat.le_of_ble_eq_true rfl, Nat.le_of_ble_eq_true rfl⟩ (fun r u H locs hu2 hP hD hS => ?_)
          obtain rfl : r = 1 := hu2
          refine lv_if_ne (tgt := 25) hx hb dX3_take_20 (by decide) (fun c2 => ?_) (fun c2 => ?_)
          · skip
            refine lv_iinc (v := nI (k + 1)) (lv' := [(2, .int (nI (k + 1))), (0, .ref t), (1, .int (nI l0))]) hx hb dX3_take_25 hl (k := 2) rfl (nI_add k 1) (by decide) rfl (fun ls hl => ?_)
            refine lv_goto (tgt := 2) hx hb dX3_take_28 (by decide) ?_
            exact ihL1 (k + 1)  (by omega) (by omega)  _ _ _ hP hD hS (lv_sub hl [1, 2, 0] rfl)
          · skip
            exact absurd c2 (by decide)
        · skip
          obtain rfl : k = j0 := by omega
          refine k_vi (As := [.int (nI (pathB lc l0 k))]) (rest := []) (w2 := fun u : Unit => (wT cI cZ cJ t st ct hd lv wd num lc lvs nb nk key S C O L Wd)) ⟨hx, hb, hml, hown, hts⟩ (c_isWhole_n l D cI cZ cJ t st ct hd lv wd num lc lvs nb nk key S C O L Wd (pathB lc l0 k) hT (pathB_lt hT hl0) hn) (cwV 1 hts gX3_take_X3_isWhole rfl rfl rfl (by decide +kernel) ⟨Nat.le_of_ble_eq_true rfl, Nat.le_of_ble_eq_true rfl⟩) hP hD hK hS hA [0, 1, 2, 3, 4, 5] [] [0, 1, 2, 3, 4, 5] rfl rfl (by decide) (fun u => rfl) rfl rfl (q0 := 0) rfl rfl hl.1 rfl (Nat.le_of_ble_eq_true rfl) dX3_take_17 ⟨Nat.le_of_ble_eq_true rfl, Nat.le_of_ble_eq_true rfl⟩ (fun r u H locs hu3 hP hD hS => ?_)
          obtain rfl : r = 0 := hu3
          refine lv_if_ne (tgt := 25) hx hb dX3_take_20 (by decide) (fun c2 => ?_) (fun c2 => ?_)
          · skip
            exact absurd rfl c2
          · skip
            refine lv_iconst (v := nI 0) hx hb dX3_take_23 (by decide) ?_
            exact k_retz () hx hb hr hK hS hlk dX3_take_24 ((by first | exact Or.inl rfl | exact Or.inr rfl)) hP hD (rfl) hQ
  exact L1 (j0 + 1) 0  (by omega) (by omega)  _ _ _ hP hD hS (lv_sub hl [1, 2, 0] rfl)

set_option maxHeartbeats 4000000 in
set_option maxRecDepth 100000 in
theorem c_load (l : Launch) (D : va_G) (cI cZ cJ : ClassId) (t : Nat) (st : Nat) (ct : Nat) (hd : Nat) (lv : Nat) (wd : Nat) (num : Int32) (lc : Nat) (lvs : Nat) (nb : Nat) (nk : Nat) (key : Int32) (S : Nat → Nat → Int32) (C : Nat → Int32) (O : Nat → Int32) (L : Nat → Int32) (Wd : Nat → Nat → Int32) (b up : Nat) (hT : TP lc lvs nb nk) (hb0 : b < nb) (hup : up < lvs) (hL : ∀ n, n < nk → O n ≠ 0 → ∃ l0, l0 < lc ∧ L n = nI l0) : KV l yX3_load wsX3_load ({ frames := 2, cells := 0, slots := 0, locals := 47 }) D (kty cI cZ cJ) [.ref t, .int (nI b), .int (nI up)] (wT cI cZ cJ t st ct hd lv wd num lc lvs nb nk key S C O L Wd) (fun (_ : Unit) => True) (fun _ : Unit => (wT cI cZ cJ t st ct hd lv wd num lc lvs nb nk key (setRow S b (fillN lc up b L Wd (S b) O nk).1) C ((fillN lc up b L Wd (S b) O nk).2.1) L Wd)) 0 0 := by
  refine k_headV (cc := cX3_load) (maxL := 5) (ret := none) (by decide) rfl (Nat.le_of_ble_eq_true rfl) ?_
  intro p e s m below meth c A ls args Q hx hb hr hml hts hown hlk hnm hA hK hP hD hS hl hQ
  have hq := hT.bd
  have hl : lv_has ls 5 [(0, .ref t), (1, .int (nI b)), (2, .int (nI up))] := hl
  refine lv_iconst (v := nI 0) hx hb dX3_load_0 (by decide) ?_
  refine lv_istore_n (lv' := [(3, .int (nI 0)), (0, .ref t), (1, .int (nI b)), (2, .int (nI up))]) hx hb dX3_load_1 rfl hl (by decide) rfl (fun ls hl => ?_)
  refine lv_iconst (v := nI 0) hx hb dX3_load_2 (by decide) ?_
  refine lv_istore (lv' := [(4, .int (nI 0)), (3, .int (nI 0)), (0, .ref t), (1, .int (nI b)), (2, .int (nI up))]) hx hb dX3_load_3 hl (by decide) rfl (fun ls hl => ?_)
  have hE1 : (wT cI cZ cJ t st ct hd lv wd num lc lvs nb nk key S C O L Wd) = (wT cI cZ cJ t st ct hd lv wd num lc lvs nb nk key (setRow S b (fillN lc up b L Wd (S b) O 0).1) C O L Wd) := by rw [show (fillN lc up b L Wd (S b) O 0).1 = S b from rfl, setRow_id]
  rw [hE1] at hP hD
  have L1 : ∀ (nf n : Nat) (hvL1 : n ≤ nk) (hFL1 : nk - n < nf) (H : Heap) (locs : List Loc) (ls : Array Slot), va_P D vwCl (wT cI cZ cJ t st ct hd lv wd num lc lvs nb nk key (setRow S b (fillN lc up b L Wd (S b) O n).1) C ((fillN lc up b L Wd (S b) O n).2.1) L Wd) H → va_D A (wT cI cZ cJ t st ct hd lv wd num lc lvs nb nk key (setRow S b (fillN lc up b L Wd (S b) O n).1) C ((fillN lc up b L Wd (S b) O n).2.1) L Wd) → va_S A s.heap H locs → lv_has ls 5 [(0, .ref t), (1, .int (nI b)), (2, .int (nI up)), (3, .int (nI ((fillN lc up b L Wd (S b) O n).2.2))), (4, .int (nI n))] → W p l e ({ frames := 2, cells := 0, slots := 0, locals := 47 } : Room) s m args below meth c H locs 0 0 Q (F0 m 5 ls []) := by
    intro nf
    induction nf with
    | zero => intro n  hvL1 hFL1; omega
    | succ nf ihL1 =>
      intro n  hvL1 hFL1  H locs ls hP hD hS hl
      have h4 := fillN_le (lc := lc) (up := up) (b := b) (L := L) (Wd := Wd) (w0 := S b) (O := O) n
      refine lv_iload hx hb dX3_load_5 (lv_at hl 4 rfl) ?_
      refine lv_aload_n hx hb dX3_load_7 rfl (lv_at hl 0 rfl) ?_
      refine va_get (D := D) (ci := 3) (v := .int (nI nk)) (C := RX3) (T := TX3) (N := 11) hx hb hts (by decide +kernel) hown hK hP 0 rfl rfl 4 (by decide) (hts (.fieldLink RX3 24 "VeiledFiles$Tree" "blocks" "I") (by decide +kernel)) (fun _ h9 => h9) rfl dX3_load_8 ?_
      refine k_icmp_ge (tgt := 62) hx hb (by omega) (by omega) dX3_load_11 (by decide) (fun c1 => ?_) (fun c1 => ?_)
      · skip
        obtain rfl : nk = n := by omega
        exact k_retv () hx hb hr hK hS hlk dX3_load_62 hP hD (trivial) hQ
      · skip
        refine lv_iload_n hx hb dX3_load_14 rfl (lv_at hl 3 rfl) ?_
        refine lv_iconst (v := nI 4) hx hb dX3_load_15 (by decide) ?_
        refine k_icmp_ge (tgt := 62) hx hb (by omega) (by omega) dX3_load_16 (by decide) (fun c2 => ?_) (fun c2 => ?_)
        · skip
          have hst := fillN_stop (lc := lc) (up := up) (b := b) (L := L) (Wd := Wd) (w0 := S b) (O := O) c2 (nk - n)
          rw [show n + (nk - n) = nk by omega] at hst
          rw [← hst] at hP hD
          exact k_retv () hx hb hr hK hS hlk dX3_load_62 hP hD (trivial) hQ
        · skip
          refine lv_aload_n hx hb dX3_load_19 rfl (lv_at hl 0 rfl) ?_
          refine va_get (D := D) (ci := 3) (v := .ref hd) (C := RX3) (T := TX3) (N := 11) hx hb hts (by decide +kernel) hown hK hP 0 rfl rfl 7 (by decide) (hts (.fieldLink RX3 34 "VeiledFiles$Tree" "held" "[Z") (by decide +kernel)) (fun _ h9 => h9) rfl dX3_load_20 ?_
          refine lv_iload hx hb dX3_load_23 (lv_at hl 4 rfl) ?_
          refine k_zald hx hb hK hP 3 1 rfl rfl n (by omega) (by omega) (v := O n) (fillN_O n n (Nat.le_refl n)) dX3_load_25 ?_
          refine lv_if_eq (tgt := 56) hx hb dX3_load_26 (by decide) (fun c3 => ?_) (fun c3 => ?_)
          · skip
            refine lv_iinc (v := nI (n + 1)) (lv' := [(4, .int (nI (n + 1))), (0, .ref t), (1, .int (nI b)), (2, .int (nI up)), (3, .int (nI ((fillN lc up b L Wd (S b) O n).2.2)))]) hx hb dX3_load_56 hl (k := 4) rfl (nI_add n 1) (by decide) rfl (fun ls hl => ?_)
            refine lv_goto (tgt := 5) hx hb dX3_load_59 (by decide) ?_
            have hfn := fillN_n (lc := lc) (up := up) (b := b) (L := L) (Wd := Wd) (w0 := S b) (O := O) (n := n) (Or.inl c3)
            rw [← hfn] at hP hD hl
            exact ihL1 (n + 1)  (by omega) (by omega)  _ _ _ hP hD hS (lv_sub hl [1, 2, 3, 4, 0] rfl)
          · skip
            obtain ⟨l0, hl0, hLn⟩ := hL n c1 c3
            have hcl : (L n).toNatClampNeg = l0 := by rw [hLn]; exact nI_clamp (by omega)
            refine lv_aload_n hx hb dX3_load_29 rfl (lv_at hl 0 rfl) ?_
            refine lv_aload_n hx hb dX3_load_30 rfl (lv_at hl 0 rfl) ?_
            refine va_get (D := D) (ci := 3) (v := .ref lv) (C := RX3) (T := TX3) (N := 11) hx hb hts (by decide +kernel) hown hK hP 0 rfl rfl 8 (by decide) (hts (.fieldLink RX3 38 "VeiledFiles$Tree" "leaves" "[I") (by decide +kernel)) (fun _ h9 => h9) rfl dX3_load_31 ?_
            refine lv_iload hx hb dX3_load_34 (lv_at hl 4 rfl) ?_
            refine k_iald hx hb hK hP 4 0 rfl rfl n (by omega) (by omega) (v := nI l0) (hLn) dX3_load_36 ?_
            refine lv_iload_n hx hb dX3_load_37 rfl (lv_at hl 2 rfl) ?_
            refine k_vi (As := [.int (nI l0), .int (nI up)]) (rest := []) (w2 := fun u : Unit => (wT cI cZ cJ t st ct hd lv wd num lc lvs nb nk key (setRow S b (fillN lc up b L Wd (S b) O n).1) C ((fillN lc up b L Wd (S b) O n).2.1) L Wd)) ⟨hx, hb, hml, hown, hts⟩ (c_bucketOver l D cI cZ cJ t st ct hd lv wd num lc lvs nb nk key (setRow S b (fillN lc up b L Wd (S b) O n).1) C ((fillN lc up b L Wd (S b) O n).2.1) L Wd l0 up hT hl0 hup) (cwV 2 hts gX3_load_X3_bucketOver rfl rfl rfl (by decide +kernel) ⟨Nat.le_of_ble_eq_true rfl, Nat.le_of_ble_eq_true rfl⟩) hP hD hK hS hA [0, 1, 2, 3, 4, 5] [] [0, 1, 2, 3, 4, 5] rfl rfl (by decide) (fun u => rfl) rfl rfl (q0 := 0) rfl rfl hl.1 rfl (Nat.le_of_ble_eq_true rfl) dX3_load_38 ⟨Nat.le_of_ble_eq_true rfl, Nat.le_of_ble_eq_true rfl⟩ (fun r u H locs hu2 hP hD hS => ?_)
            obtain rfl : r = nI (pathB lc l0 up) := hu2
            have hpl := pathB_lt (up := up) hT hl0
            refine lv_iload_n hx hb dX3_load_41 rfl (lv_at hl 1 rfl) ?_
            refine k_icmp_ne (tgt := 56) hx hb (by omega) (by omega) dX3_load_42 (by decide) (fun c4 => ?_) (fun c4 => ?_)
            · skip
              refine lv_iinc (v := nI (n + 1)) (lv' := [(4, .int (nI (n + 1))), (0, .ref t), (1, .int (nI b)), (2, .int (nI up)), (3, .int (nI ((fillN lc up b L Wd (S b) O n).2.2)))]) hx hb dX3_load_56 hl (k := 4) rfl (nI_add n 1) (by decide) rfl (fun ls hl => ?_)
              refine lv_goto (tgt := 5) hx hb dX3_load_59 (by decide) ?_
              have hfn := fillN_n (lc := lc) (up := up) (b := b) (L := L) (Wd := Wd) (w0 := S b) (O := O) (n := n) (Or.inr (by rw [hcl]; exact c4))
              rw [← hfn] at hP hD hl
              exact ihL1 (n + 1)  (by omega) (by omega)  _ _ _ hP hD hS (lv_sub hl [1, 2, 3, 4, 0] rfl)
            · skip
              refine lv_aload_n hx hb dX3_load_45 rfl (lv_at hl 0 rfl) ?_
              refine lv_iload hx hb dX3_load_46 (lv_at hl 4 rfl) ?_
              refine lv_iload_n hx hb dX3_load_48 rfl (lv_at hl 1 rfl) ?_
              refine lv_iload_n hx hb dX3_load_49 rfl (lv_at hl 3 rfl) ?_
              refine k_vv (As := [.int (nI n), .int (nI b), .int (nI ((fillN lc up b L Wd (S b) O n).2.2))]) (rest := []) (w2 := fun u : Unit => (wT cI cZ cJ t st ct hd lv wd num lc lvs nb nk key (setRow (setRow S b (fillN lc up b L Wd (S b) O n).1) b (putR ((setRow S b (fillN lc up b L Wd (S b) O n).1) b) (fillN lc up b L Wd (S b) O n).2.2 n (L n) (Wd n))) C (upd (fillN lc up b L Wd (S b) O n).2.1 n 0) L Wd)) ⟨hx, hb, hml, hown, hts⟩ (c_place l D cI cZ cJ t st ct hd lv wd num lc lvs nb nk key (setRow S b (fillN lc up b L Wd (S b) O n).1) C ((fillN lc up b L Wd (S b) O n).2.1) L Wd n b (fillN lc up b L Wd (S b) O n).2.2 hT c1 hb0 c2) (cwV 3 hts gX3_load_X3_place rfl rfl rfl (by decide +kernel) ⟨Nat.le_of_ble_eq_true rfl, Nat.le_of_ble_eq_true rfl⟩) hP hD hK hS hA [0, 1, 2, 3, 4, 5] [] [0, 1, 2, 3, 4, 5] rfl rfl (by decide) (fun u => rfl) rfl rfl (q0 := 0) rfl rfl hl.1 rfl (Nat.le_of_ble_eq_true rfl) dX3_load_50 ⟨Nat.le_of_ble_eq_true rfl, Nat.le_of_ble_eq_true rfl⟩ (fun u H locs hu3 hP hD hS => ?_)
              have hfy := fillN_y (lc := lc) (up := up) (b := b) (L := L) (Wd := Wd) (w0 := S b) (O := O) (n := n) c2 c3 (by rw [hcl]; exact c4)
              have hE4 : (wT cI cZ cJ t st ct hd lv wd num lc lvs nb nk key (setRow (setRow S b (fillN lc up b L Wd (S b) O n).1) b (putR ((setRow S b (fillN lc up b L Wd (S b) O n).1) b) (fillN lc up b L Wd (S b) O n).2.2 n (L n) (Wd n))) C (upd (fillN lc up b L Wd (S b) O n).2.1 n 0) L Wd) = (wT cI cZ cJ t st ct hd lv wd num lc lvs nb nk key (setRow S b (fillN lc up b L Wd (S b) O (n + 1)).1) C (upd (fillN lc up b L Wd (S b) O n).2.1 n 0) L Wd) := by rw [setRow_s, setRow_2, hfy]
              rw [hE4] at hP hD
              have hE5 : (wT cI cZ cJ t st ct hd lv wd num lc lvs nb nk key (setRow S b (fillN lc up b L Wd (S b) O (n + 1)).1) C (upd (fillN lc up b L Wd (S b) O n).2.1 n 0) L Wd) = (wT cI cZ cJ t st ct hd lv wd num lc lvs nb nk key (setRow S b (fillN lc up b L Wd (S b) O (n + 1)).1) C ((fillN lc up b L Wd (S b) O (n + 1)).2.1) L Wd) := by rw [hfy]
              rw [hE5] at hP hD
              refine lv_iinc (v := nI ((fillN lc up b L Wd (S b) O n).2.2 + 1)) (lv' := [(3, .int (nI ((fillN lc up b L Wd (S b) O n).2.2 + 1))), (0, .ref t), (1, .int (nI b)), (2, .int (nI up)), (4, .int (nI n))]) hx hb dX3_load_53 hl (k := 3) rfl (nI_add ((fillN lc up b L Wd (S b) O n).2.2) 1) (by decide) rfl (fun ls hl => ?_)
              refine lv_iinc (v := nI (n + 1)) (lv' := [(4, .int (nI (n + 1))), (3, .int (nI ((fillN lc up b L Wd (S b) O n).2.2 + 1))), (0, .ref t), (1, .int (nI b)), (2, .int (nI up))]) hx hb dX3_load_56 hl (k := 4) rfl (nI_add n 1) (by decide) rfl (fun ls hl => ?_)
              refine lv_goto (tgt := 5) hx hb dX3_load_59 (by decide) ?_
              have hf2 : (fillN lc up b L Wd (S b) O (n + 1)).2.2 = (fillN lc up b L Wd (S b) O n).2.2 + 1 := by rw [hfy]
              rw [← hf2] at hl
              exact ihL1 (n + 1)  (by omega) (by omega)  _ _ _ hP hD hS (lv_sub hl [2, 3, 4, 1, 0] rfl)
  exact L1 (nk + 1) 0  (by omega) (by omega)  _ _ _ hP hD hS (lv_sub hl [2, 3, 4, 1, 0] rfl)

set_option maxHeartbeats 4000000 in
set_option maxRecDepth 100000 in
theorem c_putBack (l : Launch) (D : va_G) (cI cZ cJ : ClassId) (t : Nat) (st : Nat) (ct : Nat) (hd : Nat) (lv : Nat) (wd : Nat) (num : Int32) (lc : Nat) (lvs : Nat) (nb : Nat) (nk : Nat) (key : Int32) (S : Nat → Nat → Int32) (C : Nat → Int32) (O : Nat → Int32) (L : Nat → Int32) (Wd : Nat → Nat → Int32) (l0 : Nat) (hT : TP lc lvs nb nk) (hl0 : l0 < lc) (hz : ∀ up, up < lvs → S (pathB lc l0 up) = zrow) (hL : ∀ n, n < nk → O n ≠ 0 → ∃ l0, l0 < lc ∧ L n = nI l0) : KV l yX3_putBack wsX3_putBack ({ frames := 3, cells := 0, slots := 0, locals := 71 }) D (kty cI cZ cJ) [.ref t, .int (nI l0)] (wT cI cZ cJ t st ct hd lv wd num lc lvs nb nk key S C O L Wd) (fun (_ : Unit) => True) (fun _ : Unit => (wT cI cZ cJ t st ct hd lv wd num lc lvs nb nk key ((pbN key num lc nk l0 L Wd S C O lvs).1) ((pbN key num lc nk l0 L Wd S C O lvs).2.1) ((pbN key num lc nk l0 L Wd S C O lvs).2.2) L Wd)) 0 0 := by
  refine k_headV (cc := cX3_putBack) (maxL := 4) (ret := none) (by decide) rfl (Nat.le_of_ble_eq_true rfl) ?_
  intro p e s m below meth c A ls args Q hx hb hr hml hts hown hlk hnm hA hK hP hD hS hl hQ
  have hq := hT.bd
  have hl : lv_has ls 4 [(0, .ref t), (1, .int (nI l0))] := hl
  refine lv_iconst (v := nI 0) hx hb dX3_putBack_0 (by decide) ?_
  refine lv_istore_n (lv' := [(2, .int (nI 0)), (0, .ref t), (1, .int (nI l0))]) hx hb dX3_putBack_1 rfl hl (by decide) rfl (fun ls hl => ?_)
  have L1 : ∀ (nf k : Nat) (hvL1 : k ≤ lvs) (hFL1 : lvs - k < nf) (H : Heap) (locs : List Loc) (ls : Array Slot), va_P D vwCl (wT cI cZ cJ t st ct hd lv wd num lc lvs nb nk key ((pbN key num lc nk l0 L Wd S C O k).1) ((pbN key num lc nk l0 L Wd S C O k).2.1) ((pbN key num lc nk l0 L Wd S C O k).2.2) L Wd) H → va_D A (wT cI cZ cJ t st ct hd lv wd num lc lvs nb nk key ((pbN key num lc nk l0 L Wd S C O k).1) ((pbN key num lc nk l0 L Wd S C O k).2.1) ((pbN key num lc nk l0 L Wd S C O k).2.2) L Wd) → va_S A s.heap H locs → lv_has ls 4 [(0, .ref t), (1, .int (nI l0)), (2, .int (nI k))] → W p l e ({ frames := 3, cells := 0, slots := 0, locals := 71 } : Room) s m args below meth c H locs 0 0 Q (F0 m 2 ls []) := by
    intro nf
    induction nf with
    | zero => intro k  hvL1 hFL1; omega
    | succ nf ihL1 =>
      intro k  hvL1 hFL1  H locs ls hP hD hS hl
      refine lv_iload_n hx hb dX3_putBack_2 rfl (lv_at hl 2 rfl) ?_
      refine lv_aload_n hx hb dX3_putBack_3 rfl (lv_at hl 0 rfl) ?_
      refine va_get (D := D) (ci := 3) (v := .int (nI lvs)) (C := RX3) (T := TX3) (N := 11) hx hb hts (by decide +kernel) hown hK hP 0 rfl rfl 2 (by decide) (hts (.fieldLink RX3 18 "VeiledFiles$Tree" "levels" "I") (by decide +kernel)) (fun _ h9 => h9) rfl dX3_putBack_4 ?_
      refine k_icmp_ge (tgt := 44) hx hb (by omega) (by omega) dX3_putBack_7 (by decide) (fun c1 => ?_) (fun c1 => ?_)
      · skip
        obtain rfl : lvs = k := by omega
        exact k_retv () hx hb hr hK hS hlk dX3_putBack_44 hP hD (trivial) hQ
      · skip
        refine lv_aload_n hx hb dX3_putBack_10 rfl (lv_at hl 0 rfl) ?_
        refine lv_iload_n hx hb dX3_putBack_11 rfl (lv_at hl 1 rfl) ?_
        refine lv_iload_n hx hb dX3_putBack_12 rfl (lv_at hl 2 rfl) ?_
        refine k_vi (As := [.int (nI l0), .int (nI k)]) (rest := []) (w2 := fun u : Unit => (wT cI cZ cJ t st ct hd lv wd num lc lvs nb nk key ((pbN key num lc nk l0 L Wd S C O k).1) ((pbN key num lc nk l0 L Wd S C O k).2.1) ((pbN key num lc nk l0 L Wd S C O k).2.2) L Wd)) ⟨hx, hb, hml, hown, hts⟩ (c_bucketOver l D cI cZ cJ t st ct hd lv wd num lc lvs nb nk key ((pbN key num lc nk l0 L Wd S C O k).1) ((pbN key num lc nk l0 L Wd S C O k).2.1) ((pbN key num lc nk l0 L Wd S C O k).2.2) L Wd l0 k hT hl0 c1) (cwV 2 hts gX3_putBack_X3_bucketOver rfl rfl rfl (by decide +kernel) ⟨Nat.le_of_ble_eq_true rfl, Nat.le_of_ble_eq_true rfl⟩) hP hD hK hS hA [0, 1, 2, 3, 4, 5] [] [0, 1, 2, 3, 4, 5] rfl rfl (by decide) (fun u => rfl) rfl rfl (q0 := 0) rfl rfl hl.1 rfl (Nat.le_of_ble_eq_true rfl) dX3_putBack_13 ⟨Nat.le_of_ble_eq_true rfl, Nat.le_of_ble_eq_true rfl⟩ (fun r u H locs hu1 hP hD hS => ?_)
        obtain rfl : r = nI (pathB lc l0 k) := hu1
        have hpl := pathB_lt (up := k) hT hl0
        have hzk : (pbN key num lc nk l0 L Wd S C O k).1 (pathB lc l0 k) = zrow := by rw [pbN_S hT hl0 c1 k (Nat.le_refl k)]; exact hz k c1
        refine lv_istore_n (lv' := [(3, .int (nI (pathB lc l0 k))), (0, .ref t), (1, .int (nI l0)), (2, .int (nI k))]) hx hb dX3_putBack_16 rfl hl (by decide) rfl (fun ls hl => ?_)
        refine lv_aload_n hx hb dX3_putBack_17 rfl (lv_at hl 1 rfl) ?_
        refine lv_iload_n hx hb dX3_putBack_18 rfl (lv_at hl 0 rfl) ?_
        refine lv_iload_n hx hb dX3_putBack_19 rfl (lv_at hl 3 rfl) ?_
        refine k_vv (As := [.int (nI (pathB lc l0 k)), .int (nI k)]) (rest := []) (w2 := fun u : Unit => (wT cI cZ cJ t st ct hd lv wd num lc lvs nb nk key (setRow (pbN key num lc nk l0 L Wd S C O k).1 (pathB lc l0 k) (fillN lc k (pathB lc l0 k) L Wd ((pbN key num lc nk l0 L Wd S C O k).1 (pathB lc l0 k)) (pbN key num lc nk l0 L Wd S C O k).2.2 nk).1) ((pbN key num lc nk l0 L Wd S C O k).2.1) ((fillN lc k (pathB lc l0 k) L Wd ((pbN key num lc nk l0 L Wd S C O k).1 (pathB lc l0 k)) (pbN key num lc nk l0 L Wd S C O k).2.2 nk).2.1) L Wd)) ⟨hx, hb, hml, hown, hts⟩ (c_load l D cI cZ cJ t st ct hd lv wd num lc lvs nb nk key ((pbN key num lc nk l0 L Wd S C O k).1) ((pbN key num lc nk l0 L Wd S C O k).2.1) ((pbN key num lc nk l0 L Wd S C O k).2.2) L Wd (pathB lc l0 k) k hT hpl c1 (fun n hn h0 => pb_sub (P := fun n => n < nk → ∃ l0, l0 < lc ∧ L n = nI l0) (fun n q hn => hL n hn q) k n h0 hn)) (cwV 2 hts gX3_putBack_X3_load rfl rfl rfl (by decide +kernel) ⟨Nat.le_of_ble_eq_true rfl, Nat.le_of_ble_eq_true rfl⟩) hP hD hK hS hA [0, 1, 2, 3, 4, 5] [] [0, 1, 2, 3, 4, 5] rfl rfl (by decide) (fun u => rfl) rfl rfl (q0 := 0) rfl rfl hl.1 rfl (Nat.le_of_ble_eq_true rfl) dX3_putBack_20 ⟨Nat.le_of_ble_eq_true rfl, Nat.le_of_ble_eq_true rfl⟩ (fun u H locs hu2 hP hD hS => ?_)
        rw [hzk] at hP hD
        refine lv_aload_n hx hb dX3_putBack_23 rfl (lv_at hl 1 rfl) ?_
        refine va_get (D := D) (ci := 3) (v := .ref ct) (C := RX3) (T := TX3) (N := 11) hx hb hts (by decide +kernel) hown hK hP 0 rfl rfl 6 (by decide) (hts (.fieldLink RX3 31 "VeiledFiles$Tree" "counters" "[I") (by decide +kernel)) (fun _ h9 => h9) rfl dX3_putBack_24 ?_
        refine lv_iload_n hx hb dX3_putBack_27 rfl (lv_at hl 0 rfl) ?_
        refine lv_dup2_11 hx hb dX3_putBack_28 rfl rfl ?_
        refine k_iald hx hb hK hP 2 0 rfl rfl (pathB lc l0 k) (by omega) (by omega) (v := ((pbN key num lc nk l0 L Wd S C O k).2.1) (pathB lc l0 k)) (rfl) dX3_putBack_29 ?_
        refine lv_iconst (v := nI 1) hx hb dX3_putBack_30 (by decide) ?_
        refine lv_iadd hx hb dX3_putBack_31 ?_
        refine k_iast hx hb hK hP hD hS 2 0 rfl rfl (pathB lc l0 k) (by omega) (by omega) (g := (upd ((pbN key num lc nk l0 L Wd S C O k).2.1) (pathB lc l0 k) ((((pbN key num lc nk l0 L Wd S C O k).2.1) (pathB lc l0 k)) + (nI 1)))) (rfl) dX3_putBack_32 (fun H locs hP hD hS => ?_)
        have hP : va_P D vwCl (wT cI cZ cJ t st ct hd lv wd num lc lvs nb nk key (setRow (pbN key num lc nk l0 L Wd S C O k).1 (pathB lc l0 k) (fillN lc k (pathB lc l0 k) L Wd zrow (pbN key num lc nk l0 L Wd S C O k).2.2 nk).1) (upd ((pbN key num lc nk l0 L Wd S C O k).2.1) (pathB lc l0 k) ((((pbN key num lc nk l0 L Wd S C O k).2.1) (pathB lc l0 k)) + (nI 1))) ((fillN lc k (pathB lc l0 k) L Wd zrow (pbN key num lc nk l0 L Wd S C O k).2.2 nk).2.1) L Wd) H := hP
        have hD : va_D A (wT cI cZ cJ t st ct hd lv wd num lc lvs nb nk key (setRow (pbN key num lc nk l0 L Wd S C O k).1 (pathB lc l0 k) (fillN lc k (pathB lc l0 k) L Wd zrow (pbN key num lc nk l0 L Wd S C O k).2.2 nk).1) (upd ((pbN key num lc nk l0 L Wd S C O k).2.1) (pathB lc l0 k) ((((pbN key num lc nk l0 L Wd S C O k).2.1) (pathB lc l0 k)) + (nI 1))) ((fillN lc k (pathB lc l0 k) L Wd zrow (pbN key num lc nk l0 L Wd S C O k).2.2 nk).2.1) L Wd) := hD
        refine lv_aload_n hx hb dX3_putBack_33 rfl (lv_at hl 1 rfl) ?_
        refine lv_iload_n hx hb dX3_putBack_34 rfl (lv_at hl 0 rfl) ?_
        refine k_vv (As := [.int (nI (pathB lc l0 k))]) (rest := []) (w2 := fun u : Unit => (wT cI cZ cJ t st ct hd lv wd num lc lvs nb nk key (setRow (setRow (pbN key num lc nk l0 L Wd S C O k).1 (pathB lc l0 k) (fillN lc k (pathB lc l0 k) L Wd zrow (pbN key num lc nk l0 L Wd S C O k).2.2 nk).1) (pathB lc l0 k) (sealR key num ((upd (pbN key num lc nk l0 L Wd S C O k).2.1 (pathB lc l0 k) ((pbN key num lc nk l0 L Wd S C O k).2.1 (pathB lc l0 k) + nI 1)) (pathB lc l0 k)) (pathB lc l0 k) ((setRow (pbN key num lc nk l0 L Wd S C O k).1 (pathB lc l0 k) (fillN lc k (pathB lc l0 k) L Wd zrow (pbN key num lc nk l0 L Wd S C O k).2.2 nk).1) (pathB lc l0 k)))) (upd ((pbN key num lc nk l0 L Wd S C O k).2.1) (pathB lc l0 k) ((((pbN key num lc nk l0 L Wd S C O k).2.1) (pathB lc l0 k)) + (nI 1))) ((fillN lc k (pathB lc l0 k) L Wd zrow (pbN key num lc nk l0 L Wd S C O k).2.2 nk).2.1) L Wd)) ⟨hx, hb, hml, hown, hts⟩ (c_seal l D cI cZ cJ t st ct hd lv wd num lc lvs nb nk key (setRow (pbN key num lc nk l0 L Wd S C O k).1 (pathB lc l0 k) (fillN lc k (pathB lc l0 k) L Wd zrow (pbN key num lc nk l0 L Wd S C O k).2.2 nk).1) (upd ((pbN key num lc nk l0 L Wd S C O k).2.1) (pathB lc l0 k) ((((pbN key num lc nk l0 L Wd S C O k).2.1) (pathB lc l0 k)) + (nI 1))) ((fillN lc k (pathB lc l0 k) L Wd zrow (pbN key num lc nk l0 L Wd S C O k).2.2 nk).2.1) L Wd (pathB lc l0 k) hT hpl) (cwV 1 hts gX3_putBack_X3_seal rfl rfl rfl (by decide +kernel) ⟨Nat.le_of_ble_eq_true rfl, Nat.le_of_ble_eq_true rfl⟩) hP hD hK hS hA [0, 1, 2, 3, 4, 5] [] [0, 1, 2, 3, 4, 5] rfl rfl (by decide) (fun u => rfl) rfl rfl (q0 := 0) rfl rfl hl.1 rfl (Nat.le_of_ble_eq_true rfl) dX3_putBack_35 ⟨Nat.le_of_ble_eq_true rfl, Nat.le_of_ble_eq_true rfl⟩ (fun u H locs hu3 hP hD hS => ?_)
        have hE4 : (wT cI cZ cJ t st ct hd lv wd num lc lvs nb nk key (setRow (setRow (pbN key num lc nk l0 L Wd S C O k).1 (pathB lc l0 k) (fillN lc k (pathB lc l0 k) L Wd zrow (pbN key num lc nk l0 L Wd S C O k).2.2 nk).1) (pathB lc l0 k) (sealR key num ((upd (pbN key num lc nk l0 L Wd S C O k).2.1 (pathB lc l0 k) ((pbN key num lc nk l0 L Wd S C O k).2.1 (pathB lc l0 k) + nI 1)) (pathB lc l0 k)) (pathB lc l0 k) ((setRow (pbN key num lc nk l0 L Wd S C O k).1 (pathB lc l0 k) (fillN lc k (pathB lc l0 k) L Wd zrow (pbN key num lc nk l0 L Wd S C O k).2.2 nk).1) (pathB lc l0 k)))) (upd ((pbN key num lc nk l0 L Wd S C O k).2.1) (pathB lc l0 k) ((((pbN key num lc nk l0 L Wd S C O k).2.1) (pathB lc l0 k)) + (nI 1))) ((fillN lc k (pathB lc l0 k) L Wd zrow (pbN key num lc nk l0 L Wd S C O k).2.2 nk).2.1) L Wd) = (wT cI cZ cJ t st ct hd lv wd num lc lvs nb nk key ((pbN key num lc nk l0 L Wd S C O (k + 1)).1) (upd ((pbN key num lc nk l0 L Wd S C O k).2.1) (pathB lc l0 k) ((((pbN key num lc nk l0 L Wd S C O k).2.1) (pathB lc l0 k)) + (nI 1))) ((fillN lc k (pathB lc l0 k) L Wd zrow (pbN key num lc nk l0 L Wd S C O k).2.2 nk).2.1) L Wd) := by rw [setRow_s, setRow_2, pk_us]; rfl
        rw [hE4] at hP hD
        have hE5 : (wT cI cZ cJ t st ct hd lv wd num lc lvs nb nk key ((pbN key num lc nk l0 L Wd S C O (k + 1)).1) (upd ((pbN key num lc nk l0 L Wd S C O k).2.1) (pathB lc l0 k) ((((pbN key num lc nk l0 L Wd S C O k).2.1) (pathB lc l0 k)) + (nI 1))) ((fillN lc k (pathB lc l0 k) L Wd zrow (pbN key num lc nk l0 L Wd S C O k).2.2 nk).2.1) L Wd) = (wT cI cZ cJ t st ct hd lv wd num lc lvs nb nk key ((pbN key num lc nk l0 L Wd S C O (k + 1)).1) ((pbN key num lc nk l0 L Wd S C O (k + 1)).2.1) ((fillN lc k (pathB lc l0 k) L Wd zrow (pbN key num lc nk l0 L Wd S C O k).2.2 nk).2.1) L Wd) := rfl
        rw [hE5] at hP hD
        have hE6 : (wT cI cZ cJ t st ct hd lv wd num lc lvs nb nk key ((pbN key num lc nk l0 L Wd S C O (k + 1)).1) ((pbN key num lc nk l0 L Wd S C O (k + 1)).2.1) ((fillN lc k (pathB lc l0 k) L Wd zrow (pbN key num lc nk l0 L Wd S C O k).2.2 nk).2.1) L Wd) = (wT cI cZ cJ t st ct hd lv wd num lc lvs nb nk key ((pbN key num lc nk l0 L Wd S C O (k + 1)).1) ((pbN key num lc nk l0 L Wd S C O (k + 1)).2.1) ((pbN key num lc nk l0 L Wd S C O (k + 1)).2.2) L Wd) := rfl
        rw [hE6] at hP hD
        refine lv_iinc (v := nI (k + 1)) (lv' := [(2, .int (nI (k + 1))), (3, .int (nI (pathB lc l0 k))), (0, .ref t), (1, .int (nI l0))]) hx hb dX3_putBack_38 hl (k := 3) rfl (nI_add k 1) (by decide) rfl (fun ls hl => ?_)
        refine lv_goto (tgt := 2) hx hb dX3_putBack_41 (by decide) ?_
        exact ihL1 (k + 1)  (by omega) (by omega)  _ _ _ hP hD hS (lv_sub hl [2, 3, 0] rfl)
  exact L1 (lvs + 1) 0  (by omega) (by omega)  _ _ _ hP hD hS (lv_sub hl [1, 2, 0] rfl)
end
section
theorem st_hf {lc l0 up sl : Nat} {S : Nat → Nat → Int32} (hf2 : ∀ j, j < 4 * up + sl → ¬ S (pathB lc l0 (j / 4)) (6 * (j % 4)) = 0) (hs : sl < 4) (c3 : ¬ S (pathB lc l0 up) (6 * sl) = 0) : ∀ j, j < 4 * up + (sl + 1) → ¬ S (pathB lc l0 (j / 4)) (6 * (j % 4)) = 0 := by
  intro j hj
  by_cases hj2 : j < 4 * up + sl
  · exact hf2 j hj2
  · have e : j = 4 * up + sl := by omega
    subst e
    rw [show (4 * up + sl) / 4 = up by omega, show (4 * up + sl) % 4 = sl by omega]
    exact c3
def fiK (f : Nat → Int32) (v : Int32) (k : Nat) : Nat → Int32 := fun j => if j < k then v else f j
theorem fiK_0 {f : Nat → Int32} {v : Int32} : fiK f v 0 = f := by funext j; simp [fiK]
theorem fiK_s {f : Nat → Int32} {v : Int32} {k : Nat} : upd (fiK f v k) k v = fiK f v (k + 1) := by
  funext i
  by_cases h : i = k
  · subst h; simp [upd, fiK]
  · have h1 : (i < k + 1) = (i < k) := by apply propext; omega
    simp [upd, h, fiK, h1]
theorem fiK_lt {f : Nat → Int32} {v : Int32} {k j : Nat} (h : j < k) : fiK f v k j = v := by simp [fiK, h]
abbrev wA1 (cI cZ cJ : ClassId) (a : Nat) (n : Nat) (f : Nat → Int32) : va_W := [(a, .inl (cI, n, .inl f))]
abbrev wTr (cI cZ cJ : ClassId) (t : Nat) (st : Nat) (ct : Nat) (hd : Nat) (lv : Nat) (wd : Nat) (num : Int32) (lc : Nat) (lvs : Nat) (nb : Nat) (nk : Nat) (key : Int32) (S : Nat → Int32) (C : Nat → Int32) (O : Nat → Int32) (L : Nat → Int32) (Wd : Nat → Int32) : va_W := [(t, .inr (3, [.int num, .int (nI lc), .int (nI lvs), .int (nI nb), .int (nI nk), .ref st, .ref ct, .ref hd, .ref lv, .ref wd, .int key])), (st, .inl (cI, 25 * nb, .inl S)), (ct, .inl (cI, nb, .inl C)), (hd, .inl (cZ, nk, .inl O)), (lv, .inl (cI, nk, .inl L)), (wd, .inl (cI, 4 * nk, .inl Wd))]
set_option maxHeartbeats 4000000 in
set_option maxRecDepth 100000 in
theorem c_clearWords (l : Launch) (D : va_G) (cI cZ cJ : ClassId) (t : Nat) (st : Nat) (ct : Nat) (hd : Nat) (lv : Nat) (wd : Nat) (num : Int32) (lc : Nat) (lvs : Nat) (nb : Nat) (nk : Nat) (key : Int32) (S : Nat → Nat → Int32) (C : Nat → Int32) (O : Nat → Int32) (L : Nat → Int32) (Wd : Nat → Nat → Int32) (n : Nat) (hT : TP lc lvs nb nk) (hn : n < nk) : KV l yX3_clearWords wsX3_clearWords ({ frames := 1, cells := 0, slots := 0, locals := 23 }) D (kty cI cZ cJ) [.ref t, .int (nI n)] (wT cI cZ cJ t st ct hd lv wd num lc lvs nb nk key S C O L Wd) (fun (_ : Unit) => True) (fun _ : Unit => (wT cI cZ cJ t st ct hd lv wd num lc lvs nb nk key S C O L (setRow Wd n (zerK (Wd n) 4)))) 0 0 := by
  refine k_headV (cc := cX3_clearWords) (maxL := 3) (ret := none) (by decide) rfl (Nat.le_of_ble_eq_true rfl) ?_
  intro p e s m below meth c A ls args Q hx hb hr hml hts hown hlk hnm hA hK hP hD hS hl hQ
  have hq := hT.bd
  have hl : lv_has ls 3 [(0, .ref t), (1, .int (nI n))] := hl
  refine lv_iconst (v := nI 0) hx hb dX3_clearWords_0 (by decide) ?_
  refine lv_istore_n (lv' := [(2, .int (nI 0)), (0, .ref t), (1, .int (nI n))]) hx hb dX3_clearWords_1 rfl hl (by decide) rfl (fun ls hl => ?_)
  have hE1 : (wT cI cZ cJ t st ct hd lv wd num lc lvs nb nk key S C O L Wd) = (wT cI cZ cJ t st ct hd lv wd num lc lvs nb nk key S C O L (setRow Wd n (zerK (Wd n) 0))) := by rw [zerK_0, setRow_id]
  rw [hE1] at hP hD
  have L1 : ∀ (nf k : Nat) (hvL1 : k ≤ 4) (hFL1 : 4 - k < nf) (H : Heap) (locs : List Loc) (ls : Array Slot), va_P D vwCl (wT cI cZ cJ t st ct hd lv wd num lc lvs nb nk key S C O L (setRow Wd n (zerK (Wd n) k))) H → va_D A (wT cI cZ cJ t st ct hd lv wd num lc lvs nb nk key S C O L (setRow Wd n (zerK (Wd n) k))) → va_S A s.heap H locs → lv_has ls 3 [(0, .ref t), (1, .int (nI n)), (2, .int (nI k))] → W p l e ({ frames := 1, cells := 0, slots := 0, locals := 23 } : Room) s m args below meth c H locs 0 0 Q (F0 m 2 ls []) := by
    intro nf
    induction nf with
    | zero => intro k  hvL1 hFL1; omega
    | succ nf ihL1 =>
      intro k  hvL1 hFL1  H locs ls hP hD hS hl
      refine lv_iload_n hx hb dX3_clearWords_2 rfl (lv_at hl 2 rfl) ?_
      refine lv_iconst (v := nI 4) hx hb dX3_clearWords_3 (by decide) ?_
      refine k_icmp_ge (tgt := 20) hx hb (by omega) (by omega) dX3_clearWords_4 (by decide) (fun c1 => ?_) (fun c1 => ?_)
      · skip
        obtain rfl : k = 4 := by omega
        exact k_retv () hx hb hr hK hS hlk dX3_clearWords_20 hP hD (trivial) hQ
      · skip
        refine lv_aload_n hx hb dX3_clearWords_7 rfl (lv_at hl 0 rfl) ?_
        refine lv_iload_n hx hb dX3_clearWords_8 rfl (lv_at hl 1 rfl) ?_
        refine lv_iload_n hx hb dX3_clearWords_9 rfl (lv_at hl 2 rfl) ?_
        refine lv_iconst (v := nI 0) hx hb dX3_clearWords_10 (by decide) ?_
        refine k_vv (As := [.int (nI n), .int (nI k), .int (nI 0)]) (rest := []) (w2 := fun u : Unit => (wT cI cZ cJ t st ct hd lv wd num lc lvs nb nk key S C O L (setRow (setRow Wd n (zerK (Wd n) k)) n (upd ((setRow Wd n (zerK (Wd n) k)) n) k (nI 0))))) ⟨hx, hb, hml, hown, hts⟩ (c_setWord l D cI cZ cJ t st ct hd lv wd num lc lvs nb nk key S C O L (setRow Wd n (zerK (Wd n) k)) n k (nI 0) hT hn (by omega)) (cwV 3 hts gX3_clearWords_X3_setWord rfl rfl rfl (by decide +kernel) ⟨Nat.le_of_ble_eq_true rfl, Nat.le_of_ble_eq_true rfl⟩) hP hD hK hS hA [0, 1, 2, 3, 4, 5] [] [0, 1, 2, 3, 4, 5] rfl rfl (by decide) (fun u => rfl) rfl rfl (q0 := 0) rfl rfl hl.1 rfl (Nat.le_of_ble_eq_true rfl) dX3_clearWords_11 ⟨Nat.le_of_ble_eq_true rfl, Nat.le_of_ble_eq_true rfl⟩ (fun u H locs hu2 hP hD hS => ?_)
        have hE3 : (wT cI cZ cJ t st ct hd lv wd num lc lvs nb nk key S C O L (setRow (setRow Wd n (zerK (Wd n) k)) n (upd ((setRow Wd n (zerK (Wd n) k)) n) k (nI 0)))) = (wT cI cZ cJ t st ct hd lv wd num lc lvs nb nk key S C O L (setRow Wd n (zerK (Wd n) (k + 1)))) := by rw [setRow_s, setRow_2, show upd (zerK (Wd n) k) k (nI 0) = zerK (Wd n) (k + 1) from zerK_s]
        rw [hE3] at hP hD
        refine lv_iinc (v := nI (k + 1)) (lv' := [(2, .int (nI (k + 1))), (0, .ref t), (1, .int (nI n))]) hx hb dX3_clearWords_14 hl (k := 2) rfl (nI_add k 1) (by decide) rfl (fun ls hl => ?_)
        refine lv_goto (tgt := 2) hx hb dX3_clearWords_17 (by decide) ?_
        exact ihL1 (k + 1)  (by omega) (by omega)  _ _ _ hP hD hS (lv_sub hl [1, 2, 0] rfl)
  exact L1 (4 + 1) 0  (by omega) (by omega)  _ _ _ hP hD hS (lv_sub hl [1, 2, 0] rfl)

set_option maxHeartbeats 4000000 in
set_option maxRecDepth 100000 in
theorem c_settle (l : Launch) (D : va_G) (cI cZ cJ : ClassId) (t : Nat) (st : Nat) (ct : Nat) (hd : Nat) (lv : Nat) (wd : Nat) (num : Int32) (lc : Nat) (lvs : Nat) (nb : Nat) (nk : Nat) (key : Int32) (S : Nat → Nat → Int32) (C : Nat → Int32) (O : Nat → Int32) (L : Nat → Int32) (Wd : Nat → Nat → Int32) (n l0 : Nat) (hT : TP lc lvs nb nk) (hn : n < nk) (hl0 : l0 < lc) (hLn : L n = nI l0) : KV l yX3_settle wsX3_settle ({ frames := 2, cells := 0, slots := 0, locals := 47 }) D (kty cI cZ cJ) [.ref t, .int (nI n)] (wT cI cZ cJ t st ct hd lv wd num lc lvs nb nk key S C O L Wd) (fun (_ : Unit) => True) (fun _ : Unit => (wT cI cZ cJ t st ct hd lv wd num lc lvs nb nk key (stS lc lvs l0 n (L n) (Wd n) S) C (stO lc lvs l0 n S O) L Wd)) 0 0 := by
  refine k_headV (cc := cX3_settle) (maxL := 5) (ret := none) (by decide) rfl (Nat.le_of_ble_eq_true rfl) ?_
  intro p e s m below meth c A ls args Q hx hb hr hml hts hown hlk hnm hA hK hP hD hS hl hQ
  have hq := hT.bd
  have hl : lv_has ls 5 [(0, .ref t), (1, .int (nI n))] := hl
  refine lv_iconst (v := nI 0) hx hb dX3_settle_0 (by decide) ?_
  refine lv_istore_n (lv' := [(2, .int (nI 0)), (0, .ref t), (1, .int (nI n))]) hx hb dX3_settle_1 rfl hl (by decide) rfl (fun ls hl => ?_)
  have L1 : ∀ (nf up : Nat) (hvL1 : up ≤ lvs) (hFL1 : lvs - up < nf) (hf : ∀ j, j < 4 * up → ¬ S (pathB lc l0 (j / 4)) (6 * (j % 4)) = 0) (H : Heap) (locs : List Loc) (ls : Array Slot), va_P D vwCl (wT cI cZ cJ t st ct hd lv wd num lc lvs nb nk key S C O L Wd) H → va_D A (wT cI cZ cJ t st ct hd lv wd num lc lvs nb nk key S C O L Wd) → va_S A s.heap H locs → lv_has ls 5 [(0, .ref t), (1, .int (nI n)), (2, .int (nI up))] → W p l e ({ frames := 2, cells := 0, slots := 0, locals := 47 } : Room) s m args below meth c H locs 0 0 Q (F0 m 2 ls []) := by
    intro nf
    induction nf with
    | zero => intro up  hvL1 hFL1; omega
    | succ nf ihL1 =>
      intro up  hvL1 hFL1 hf H locs ls hP hD hS hl
      refine lv_iload_n hx hb dX3_settle_2 rfl (lv_at hl 2 rfl) ?_
      refine lv_aload_n hx hb dX3_settle_3 rfl (lv_at hl 0 rfl) ?_
      refine va_get (D := D) (ci := 3) (v := .int (nI lvs)) (C := RX3) (T := TX3) (N := 11) hx hb hts (by decide +kernel) hown hK hP 0 rfl rfl 2 (by decide) (hts (.fieldLink RX3 18 "VeiledFiles$Tree" "levels" "I") (by decide +kernel)) (fun _ h9 => h9) rfl dX3_settle_4 ?_
      refine k_icmp_ge (tgt := 66) hx hb (by omega) (by omega) dX3_settle_7 (by decide) (fun c1 => ?_) (fun c1 => ?_)
      · skip
        obtain rfl : lvs = up := by omega
        have hst := st_n (n := n) (lf := L n) (wd := Wd n) (O := O) hf
        have hE1 : (wT cI cZ cJ t st ct hd lv wd num lc lvs nb nk key S C O L Wd) = (wT cI cZ cJ t st ct hd lv wd num lc lvs nb nk key (stS lc lvs l0 n (L n) (Wd n) S) C O L Wd) := by rw [hst.1]
        rw [hE1] at hP hD
        have hE2 : (wT cI cZ cJ t st ct hd lv wd num lc lvs nb nk key (stS lc lvs l0 n (L n) (Wd n) S) C O L Wd) = (wT cI cZ cJ t st ct hd lv wd num lc lvs nb nk key (stS lc lvs l0 n (L n) (Wd n) S) C (stO lc lvs l0 n S O) L Wd) := by rw [hst.2]
        rw [hE2] at hP hD
        exact k_retv () hx hb hr hK hS hlk dX3_settle_66 hP hD (trivial) hQ
      · skip
        refine lv_aload_n hx hb dX3_settle_10 rfl (lv_at hl 0 rfl) ?_
        refine lv_aload_n hx hb dX3_settle_11 rfl (lv_at hl 0 rfl) ?_
        refine va_get (D := D) (ci := 3) (v := .ref lv) (C := RX3) (T := TX3) (N := 11) hx hb hts (by decide +kernel) hown hK hP 0 rfl rfl 8 (by decide) (hts (.fieldLink RX3 38 "VeiledFiles$Tree" "leaves" "[I") (by decide +kernel)) (fun _ h9 => h9) rfl dX3_settle_12 ?_
        refine lv_iload_n hx hb dX3_settle_15 rfl (lv_at hl 1 rfl) ?_
        refine k_iald hx hb hK hP 4 0 rfl rfl n (by omega) (by omega) (v := nI l0) (hLn) dX3_settle_16 ?_
        refine lv_iload_n hx hb dX3_settle_17 rfl (lv_at hl 2 rfl) ?_
        refine k_vi (As := [.int (nI l0), .int (nI up)]) (rest := []) (w2 := fun u : Unit => (wT cI cZ cJ t st ct hd lv wd num lc lvs nb nk key S C O L Wd)) ⟨hx, hb, hml, hown, hts⟩ (c_bucketOver l D cI cZ cJ t st ct hd lv wd num lc lvs nb nk key S C O L Wd l0 up hT hl0 c1) (cwV 2 hts gX3_settle_X3_bucketOver rfl rfl rfl (by decide +kernel) ⟨Nat.le_of_ble_eq_true rfl, Nat.le_of_ble_eq_true rfl⟩) hP hD hK hS hA [0, 1, 2, 3, 4, 5] [] [0, 1, 2, 3, 4, 5] rfl rfl (by decide) (fun u => rfl) rfl rfl (q0 := 0) rfl rfl hl.1 rfl (Nat.le_of_ble_eq_true rfl) dX3_settle_18 ⟨Nat.le_of_ble_eq_true rfl, Nat.le_of_ble_eq_true rfl⟩ (fun r u H locs hu3 hP hD hS => ?_)
        obtain rfl : r = nI (pathB lc l0 up) := hu3
        have hpl := pathB_lt (up := up) hT hl0
        refine lv_istore_n (lv' := [(3, .int (nI (pathB lc l0 up))), (0, .ref t), (1, .int (nI n)), (2, .int (nI up))]) hx hb dX3_settle_21 rfl hl (by decide) rfl (fun ls hl => ?_)
        refine lv_iconst (v := nI 0) hx hb dX3_settle_22 (by decide) ?_
        refine lv_istore (lv' := [(4, .int (nI 0)), (3, .int (nI (pathB lc l0 up))), (0, .ref t), (1, .int (nI n)), (2, .int (nI up))]) hx hb dX3_settle_23 hl (by decide) rfl (fun ls hl => ?_)
        have L2 : ∀ (nf sl : Nat) (hvL2 : sl ≤ 4) (hFL2 : 4 - sl < nf) (hf2 : ∀ j, j < 4 * up + sl → ¬ S (pathB lc l0 (j / 4)) (6 * (j % 4)) = 0) (H : Heap) (locs : List Loc) (ls : Array Slot), va_P D vwCl (wT cI cZ cJ t st ct hd lv wd num lc lvs nb nk key S C O L Wd) H → va_D A (wT cI cZ cJ t st ct hd lv wd num lc lvs nb nk key S C O L Wd) → va_S A s.heap H locs → lv_has ls 5 [(0, .ref t), (1, .int (nI n)), (2, .int (nI up)), (3, .int (nI (pathB lc l0 up))), (4, .int (nI sl))] → W p l e ({ frames := 2, cells := 0, slots := 0, locals := 47 } : Room) s m args below meth c H locs 0 0 Q (F0 m 25 ls []) := by
          intro nf
          induction nf with
          | zero => intro sl  hvL2 hFL2; omega
          | succ nf ihL2 =>
            intro sl  hvL2 hFL2 hf2 H locs ls hP hD hS hl
            refine lv_iload hx hb dX3_settle_25 (lv_at hl 4 rfl) ?_
            refine lv_iconst (v := nI 4) hx hb dX3_settle_27 (by decide) ?_
            refine k_icmp_ge (tgt := 60) hx hb (by omega) (by omega) dX3_settle_28 (by decide) (fun c2 => ?_) (fun c2 => ?_)
            · skip
              obtain rfl : sl = 4 := by omega
              refine lv_iinc (v := nI (up + 1)) (lv' := [(2, .int (nI (up + 1))), (0, .ref t), (1, .int (nI n)), (3, .int (nI (pathB lc l0 up))), (4, .int (nI 4))]) hx hb dX3_settle_60 hl (k := 2) rfl (nI_add up 1) (by decide) rfl (fun ls hl => ?_)
              refine lv_goto (tgt := 2) hx hb dX3_settle_63 (by decide) ?_
              exact ihL1 (up + 1)  (by omega) (by omega) hf2 _ _ _ hP hD hS (lv_sub hl [1, 2, 0] rfl)
            · skip
              refine lv_aload_n hx hb dX3_settle_31 rfl (lv_at hl 0 rfl) ?_
              refine va_get (D := D) (ci := 3) (v := .ref st) (C := RX3) (T := TX3) (N := 11) hx hb hts (by decide +kernel) hown hK hP 0 rfl rfl 5 (by decide) (hts (.fieldLink RX3 27 "VeiledFiles$Tree" "store" "[I") (by decide +kernel)) (fun _ h9 => h9) rfl dX3_settle_32 ?_
              refine lv_iload_n hx hb dX3_settle_35 rfl (lv_at hl 3 rfl) ?_
              refine lv_iload hx hb dX3_settle_36 (lv_at hl 4 rfl) ?_
              refine k_si (As := [.int (nI (pathB lc l0 up)), .int (nI sl)]) (rest := [.ref st]) (w2 := fun u : Unit => (wT cI cZ cJ t st ct hd lv wd num lc lvs nb nk key S C O L Wd)) ⟨hx, hb, hml, hown, hts⟩ (c_slotStart l D cI cZ cJ  (pathB lc l0 up) sl) (va_cwS 2 hts gX3_settle_X3_slotStart rfl rfl rfl (by decide +kernel) ⟨Nat.le_of_ble_eq_true rfl, Nat.le_of_ble_eq_true rfl⟩) hP hD hK hS hA [] [0, 1, 2, 3, 4, 5] [0, 1, 2, 3, 4, 5] rfl rfl (by decide) (fun u => rfl) rfl hl.1 rfl (Nat.le_of_ble_eq_true rfl) dX3_settle_38 ⟨Nat.le_of_ble_eq_true rfl, Nat.le_of_ble_eq_true rfl⟩ (fun r u H locs hu4 hP hD hS => ?_)
              obtain rfl : r = nI (25 * pathB lc l0 up + 6 * sl) := hu4
              refine k_iald hx hb hK hP 1 0 rfl rfl (25 * pathB lc l0 up + 6 * sl) (by omega) (by omega) (v := S (pathB lc l0 up) (6 * sl)) (fl25_eq (b := pathB lc l0 up) (i := 6 * sl) (by omega) (by omega)) dX3_settle_41 ?_
              refine lv_if_ne (tgt := 54) hx hb dX3_settle_42 (by decide) (fun c3 => ?_) (fun c3 => ?_)
              · skip
                refine lv_iinc (v := nI (sl + 1)) (lv' := [(4, .int (nI (sl + 1))), (0, .ref t), (1, .int (nI n)), (2, .int (nI up)), (3, .int (nI (pathB lc l0 up)))]) hx hb dX3_settle_54 hl (k := 4) rfl (nI_add sl 1) (by decide) rfl (fun ls hl => ?_)
                refine lv_goto (tgt := 25) hx hb dX3_settle_57 (by decide) ?_
                exact ihL2 (sl + 1)  (by omega) (by omega) (st_hf hf2 c2 c3) _ _ _ hP hD hS (lv_sub hl [1, 2, 3, 4, 0] rfl)
              · skip
                refine lv_aload_n hx hb dX3_settle_45 rfl (lv_at hl 0 rfl) ?_
                refine lv_iload_n hx hb dX3_settle_46 rfl (lv_at hl 1 rfl) ?_
                refine lv_iload_n hx hb dX3_settle_47 rfl (lv_at hl 3 rfl) ?_
                refine lv_iload hx hb dX3_settle_48 (lv_at hl 4 rfl) ?_
                refine k_vv (As := [.int (nI n), .int (nI (pathB lc l0 up)), .int (nI sl)]) (rest := []) (w2 := fun u : Unit => (wT cI cZ cJ t st ct hd lv wd num lc lvs nb nk key (setRow S (pathB lc l0 up) (putR (S (pathB lc l0 up)) sl n (L n) (Wd n))) C (upd O n 0) L Wd)) ⟨hx, hb, hml, hown, hts⟩ (c_place l D cI cZ cJ t st ct hd lv wd num lc lvs nb nk key S C O L Wd n (pathB lc l0 up) sl hT hn hpl c2) (cwV 3 hts gX3_settle_X3_place rfl rfl rfl (by decide +kernel) ⟨Nat.le_of_ble_eq_true rfl, Nat.le_of_ble_eq_true rfl⟩) hP hD hK hS hA [0, 1, 2, 3, 4, 5] [] [0, 1, 2, 3, 4, 5] rfl rfl (by decide) (fun u => rfl) rfl rfl (q0 := 0) rfl rfl hl.1 rfl (Nat.le_of_ble_eq_true rfl) dX3_settle_50 ⟨Nat.le_of_ble_eq_true rfl, Nat.le_of_ble_eq_true rfl⟩ (fun u H locs hu5 hP hD hS => ?_)
                have hst := st_y (n := n) (lf := L n) (wd := Wd n) (O := O) c1 c2 c3 hf2
                have hE6 : (wT cI cZ cJ t st ct hd lv wd num lc lvs nb nk key (setRow S (pathB lc l0 up) (putR (S (pathB lc l0 up)) sl n (L n) (Wd n))) C (upd O n 0) L Wd) = (wT cI cZ cJ t st ct hd lv wd num lc lvs nb nk key (stS lc lvs l0 n (L n) (Wd n) S) C (upd O n 0) L Wd) := by rw [hst.1]
                rw [hE6] at hP hD
                have hE7 : (wT cI cZ cJ t st ct hd lv wd num lc lvs nb nk key (stS lc lvs l0 n (L n) (Wd n) S) C (upd O n 0) L Wd) = (wT cI cZ cJ t st ct hd lv wd num lc lvs nb nk key (stS lc lvs l0 n (L n) (Wd n) S) C (stO lc lvs l0 n S O) L Wd) := by rw [hst.2]
                rw [hE7] at hP hD
                exact k_retv () hx hb hr hK hS hlk dX3_settle_53 hP hD (trivial) hQ
        exact L2 (4 + 1) 0  (by omega) (by omega) hf _ _ _ hP hD hS (lv_sub hl [2, 3, 4, 1, 0] rfl)
  exact L1 (lvs + 1) 0  (by omega) (by omega) (fun j hj => absurd hj (by omega)) _ _ _ hP hD hS (lv_sub hl [1, 2, 0] rfl)

set_option maxHeartbeats 4000000 in
set_option maxRecDepth 100000 in
theorem c_settleAll (l : Launch) (D : va_G) (cI cZ cJ : ClassId) (t : Nat) (st : Nat) (ct : Nat) (hd : Nat) (lv : Nat) (wd : Nat) (num : Int32) (lc : Nat) (lvs : Nat) (nb : Nat) (nk : Nat) (key : Int32) (S : Nat → Nat → Int32) (C : Nat → Int32) (O : Nat → Int32) (L : Nat → Int32) (Wd : Nat → Nat → Int32)  (hT : TP lc lvs nb nk) (hL : ∀ n, n < nk → ∃ l0, l0 < lc ∧ L n = nI l0) : KV l yX3_settleAll wsX3_settleAll ({ frames := 3, cells := 0, slots := 0, locals := 71 }) D (kty cI cZ cJ) [.ref t] (wT cI cZ cJ t st ct hd lv wd num lc lvs nb nk key S C O L Wd) (fun (_ : Unit) => True) (fun _ : Unit => (wT cI cZ cJ t st ct hd lv wd num lc lvs nb nk key (seK key num C (saN lc lvs L Wd S O nk).1 nb) C ((saN lc lvs L Wd S O nk).2) L Wd)) 0 0 := by
  refine k_headV (cc := cX3_settleAll) (maxL := 2) (ret := none) (by decide) rfl (Nat.le_of_ble_eq_true rfl) ?_
  intro p e s m below meth c A ls args Q hx hb hr hml hts hown hlk hnm hA hK hP hD hS hl hQ
  have hq := hT.bd
  have hl : lv_has ls 2 [(0, .ref t)] := hl
  refine lv_iconst (v := nI 0) hx hb dX3_settleAll_0 (by decide) ?_
  refine lv_istore_n (lv' := [(1, .int (nI 0)), (0, .ref t)]) hx hb dX3_settleAll_1 rfl hl (by decide) rfl (fun ls hl => ?_)
  have L1 : ∀ (nf n : Nat) (hvL1 : n ≤ nk) (hFL1 : nk - n < nf) (H : Heap) (locs : List Loc) (ls : Array Slot), va_P D vwCl (wT cI cZ cJ t st ct hd lv wd num lc lvs nb nk key ((saN lc lvs L Wd S O n).1) C ((saN lc lvs L Wd S O n).2) L Wd) H → va_D A (wT cI cZ cJ t st ct hd lv wd num lc lvs nb nk key ((saN lc lvs L Wd S O n).1) C ((saN lc lvs L Wd S O n).2) L Wd) → va_S A s.heap H locs → lv_has ls 2 [(0, .ref t), (1, .int (nI n))] → W p l e ({ frames := 3, cells := 0, slots := 0, locals := 71 } : Room) s m args below meth c H locs 0 0 Q (F0 m 2 ls []) := by
    intro nf
    induction nf with
    | zero => intro n  hvL1 hFL1; omega
    | succ nf ihL1 =>
      intro n  hvL1 hFL1  H locs ls hP hD hS hl
      refine lv_iload_n hx hb dX3_settleAll_2 rfl (lv_at hl 1 rfl) ?_
      refine lv_aload_n hx hb dX3_settleAll_3 rfl (lv_at hl 0 rfl) ?_
      refine va_get (D := D) (ci := 3) (v := .int (nI nk)) (C := RX3) (T := TX3) (N := 11) hx hb hts (by decide +kernel) hown hK hP 0 rfl rfl 4 (by decide) (hts (.fieldLink RX3 24 "VeiledFiles$Tree" "blocks" "I") (by decide +kernel)) (fun _ h9 => h9) rfl dX3_settleAll_4 ?_
      refine k_icmp_ge (tgt := 21) hx hb (by omega) (by omega) dX3_settleAll_7 (by decide) (fun c1 => ?_) (fun c1 => ?_)
      · skip
        obtain rfl : nk = n := by omega
        refine lv_iconst (v := nI 0) hx hb dX3_settleAll_21 (by decide) ?_
        refine lv_istore_n (lv' := [(1, .int (nI 0)), (0, .ref t)]) hx hb dX3_settleAll_22 rfl hl (by decide) rfl (fun ls hl => ?_)
        have hE1 : (wT cI cZ cJ t st ct hd lv wd num lc lvs nb nk key ((saN lc lvs L Wd S O nk).1) C ((saN lc lvs L Wd S O nk).2) L Wd) = (wT cI cZ cJ t st ct hd lv wd num lc lvs nb nk key (seK key num C (saN lc lvs L Wd S O nk).1 0) C ((saN lc lvs L Wd S O nk).2) L Wd) := by rw [seK_0]
        rw [hE1] at hP hD
        have L2 : ∀ (nf k : Nat) (hvL2 : k ≤ nb) (hFL2 : nb - k < nf) (H : Heap) (locs : List Loc) (ls : Array Slot), va_P D vwCl (wT cI cZ cJ t st ct hd lv wd num lc lvs nb nk key (seK key num C (saN lc lvs L Wd S O nk).1 k) C ((saN lc lvs L Wd S O nk).2) L Wd) H → va_D A (wT cI cZ cJ t st ct hd lv wd num lc lvs nb nk key (seK key num C (saN lc lvs L Wd S O nk).1 k) C ((saN lc lvs L Wd S O nk).2) L Wd) → va_S A s.heap H locs → lv_has ls 2 [(0, .ref t), (1, .int (nI k))] → W p l e ({ frames := 3, cells := 0, slots := 0, locals := 71 } : Room) s m args below meth c H locs 0 0 Q (F0 m 23 ls []) := by
          intro nf
          induction nf with
          | zero => intro k  hvL2 hFL2; omega
          | succ nf ihL2 =>
            intro k  hvL2 hFL2  H locs ls hP hD hS hl
            refine lv_iload_n hx hb dX3_settleAll_23 rfl (lv_at hl 1 rfl) ?_
            refine lv_aload_n hx hb dX3_settleAll_24 rfl (lv_at hl 0 rfl) ?_
            refine va_get (D := D) (ci := 3) (v := .int (nI nb)) (C := RX3) (T := TX3) (N := 11) hx hb hts (by decide +kernel) hown hK hP 0 rfl rfl 3 (by decide) (hts (.fieldLink RX3 21 "VeiledFiles$Tree" "buckets" "I") (by decide +kernel)) (fun _ h9 => h9) rfl dX3_settleAll_25 ?_
            refine k_icmp_ge (tgt := 42) hx hb (by omega) (by omega) dX3_settleAll_28 (by decide) (fun c2 => ?_) (fun c2 => ?_)
            · skip
              obtain rfl : nb = k := by omega
              exact k_retv () hx hb hr hK hS hlk dX3_settleAll_42 hP hD (trivial) hQ
            · skip
              refine lv_aload_n hx hb dX3_settleAll_31 rfl (lv_at hl 0 rfl) ?_
              refine lv_iload_n hx hb dX3_settleAll_32 rfl (lv_at hl 1 rfl) ?_
              refine k_vv (As := [.int (nI k)]) (rest := []) (w2 := fun u : Unit => (wT cI cZ cJ t st ct hd lv wd num lc lvs nb nk key (setRow (seK key num C (saN lc lvs L Wd S O nk).1 k) k (sealR key num (C k) k ((seK key num C (saN lc lvs L Wd S O nk).1 k) k))) C ((saN lc lvs L Wd S O nk).2) L Wd)) ⟨hx, hb, hml, hown, hts⟩ (c_seal l D cI cZ cJ t st ct hd lv wd num lc lvs nb nk key (seK key num C (saN lc lvs L Wd S O nk).1 k) C ((saN lc lvs L Wd S O nk).2) L Wd k hT c2) (cwV 1 hts gX3_settleAll_X3_seal rfl rfl rfl (by decide +kernel) ⟨Nat.le_of_ble_eq_true rfl, Nat.le_of_ble_eq_true rfl⟩) hP hD hK hS hA [0, 1, 2, 3, 4, 5] [] [0, 1, 2, 3, 4, 5] rfl rfl (by decide) (fun u => rfl) rfl rfl (q0 := 0) rfl rfl hl.1 rfl (Nat.le_of_ble_eq_true rfl) dX3_settleAll_33 ⟨Nat.le_of_ble_eq_true rfl, Nat.le_of_ble_eq_true rfl⟩ (fun u H locs hu2 hP hD hS => ?_)
              have hE3 : (wT cI cZ cJ t st ct hd lv wd num lc lvs nb nk key (setRow (seK key num C (saN lc lvs L Wd S O nk).1 k) k (sealR key num (C k) k ((seK key num C (saN lc lvs L Wd S O nk).1 k) k))) C ((saN lc lvs L Wd S O nk).2) L Wd) = (wT cI cZ cJ t st ct hd lv wd num lc lvs nb nk key (seK key num C (saN lc lvs L Wd S O nk).1 (k + 1)) C ((saN lc lvs L Wd S O nk).2) L Wd) := by rw [seK_at, seK_s]
              rw [hE3] at hP hD
              refine lv_iinc (v := nI (k + 1)) (lv' := [(1, .int (nI (k + 1))), (0, .ref t)]) hx hb dX3_settleAll_36 hl (k := 1) rfl (nI_add k 1) (by decide) rfl (fun ls hl => ?_)
              refine lv_goto (tgt := 23) hx hb dX3_settleAll_39 (by decide) ?_
              exact ihL2 (k + 1)  (by omega) (by omega)  _ _ _ hP hD hS (lv_sub hl [1, 0] rfl)
        exact L2 (nb + 1) 0  (by omega) (by omega)  _ _ _ hP hD hS (lv_sub hl [1, 0] rfl)
      · skip
        obtain ⟨l0, hl0, hLn⟩ := hL n c1
        have hcl : (L n).toNatClampNeg = l0 := by rw [hLn]; exact nI_clamp (by omega)
        refine lv_aload_n hx hb dX3_settleAll_10 rfl (lv_at hl 0 rfl) ?_
        refine lv_iload_n hx hb dX3_settleAll_11 rfl (lv_at hl 1 rfl) ?_
        refine k_vv (As := [.int (nI n)]) (rest := []) (w2 := fun u : Unit => (wT cI cZ cJ t st ct hd lv wd num lc lvs nb nk key (stS lc lvs l0 n (L n) (Wd n) (saN lc lvs L Wd S O n).1) C (stO lc lvs l0 n (saN lc lvs L Wd S O n).1 (saN lc lvs L Wd S O n).2) L Wd)) ⟨hx, hb, hml, hown, hts⟩ (c_settle l D cI cZ cJ t st ct hd lv wd num lc lvs nb nk key ((saN lc lvs L Wd S O n).1) C ((saN lc lvs L Wd S O n).2) L Wd n l0 hT c1 hl0 hLn) (cwV 1 hts gX3_settleAll_X3_settle rfl rfl rfl (by decide +kernel) ⟨Nat.le_of_ble_eq_true rfl, Nat.le_of_ble_eq_true rfl⟩) hP hD hK hS hA [0, 1, 2, 3, 4, 5] [] [0, 1, 2, 3, 4, 5] rfl rfl (by decide) (fun u => rfl) rfl rfl (q0 := 0) rfl rfl hl.1 rfl (Nat.le_of_ble_eq_true rfl) dX3_settleAll_12 ⟨Nat.le_of_ble_eq_true rfl, Nat.le_of_ble_eq_true rfl⟩ (fun u H locs hu4 hP hD hS => ?_)
        have hE5 : (wT cI cZ cJ t st ct hd lv wd num lc lvs nb nk key (stS lc lvs l0 n (L n) (Wd n) (saN lc lvs L Wd S O n).1) C (stO lc lvs l0 n (saN lc lvs L Wd S O n).1 (saN lc lvs L Wd S O n).2) L Wd) = (wT cI cZ cJ t st ct hd lv wd num lc lvs nb nk key ((saN lc lvs L Wd S O (n + 1)).1) C (stO lc lvs l0 n (saN lc lvs L Wd S O n).1 (saN lc lvs L Wd S O n).2) L Wd) := by rw [← hcl]; rfl
        rw [hE5] at hP hD
        have hE6 : (wT cI cZ cJ t st ct hd lv wd num lc lvs nb nk key ((saN lc lvs L Wd S O (n + 1)).1) C (stO lc lvs l0 n (saN lc lvs L Wd S O n).1 (saN lc lvs L Wd S O n).2) L Wd) = (wT cI cZ cJ t st ct hd lv wd num lc lvs nb nk key ((saN lc lvs L Wd S O (n + 1)).1) C ((saN lc lvs L Wd S O (n + 1)).2) L Wd) := by rw [← hcl]; rfl
        rw [hE6] at hP hD
        refine lv_iinc (v := nI (n + 1)) (lv' := [(1, .int (nI (n + 1))), (0, .ref t)]) hx hb dX3_settleAll_15 hl (k := 1) rfl (nI_add n 1) (by decide) rfl (fun ls hl => ?_)
        refine lv_goto (tgt := 2) hx hb dX3_settleAll_18 (by decide) ?_
        exact ihL1 (n + 1)  (by omega) (by omega)  _ _ _ hP hD hS (lv_sub hl [1, 0] rfl)
  exact L1 (nk + 1) 0  (by omega) (by omega)  _ _ _ hP hD hS (lv_sub hl [1, 0] rfl)

set_option maxHeartbeats 4000000 in
set_option maxRecDepth 100000 in
theorem c_fill (l : Launch) (D : va_G) (cI cZ cJ : ClassId) (a : Nat) (n : Nat) (f : Nat → Int32) (v : Int32) (hn : n < 2147483648) : KV l yJ7_fill_53178 wsJ7_fill_53178 ({ frames := 0, cells := 0, slots := 0, locals := 0 }) D (kty cI cZ cJ) [.ref a, .int v] (wA1 cI cZ cJ a n f) (fun (_ : Unit) => True) (fun _ : Unit => (wA1 cI cZ cJ a n (fiK f v n))) 0 0 := by
  refine k_headV (cc := cJ7_fill_53178) (maxL := 4) (ret := none) (by decide) rfl (Nat.le_of_ble_eq_true rfl) ?_
  intro p e s m below meth c A ls args Q hx hb hr hml hts hown hlk hnm hA hK hP hD hS hl hQ
  have hl : lv_has ls 4 [(0, .ref a), (1, .int v)] := hl
  refine lv_iconst (v := nI 0) hx hb dJ7_fill_53178_0 (by decide) ?_
  refine lv_istore_n (lv' := [(2, .int (nI 0)), (0, .ref a), (1, .int v)]) hx hb dJ7_fill_53178_1 rfl hl (by decide) rfl (fun ls hl => ?_)
  refine lv_aload_n hx hb dJ7_fill_53178_2 rfl (lv_at hl 1 rfl) ?_
  refine va_alen hx hb hK hP 0 0 rfl rfl (v := nI n) rfl dJ7_fill_53178_3 ?_
  refine lv_istore_n (lv' := [(3, .int (nI n)), (2, .int (nI 0)), (0, .ref a), (1, .int v)]) hx hb dJ7_fill_53178_4 rfl hl (by decide) rfl (fun ls hl => ?_)
  have hE1 : (wA1 cI cZ cJ a n f) = (wA1 cI cZ cJ a n (fiK f v 0)) := by rw [fiK_0]
  rw [hE1] at hP hD
  have L1 : ∀ (nf k : Nat) (hvL1 : k ≤ n) (hFL1 : n - k < nf) (H : Heap) (locs : List Loc) (ls : Array Slot), va_P D vwCl (wA1 cI cZ cJ a n (fiK f v k)) H → va_D A (wA1 cI cZ cJ a n (fiK f v k)) → va_S A s.heap H locs → lv_has ls 4 [(0, .ref a), (1, .int v), (2, .int (nI k)), (3, .int (nI n))] → W p l e ({ frames := 0, cells := 0, slots := 0, locals := 0 } : Room) s m args below meth c H locs 0 0 Q (F0 m 5 ls []) := by
    intro nf
    induction nf with
    | zero => intro k  hvL1 hFL1; omega
    | succ nf ihL1 =>
      intro k  hvL1 hFL1  H locs ls hP hD hS hl
      refine lv_iload_n hx hb dJ7_fill_53178_5 rfl (lv_at hl 2 rfl) ?_
      refine lv_iload_n hx hb dJ7_fill_53178_6 rfl (lv_at hl 3 rfl) ?_
      refine k_icmp_ge (tgt := 20) hx hb (by omega) (by omega) dJ7_fill_53178_7 (by decide) (fun c1 => ?_) (fun c1 => ?_)
      · skip
        obtain rfl : n = k := by omega
        exact k_retv () hx hb hr hK hS hlk dJ7_fill_53178_20 hP hD (trivial) hQ
      · skip
        refine lv_aload_n hx hb dJ7_fill_53178_10 rfl (lv_at hl 0 rfl) ?_
        refine lv_iload_n hx hb dJ7_fill_53178_11 rfl (lv_at hl 2 rfl) ?_
        refine lv_iload_n hx hb dJ7_fill_53178_12 rfl (lv_at hl 1 rfl) ?_
        refine k_iast hx hb hK hP hD hS 0 0 rfl rfl k (by omega) (by omega) (g := (fiK f v (k + 1))) (fiK_s) dJ7_fill_53178_13 (fun H locs hP hD hS => ?_)
        have hP : va_P D vwCl (wA1 cI cZ cJ a n (fiK f v (k + 1))) H := hP
        have hD : va_D A (wA1 cI cZ cJ a n (fiK f v (k + 1))) := hD
        refine lv_iinc (v := nI (k + 1)) (lv' := [(2, .int (nI (k + 1))), (0, .ref a), (1, .int v), (3, .int (nI n))]) hx hb dJ7_fill_53178_14 hl (k := 2) rfl (nI_add k 1) (by decide) rfl (fun ls hl => ?_)
        refine lv_goto (tgt := 5) hx hb dJ7_fill_53178_17 (by decide) ?_
        exact ihL1 (k + 1)  (by omega) (by omega)  _ _ _ hP hD hS (lv_sub hl [1, 2, 0, 3] rfl)
  exact L1 (n + 1) 0  (by omega) (by omega)  _ _ _ hP hD hS (lv_sub hl [2, 3, 1, 0] rfl)

set_option maxHeartbeats 4000000 in
set_option maxRecDepth 100000 in
theorem c_empty (l : Launch) (D : va_G) (cI cZ cJ : ClassId) (t : Nat) (st : Nat) (ct : Nat) (hd : Nat) (lv : Nat) (wd : Nat) (num : Int32) (lc : Nat) (lvs : Nat) (nb : Nat) (nk : Nat) (key : Int32) (S : Nat → Nat → Int32) (C : Nat → Int32) (O : Nat → Int32) (L : Nat → Int32) (Wd : Nat → Nat → Int32) (k0 : Int32) (hT : TP lc lvs nb nk)  : KV l yX3_empty wsX3_empty ({ frames := 1, cells := 0, slots := 0, locals := 23 }) D (kty cI cZ cJ) [.ref t, .int k0] (wT cI cZ cJ t st ct hd lv wd num lc lvs nb nk key S C O L Wd) (fun (_ : Unit) => True) (fun _ : Unit => (wT cI cZ cJ t st ct hd lv wd num lc lvs nb nk k0 (fun _ => zrow) (fun _ => 1) (fun _ => 1) L (fun _ => zrow))) 0 0 := by
  refine k_headV (cc := cX3_empty) (maxL := 3) (ret := none) (by decide) rfl (Nat.le_of_ble_eq_true rfl) ?_
  intro p e s m below meth c A ls args Q hx hb hr hml hts hown hlk hnm hA hK hP hD hS hl hQ
  have hq := hT.bd
  have hl : lv_has ls 3 [(0, .ref t), (1, .int k0)] := hl
  have hP : va_P D vwCl (wTr cI cZ cJ t st ct hd lv wd num lc lvs nb nk key (fl25 S) C O L (fl4 Wd)) s.heap := hP
  have hD : va_D A (wTr cI cZ cJ t st ct hd lv wd num lc lvs nb nk key (fl25 S) C O L (fl4 Wd)) := hD
  refine lv_aload_n hx hb dX3_empty_0 rfl (lv_at hl 0 rfl) ?_
  refine lv_iload_n hx hb dX3_empty_1 rfl (lv_at hl 1 rfl) ?_
  refine va_put (D := D) (ci := 3) (v := .int k0) (ty := .int) (C := RX3) (T := TX3) (N := 11) hx hb hts (by decide +kernel) tyX3 tyX3_ok nmX3 hown hK hP hD hS 0 rfl rfl 10 (by decide) (hts (.fieldLink RX3 44 "VeiledFiles$Tree" "key" "I") (by decide +kernel)) (fun _ h9 => h9) rfl (by decide +kernel) rfl rfl (Nat.le_of_ble_eq_true rfl) dX3_empty_2 (fun H locs hP hD hS => ?_)
  have hP : va_P D vwCl (wTr cI cZ cJ t st ct hd lv wd num lc lvs nb nk k0 (fl25 S) C O L (fl4 Wd)) H := hP
  have hD : va_D A (wTr cI cZ cJ t st ct hd lv wd num lc lvs nb nk k0 (fl25 S) C O L (fl4 Wd)) := hD
  refine lv_aload_n hx hb dX3_empty_5 rfl (lv_at hl 0 rfl) ?_
  refine va_get (D := D) (ci := 3) (v := .ref st) (C := RX3) (T := TX3) (N := 11) hx hb hts (by decide +kernel) hown hK hP 0 rfl rfl 5 (by decide) (hts (.fieldLink RX3 27 "VeiledFiles$Tree" "store" "[I") (by decide +kernel)) (fun _ h9 => h9) rfl dX3_empty_6 ?_
  refine lv_iconst (v := nI 0) hx hb dX3_empty_9 (by decide) ?_
  refine k_sv (As := [.ref st, .int (nI 0)]) (rest := []) (w2 := fun u : Unit => (wTr cI cZ cJ t st ct hd lv wd num lc lvs nb nk k0 (fiK (fl25 S) (nI 0) (25 * nb)) C O L (fl4 Wd))) ⟨hx, hb, hml, hown, hts⟩ (c_fill l D cI cZ cJ st (25 * nb) (fl25 S) (nI 0) (by omega)) (va_cwS 2 hts gX3_empty_J7_fill_53178 rfl rfl rfl (by decide +kernel) ⟨Nat.le_of_ble_eq_true rfl, Nat.le_of_ble_eq_true rfl⟩) hP hD hK hS hA [1] [0, 2, 3, 4, 5] [0, 5, 1, 2, 3, 4] rfl rfl (by decide) (fun u => rfl) rfl hl.1 rfl (Nat.le_of_ble_eq_true rfl) dX3_empty_10 ⟨Nat.le_of_ble_eq_true rfl, Nat.le_of_ble_eq_true rfl⟩ (fun u H locs hu1 hP hD hS => ?_)
  have hP : va_P D vwCl (wTr cI cZ cJ t st ct hd lv wd num lc lvs nb nk k0 (fl25 (fun _ => zrow)) C O L (fl4 Wd)) H := k_extP (q0 := 1) hP rfl (fun j hj => fiK_lt hj)
  have hD : va_D A (wTr cI cZ cJ t st ct hd lv wd num lc lvs nb nk k0 (fl25 (fun _ => zrow)) C O L (fl4 Wd)) := hD.set (p := 1) rfl
  refine lv_aload_n hx hb dX3_empty_13 rfl (lv_at hl 0 rfl) ?_
  refine va_get (D := D) (ci := 3) (v := .ref ct) (C := RX3) (T := TX3) (N := 11) hx hb hts (by decide +kernel) hown hK hP 0 rfl rfl 6 (by decide) (hts (.fieldLink RX3 31 "VeiledFiles$Tree" "counters" "[I") (by decide +kernel)) (fun _ h9 => h9) rfl dX3_empty_14 ?_
  refine lv_iconst (v := nI 1) hx hb dX3_empty_17 (by decide) ?_
  refine k_sv (As := [.ref ct, .int (nI 1)]) (rest := []) (w2 := fun u : Unit => (wTr cI cZ cJ t st ct hd lv wd num lc lvs nb nk k0 (fl25 (fun _ => zrow)) (fiK C (nI 1) nb) O L (fl4 Wd))) ⟨hx, hb, hml, hown, hts⟩ (c_fill l D cI cZ cJ ct nb C (nI 1) (by omega)) (va_cwS 2 hts gX3_empty_J7_fill_53178 rfl rfl rfl (by decide +kernel) ⟨Nat.le_of_ble_eq_true rfl, Nat.le_of_ble_eq_true rfl⟩) hP hD hK hS hA [2] [0, 1, 3, 4, 5] [0, 1, 5, 2, 3, 4] rfl rfl (by decide) (fun u => rfl) rfl hl.1 rfl (Nat.le_of_ble_eq_true rfl) dX3_empty_18 ⟨Nat.le_of_ble_eq_true rfl, Nat.le_of_ble_eq_true rfl⟩ (fun u H locs hu2 hP hD hS => ?_)
  have hP : va_P D vwCl (wTr cI cZ cJ t st ct hd lv wd num lc lvs nb nk k0 (fl25 (fun _ => zrow)) (fun _ => 1) O L (fl4 Wd)) H := k_extP (q0 := 2) hP rfl (fun j hj => fiK_lt hj)
  have hD : va_D A (wTr cI cZ cJ t st ct hd lv wd num lc lvs nb nk k0 (fl25 (fun _ => zrow)) (fun _ => 1) O L (fl4 Wd)) := hD.set (p := 2) rfl
  refine lv_aload_n hx hb dX3_empty_21 rfl (lv_at hl 0 rfl) ?_
  refine va_get (D := D) (ci := 3) (v := .ref wd) (C := RX3) (T := TX3) (N := 11) hx hb hts (by decide +kernel) hown hK hP 0 rfl rfl 9 (by decide) (hts (.fieldLink RX3 41 "VeiledFiles$Tree" "words" "[I") (by decide +kernel)) (fun _ h9 => h9) rfl dX3_empty_22 ?_
  refine lv_iconst (v := nI 0) hx hb dX3_empty_25 (by decide) ?_
  refine k_sv (As := [.ref wd, .int (nI 0)]) (rest := []) (w2 := fun u : Unit => (wTr cI cZ cJ t st ct hd lv wd num lc lvs nb nk k0 (fl25 (fun _ => zrow)) (fun _ => 1) O L (fiK (fl4 Wd) (nI 0) (4 * nk)))) ⟨hx, hb, hml, hown, hts⟩ (c_fill l D cI cZ cJ wd (4 * nk) (fl4 Wd) (nI 0) (by omega)) (va_cwS 2 hts gX3_empty_J7_fill_53178 rfl rfl rfl (by decide +kernel) ⟨Nat.le_of_ble_eq_true rfl, Nat.le_of_ble_eq_true rfl⟩) hP hD hK hS hA [5] [0, 1, 2, 3, 4] [0, 1, 2, 3, 4, 5] rfl rfl (by decide) (fun u => rfl) rfl hl.1 rfl (Nat.le_of_ble_eq_true rfl) dX3_empty_26 ⟨Nat.le_of_ble_eq_true rfl, Nat.le_of_ble_eq_true rfl⟩ (fun u H locs hu3 hP hD hS => ?_)
  have hP : va_P D vwCl (wTr cI cZ cJ t st ct hd lv wd num lc lvs nb nk k0 (fl25 (fun _ => zrow)) (fun _ => 1) O L (fl4 (fun _ => zrow))) H := k_extP (q0 := 5) hP rfl (fun j hj => fiK_lt hj)
  have hD : va_D A (wTr cI cZ cJ t st ct hd lv wd num lc lvs nb nk k0 (fl25 (fun _ => zrow)) (fun _ => 1) O L (fl4 (fun _ => zrow))) := hD.set (p := 5) rfl
  refine lv_iconst (v := nI 0) hx hb dX3_empty_29 (by decide) ?_
  refine lv_istore_n (lv' := [(2, .int (nI 0)), (0, .ref t), (1, .int k0)]) hx hb dX3_empty_30 rfl hl (by decide) rfl (fun ls hl => ?_)
  have hE4 : (wTr cI cZ cJ t st ct hd lv wd num lc lvs nb nk k0 (fl25 (fun _ => zrow)) (fun _ => 1) O L (fl4 (fun _ => zrow))) = (wTr cI cZ cJ t st ct hd lv wd num lc lvs nb nk k0 (fl25 (fun _ => zrow)) (fun _ => 1) (fiK O 1 0) L (fl4 (fun _ => zrow))) := by rw [fiK_0]
  rw [hE4] at hP hD
  have L1 : ∀ (nf k : Nat) (hvL1 : k ≤ nk) (hFL1 : nk - k < nf) (H : Heap) (locs : List Loc) (ls : Array Slot), va_P D vwCl (wTr cI cZ cJ t st ct hd lv wd num lc lvs nb nk k0 (fl25 (fun _ => zrow)) (fun _ => 1) (fiK O 1 k) L (fl4 (fun _ => zrow))) H → va_D A (wTr cI cZ cJ t st ct hd lv wd num lc lvs nb nk k0 (fl25 (fun _ => zrow)) (fun _ => 1) (fiK O 1 k) L (fl4 (fun _ => zrow))) → va_S A s.heap H locs → lv_has ls 3 [(0, .ref t), (1, .int k0), (2, .int (nI k))] → W p l e ({ frames := 1, cells := 0, slots := 0, locals := 23 } : Room) s m args below meth c H locs 0 0 Q (F0 m 31 ls []) := by
    intro nf
    induction nf with
    | zero => intro k  hvL1 hFL1; omega
    | succ nf ihL1 =>
      intro k  hvL1 hFL1  H locs ls hP hD hS hl
      refine lv_iload_n hx hb dX3_empty_31 rfl (lv_at hl 2 rfl) ?_
      refine lv_aload_n hx hb dX3_empty_32 rfl (lv_at hl 0 rfl) ?_
      refine va_get (D := D) (ci := 3) (v := .int (nI nk)) (C := RX3) (T := TX3) (N := 11) hx hb hts (by decide +kernel) hown hK hP 0 rfl rfl 4 (by decide) (hts (.fieldLink RX3 24 "VeiledFiles$Tree" "blocks" "I") (by decide +kernel)) (fun _ h9 => h9) rfl dX3_empty_33 ?_
      refine k_icmp_ge (tgt := 52) hx hb (by omega) (by omega) dX3_empty_36 (by decide) (fun c1 => ?_) (fun c1 => ?_)
      · skip
        obtain rfl : nk = k := by omega
        have hP : va_P D vwCl (wTr cI cZ cJ t st ct hd lv wd num lc lvs nb nk k0 (fl25 (fun _ => zrow)) (fun _ => 1) (fun _ => 1) L (fl4 (fun _ => zrow))) H := k_extP (q0 := 3) hP rfl (fun j hj => fiK_lt hj)
        have hD : va_D A (wTr cI cZ cJ t st ct hd lv wd num lc lvs nb nk k0 (fl25 (fun _ => zrow)) (fun _ => 1) (fun _ => 1) L (fl4 (fun _ => zrow))) := hD.set (p := 3) rfl
        exact k_retv () hx hb hr hK hS hlk dX3_empty_52 hP hD (trivial) hQ
      · skip
        refine lv_aload_n hx hb dX3_empty_39 rfl (lv_at hl 0 rfl) ?_
        refine va_get (D := D) (ci := 3) (v := .ref hd) (C := RX3) (T := TX3) (N := 11) hx hb hts (by decide +kernel) hown hK hP 0 rfl rfl 7 (by decide) (hts (.fieldLink RX3 34 "VeiledFiles$Tree" "held" "[Z") (by decide +kernel)) (fun _ h9 => h9) rfl dX3_empty_40 ?_
        refine lv_iload_n hx hb dX3_empty_43 rfl (lv_at hl 2 rfl) ?_
        refine lv_iconst (v := nI 1) hx hb dX3_empty_44 (by decide) ?_
        refine k_zast hx hb hK hP hD hS 3 1 rfl rfl k (by omega) (by omega) (g := (fiK O 1 (k + 1))) (fiK_s) (by first | rfl | decide) dX3_empty_45 (fun H locs hP hD hS => ?_)
        have hP : va_P D vwCl (wTr cI cZ cJ t st ct hd lv wd num lc lvs nb nk k0 (fl25 (fun _ => zrow)) (fun _ => 1) (fiK O 1 (k + 1)) L (fl4 (fun _ => zrow))) H := hP
        have hD : va_D A (wTr cI cZ cJ t st ct hd lv wd num lc lvs nb nk k0 (fl25 (fun _ => zrow)) (fun _ => 1) (fiK O 1 (k + 1)) L (fl4 (fun _ => zrow))) := hD
        refine lv_iinc (v := nI (k + 1)) (lv' := [(2, .int (nI (k + 1))), (0, .ref t), (1, .int k0)]) hx hb dX3_empty_46 hl (k := 2) rfl (nI_add k 1) (by decide) rfl (fun ls hl => ?_)
        refine lv_goto (tgt := 31) hx hb dX3_empty_49 (by decide) ?_
        exact ihL1 (k + 1)  (by omega) (by omega)  _ _ _ hP hD hS (lv_sub hl [1, 2, 0] rfl)
  exact L1 (nk + 1) 0  (by omega) (by omega)  _ _ _ hP hD hS (lv_sub hl [1, 2, 0] rfl)
end

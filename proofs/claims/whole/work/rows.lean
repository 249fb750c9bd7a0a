section
-- ===== PART A: goes FIRST, ahead of the names: the tables' words, and 'selects' of the private methods out of them =====
/-- a private method of a class that the tables say can be made, by its rows of tables_1 -/
def lw_okq (q : MethodName × Nat) : Prop := (q.1.cls ≠ "java/lang/invoke/MethodHandle" ∧ q.1.cls ≠ "java/lang/invoke/VarHandle") ∧ Cond.instantiable q.1.cls q.2 ∈ tables_1 ∧ Cond.privateMethod q.1 ∈ tables_1 ∧ Cond.instanceMethod q.1 ∈ tables_1
theorem lw_p0 : lw_okq (⟨"KnotBand", "bandAt", "(I)LKnotBand$Band;"⟩, 5) := ⟨⟨by decide +kernel, by decide +kernel⟩, List.mem_of_getElem? (i := 14) (by decide +kernel), List.mem_of_getElem? (i := 200) (by decide +kernel), List.mem_of_getElem? (i := 201) (by decide +kernel)⟩
theorem lw_p1 : lw_okq (⟨"java/lang/Throwable", "fillInStackTrace", "(I)Ljava/lang/Throwable;"⟩, 6) := ⟨⟨by decide +kernel, by decide +kernel⟩, List.mem_of_getElem? (i := 244) (by decide +kernel), List.mem_of_getElem? (i := 242) (by decide +kernel), List.mem_of_getElem? (i := 243) (by decide +kernel)⟩
theorem lw_p2 : lw_okq (⟨"KnotBand$Band", "walkKnot", "(II)V"⟩, 8) := ⟨⟨by decide +kernel, by decide +kernel⟩, List.mem_of_getElem? (i := 63) (by decide +kernel), List.mem_of_getElem? (i := 328) (by decide +kernel), List.mem_of_getElem? (i := 329) (by decide +kernel)⟩
theorem lw_p3 : lw_okq (⟨"KnotBand$Band", "isHome", "(Z)Z"⟩, 8) := ⟨⟨by decide +kernel, by decide +kernel⟩, List.mem_of_getElem? (i := 63) (by decide +kernel), List.mem_of_getElem? (i := 369) (by decide +kernel), List.mem_of_getElem? (i := 370) (by decide +kernel)⟩
theorem lw_p4 : lw_okq (⟨"KnotBand", "pictureAt", "(I)LKnotBand$Picture;"⟩, 5) := ⟨⟨by decide +kernel, by decide +kernel⟩, List.mem_of_getElem? (i := 14) (by decide +kernel), List.mem_of_getElem? (i := 388) (by decide +kernel), List.mem_of_getElem? (i := 389) (by decide +kernel)⟩
theorem lw_p5 : lw_okq (⟨"KnotBand", "workedOutAt", "(I)LKnotBand$Picture;"⟩, 5) := ⟨⟨by decide +kernel, by decide +kernel⟩, List.mem_of_getElem? (i := 14) (by decide +kernel), List.mem_of_getElem? (i := 413) (by decide +kernel), List.mem_of_getElem? (i := 414) (by decide +kernel)⟩
theorem lw_p6 : lw_okq (⟨"KnotBand$Loom", "listKnots", "(LKnotBand$Picture;)V"⟩, 6) := ⟨⟨by decide +kernel, by decide +kernel⟩, List.mem_of_getElem? (i := 26) (by decide +kernel), List.mem_of_getElem? (i := 421) (by decide +kernel), List.mem_of_getElem? (i := 422) (by decide +kernel)⟩
theorem lw_p7 : lw_okq (⟨"KnotBand$Loom", "workBackward", "()V"⟩, 6) := ⟨⟨by decide +kernel, by decide +kernel⟩, List.mem_of_getElem? (i := 26) (by decide +kernel), List.mem_of_getElem? (i := 428) (by decide +kernel), List.mem_of_getElem? (i := 429) (by decide +kernel)⟩
theorem lw_p8 : lw_okq (⟨"KnotBand$Standings", "spreadAcross", "([J)V"⟩, 1) := ⟨⟨by decide +kernel, by decide +kernel⟩, List.mem_of_getElem? (i := 33) (by decide +kernel), List.mem_of_getElem? (i := 441) (by decide +kernel), List.mem_of_getElem? (i := 442) (by decide +kernel)⟩
theorem lw_p9 : lw_okq (⟨"KnotBand$Standings", "spreadInside", "([J[JI)V"⟩, 1) := ⟨⟨by decide +kernel, by decide +kernel⟩, List.mem_of_getElem? (i := 33) (by decide +kernel), List.mem_of_getElem? (i := 448) (by decide +kernel), List.mem_of_getElem? (i := 449) (by decide +kernel)⟩
theorem lw_p10 : lw_okq (⟨"KnotBand$Standings", "spreadBetween", "([JI)V"⟩, 1) := ⟨⟨by decide +kernel, by decide +kernel⟩, List.mem_of_getElem? (i := 33) (by decide +kernel), List.mem_of_getElem? (i := 454) (by decide +kernel), List.mem_of_getElem? (i := 455) (by decide +kernel)⟩
theorem lw_p11 : lw_okq (⟨"KnotBand$Loom", "chooseKinds", "(LKnotBand$Picture;)V"⟩, 6) := ⟨⟨by decide +kernel, by decide +kernel⟩, List.mem_of_getElem? (i := 26) (by decide +kernel), List.mem_of_getElem? (i := 488) (by decide +kernel), List.mem_of_getElem? (i := 489) (by decide +kernel)⟩
theorem lw_p12 : lw_okq (⟨"KnotBand$Loom", "leastKind", "(II)I"⟩, 6) := ⟨⟨by decide +kernel, by decide +kernel⟩, List.mem_of_getElem? (i := 26) (by decide +kernel), List.mem_of_getElem? (i := 492) (by decide +kernel), List.mem_of_getElem? (i := 493) (by decide +kernel)⟩
theorem lw_p13 : lw_okq (⟨"KnotBand$Loom", "standingBehind", "(III)I"⟩, 6) := ⟨⟨by decide +kernel, by decide +kernel⟩, List.mem_of_getElem? (i := 26) (by decide +kernel), List.mem_of_getElem? (i := 503) (by decide +kernel), List.mem_of_getElem? (i := 504) (by decide +kernel)⟩
theorem lw_p14 : lw_okq (⟨"KnotBand$Loom", "findSuspects", "(LKnotBand$Picture;)V"⟩, 6) := ⟨⟨by decide +kernel, by decide +kernel⟩, List.mem_of_getElem? (i := 26) (by decide +kernel), List.mem_of_getElem? (i := 514) (by decide +kernel), List.mem_of_getElem? (i := 515) (by decide +kernel)⟩
theorem lw_p15 : lw_okq (⟨"KnotBandModel", "isBand", "(I)Z"⟩, 15) := ⟨⟨by decide +kernel, by decide +kernel⟩, List.mem_of_getElem? (i := 552) (by decide +kernel), List.mem_of_getElem? (i := 618) (by decide +kernel), List.mem_of_getElem? (i := 619) (by decide +kernel)⟩
def lw_privs_1 : List (MethodName × Nat) := [(⟨"KnotBand", "bandAt", "(I)LKnotBand$Band;"⟩, 5), (⟨"java/lang/Throwable", "fillInStackTrace", "(I)Ljava/lang/Throwable;"⟩, 6), (⟨"KnotBand$Band", "walkKnot", "(II)V"⟩, 8), (⟨"KnotBand$Band", "isHome", "(Z)Z"⟩, 8), (⟨"KnotBand", "pictureAt", "(I)LKnotBand$Picture;"⟩, 5), (⟨"KnotBand", "workedOutAt", "(I)LKnotBand$Picture;"⟩, 5), (⟨"KnotBand$Loom", "listKnots", "(LKnotBand$Picture;)V"⟩, 6), (⟨"KnotBand$Loom", "workBackward", "()V"⟩, 6), (⟨"KnotBand$Standings", "spreadAcross", "([J)V"⟩, 1), (⟨"KnotBand$Standings", "spreadInside", "([J[JI)V"⟩, 1), (⟨"KnotBand$Standings", "spreadBetween", "([JI)V"⟩, 1), (⟨"KnotBand$Loom", "chooseKinds", "(LKnotBand$Picture;)V"⟩, 6), (⟨"KnotBand$Loom", "leastKind", "(II)I"⟩, 6), (⟨"KnotBand$Loom", "standingBehind", "(III)I"⟩, 6), (⟨"KnotBand$Loom", "findSuspects", "(LKnotBand$Picture;)V"⟩, 6), (⟨"KnotBandModel", "isBand", "(I)Z"⟩, 15)]
theorem lw_r1 : ∀ q ∈ lw_privs_1, lw_okq q := List.forall_mem_cons.mpr ⟨lw_p0, List.forall_mem_cons.mpr ⟨lw_p1, List.forall_mem_cons.mpr ⟨lw_p2, List.forall_mem_cons.mpr ⟨lw_p3, List.forall_mem_cons.mpr ⟨lw_p4, List.forall_mem_cons.mpr ⟨lw_p5, List.forall_mem_cons.mpr ⟨lw_p6, List.forall_mem_cons.mpr ⟨lw_p7, List.forall_mem_cons.mpr ⟨lw_p8, List.forall_mem_cons.mpr ⟨lw_p9, List.forall_mem_cons.mpr ⟨lw_p10, List.forall_mem_cons.mpr ⟨lw_p11, List.forall_mem_cons.mpr ⟨lw_p12, List.forall_mem_cons.mpr ⟨lw_p13, List.forall_mem_cons.mpr ⟨lw_p14, List.forall_mem_cons.mpr ⟨lw_p15, fun _ h => absurd h List.not_mem_nil⟩⟩⟩⟩⟩⟩⟩⟩⟩⟩⟩⟩⟩⟩⟩⟩
theorem lw_p16 : lw_okq (⟨"KnotBandModel", "right", "(ZI)Z"⟩, 15) := ⟨⟨by decide +kernel, by decide +kernel⟩, List.mem_of_getElem? (i := 552) (by decide +kernel), List.mem_of_getElem? (i := 622) (by decide +kernel), List.mem_of_getElem? (i := 623) (by decide +kernel)⟩
theorem lw_p17 : lw_okq (⟨"KnotBandModel", "isKnot", "(III)Z"⟩, 15) := ⟨⟨by decide +kernel, by decide +kernel⟩, List.mem_of_getElem? (i := 552) (by decide +kernel), List.mem_of_getElem? (i := 634) (by decide +kernel), List.mem_of_getElem? (i := 635) (by decide +kernel)⟩
theorem lw_p18 : lw_okq (⟨"KnotBandModel", "showsOf", "(III)I"⟩, 15) := ⟨⟨by decide +kernel, by decide +kernel⟩, List.mem_of_getElem? (i := 552) (by decide +kernel), List.mem_of_getElem? (i := 645) (by decide +kernel), List.mem_of_getElem? (i := 646) (by decide +kernel)⟩
theorem lw_p19 : lw_okq (⟨"KnotBandModel", "stands", "(II)V"⟩, 15) := ⟨⟨by decide +kernel, by decide +kernel⟩, List.mem_of_getElem? (i := 552) (by decide +kernel), List.mem_of_getElem? (i := 649) (by decide +kernel), List.mem_of_getElem? (i := 650) (by decide +kernel)⟩
theorem lw_p20 : lw_okq (⟨"KnotBandModel", "of", "(IIIZ)I"⟩, 15) := ⟨⟨by decide +kernel, by decide +kernel⟩, List.mem_of_getElem? (i := 552) (by decide +kernel), List.mem_of_getElem? (i := 656) (by decide +kernel), List.mem_of_getElem? (i := 657) (by decide +kernel)⟩
theorem lw_p21 : lw_okq (⟨"KnotBandModel", "isPicture", "(I)Z"⟩, 15) := ⟨⟨by decide +kernel, by decide +kernel⟩, List.mem_of_getElem? (i := 552) (by decide +kernel), List.mem_of_getElem? (i := 684) (by decide +kernel), List.mem_of_getElem? (i := 685) (by decide +kernel)⟩
theorem lw_p22 : lw_okq (⟨"KnotBandModel", "leadsBack", "(I)V"⟩, 15) := ⟨⟨by decide +kernel, by decide +kernel⟩, List.mem_of_getElem? (i := 552) (by decide +kernel), List.mem_of_getElem? (i := 700) (by decide +kernel), List.mem_of_getElem? (i := 701) (by decide +kernel)⟩
theorem lw_p23 : lw_okq (⟨"KnotBandModel", "states", "(I)I"⟩, 15) := ⟨⟨by decide +kernel, by decide +kernel⟩, List.mem_of_getElem? (i := 552) (by decide +kernel), List.mem_of_getElem? (i := 704) (by decide +kernel), List.mem_of_getElem? (i := 705) (by decide +kernel)⟩
theorem lw_p24 : lw_okq (⟨"KnotBandModel", "fits", "(III)Z"⟩, 15) := ⟨⟨by decide +kernel, by decide +kernel⟩, List.mem_of_getElem? (i := 552) (by decide +kernel), List.mem_of_getElem? (i := 708) (by decide +kernel), List.mem_of_getElem? (i := 709) (by decide +kernel)⟩
theorem lw_p25 : lw_okq (⟨"KnotBandModel", "isStart", "(II)Z"⟩, 15) := ⟨⟨by decide +kernel, by decide +kernel⟩, List.mem_of_getElem? (i := 552) (by decide +kernel), List.mem_of_getElem? (i := 721) (by decide +kernel), List.mem_of_getElem? (i := 722) (by decide +kernel)⟩
theorem lw_p26 : lw_okq (⟨"KnotBandModel", "first", "(I)I"⟩, 15) := ⟨⟨by decide +kernel, by decide +kernel⟩, List.mem_of_getElem? (i := 552) (by decide +kernel), List.mem_of_getElem? (i := 729) (by decide +kernel), List.mem_of_getElem? (i := 730) (by decide +kernel)⟩
theorem lw_p27 : lw_okq (⟨"KnotBandModel", "isKind", "(IIIIII)Z"⟩, 15) := ⟨⟨by decide +kernel, by decide +kernel⟩, List.mem_of_getElem? (i := 552) (by decide +kernel), List.mem_of_getElem? (i := 737) (by decide +kernel), List.mem_of_getElem? (i := 738) (by decide +kernel)⟩
theorem lw_p28 : lw_okq (⟨"KnotBandModel", "isOpen", "(IIIII)Z"⟩, 15) := ⟨⟨by decide +kernel, by decide +kernel⟩, List.mem_of_getElem? (i := 552) (by decide +kernel), List.mem_of_getElem? (i := 741) (by decide +kernel), List.mem_of_getElem? (i := 742) (by decide +kernel)⟩
def lw_privs_2 : List (MethodName × Nat) := [(⟨"KnotBandModel", "right", "(ZI)Z"⟩, 15), (⟨"KnotBandModel", "isKnot", "(III)Z"⟩, 15), (⟨"KnotBandModel", "showsOf", "(III)I"⟩, 15), (⟨"KnotBandModel", "stands", "(II)V"⟩, 15), (⟨"KnotBandModel", "of", "(IIIZ)I"⟩, 15), (⟨"KnotBandModel", "isPicture", "(I)Z"⟩, 15), (⟨"KnotBandModel", "leadsBack", "(I)V"⟩, 15), (⟨"KnotBandModel", "states", "(I)I"⟩, 15), (⟨"KnotBandModel", "fits", "(III)Z"⟩, 15), (⟨"KnotBandModel", "isStart", "(II)Z"⟩, 15), (⟨"KnotBandModel", "first", "(I)I"⟩, 15), (⟨"KnotBandModel", "isKind", "(IIIIII)Z"⟩, 15), (⟨"KnotBandModel", "isOpen", "(IIIII)Z"⟩, 15)]
theorem lw_r2 : ∀ q ∈ lw_privs_2, lw_okq q := List.forall_mem_cons.mpr ⟨lw_p16, List.forall_mem_cons.mpr ⟨lw_p17, List.forall_mem_cons.mpr ⟨lw_p18, List.forall_mem_cons.mpr ⟨lw_p19, List.forall_mem_cons.mpr ⟨lw_p20, List.forall_mem_cons.mpr ⟨lw_p21, List.forall_mem_cons.mpr ⟨lw_p22, List.forall_mem_cons.mpr ⟨lw_p23, List.forall_mem_cons.mpr ⟨lw_p24, List.forall_mem_cons.mpr ⟨lw_p25, List.forall_mem_cons.mpr ⟨lw_p26, List.forall_mem_cons.mpr ⟨lw_p27, List.forall_mem_cons.mpr ⟨lw_p28, fun _ h => absurd h List.not_mem_nil⟩⟩⟩⟩⟩⟩⟩⟩⟩⟩⟩⟩⟩
def lw_privs : List (MethodName × Nat) := lw_privs_1 ++ (lw_privs_2)
def lw_tbl : List Cond := k2_sels lw_privs ++ tables_1
theorem lw_privs_ok : ∀ q ∈ lw_privs, lw_okq q := by
  show ∀ q ∈ lw_privs_1 ++ (lw_privs_2), lw_okq q
  exact List.forall_mem_append.mpr ⟨lw_r1, lw_r2⟩
end
section
/-! ===== BEGIN words of one list among another's, by their places ===== -/
theorem goodIn_r {big : List Cond} (ws : List Cond) (ps : List Nat) (hp : ws = ps.filterMap (fun i => big[i]?)) (h : ws.all goodWord = true) : GoodIn big ws := by
  intro w hw
  have h1 := List.all_eq_true.mp h w hw
  rw [hp] at hw
  obtain ⟨i, -, hi⟩ := List.mem_filterMap.mp hw
  have hm : w ∈ big := by first | exact List.mem_of_getElem? hi | exact List.getElem?_mem hi
  exact ⟨hm, good_of_word h1⟩
theorem goodIn_app {big a b : List Cond} (ha : GoodIn big a) (hb : GoodIn big b) : GoodIn big (a ++ b) := fun w h => (List.mem_append.mp h).elim (ha w) (hb w)
theorem goodIn_ca {big a b : List Cond} {c : Cond} (ha : GoodIn big (c :: a)) (hb : GoodIn big b) : GoodIn big (c :: (a ++ b)) := fun w h => (List.mem_cons.mp h).elim (fun e => ha w (List.mem_cons.mpr (Or.inl e))) (fun h => (List.mem_append.mp h).elim (fun h => ha w (List.mem_cons.mpr (Or.inr h))) (hb w))
theorem goodIn_sub {big ws : List Cond} (hm : ∀ w ∈ ws, w ∈ big) (h : ws.all goodWord = true) : GoodIn big ws := fun w hw => ⟨hm w hw, good_of_word (List.all_eq_true.mp h w hw)⟩
/-! ===== END ===== -/

/-! ===== BEGIN exceptions that leave a method, and their catching by the caller (launches without stack traces) ===== -/
section VXA
/-! The laws vx_back, vx_callV, vx_callS, vx_callSW, vx_throw0, vx_throwS follow proofs of the library, with one case more: JvmDerived/Free/Laws.lean (Back.of_free), Shelf42/LK1.lean (callV, callS), Shelf/KitTraced.lean (throwNew0V, throwNewS). -/
/-- where a method has thrown q: the class by its name, the cell, what was written, the world -/
def vx_T (XC : String → State → State → Prop) (st : State) (q : Addr) (t : State) (mc ms : Nat) (free : Addr → Prop) : Prop :=
  ∃ (E : String) (ce : Cell) (L : List Loc), XC E st t ∧ t.heap[q]? = some ce ∧ ce.vm = .none ∧ st.vm.findClass E = some ce.cls ∧ st.WarmedH t.vm ∧ st.sameButNew ({ t with vm := st.vm } : State) L mc ms ∧ ∀ z ∈ L, free z.base
def vx_Q (Qc : Array Value → State → Outcome → State → Prop) (XC : String → State → State → Prop) (mc ms : Nat) (free : Addr → Prop) : Array Value → State → Outcome → State → Prop := fun a st o t =>
  (Qc a st o t ∧ ∃ L, FrameEnd st o t L mc ms ∧ ∀ q ∈ L, free q.base) ∨ ∃ q, o = .threw q ∧ vx_T XC st q t mc ms free
/-- a callee that returns or throws -/
def vx_Met (l : Launch) (y : MethodName) (ws : List Cond) (rm : Room) (Pc : Array Value → State → Prop) (Qc : Array Value → State → Outcome → State → Prop) (XC : String → State → State → Prop) (mc ms : Nat) (free : Addr → Prop) : Prop :=
  MetFree l y (headSpec ws rm) Pc (fun _ _ _ _ _ => True) (vx_Q Qc XC mc ms free)
def vx_Post (XC : String → State → State → Prop) (mc ms : Nat) (free : Addr → Prop) : Pt → Array Value → Addr → Pt → Prop := fun A a q B =>
  ∃ (g : JFrame) (mk : MethodId) (t : State) (L : List Loc) (E : String) (ce : Cell), B.U.heap = t.heap ∧ B.U.vm = t.vm ∧ XC E (A.U.calling g mk a) t ∧ t.heap[q]? = some ce ∧ ce.vm = .none ∧ A.U.vm.findClass E = some ce.cls ∧ B.locs = A.locs ++ L ∧ (∀ z ∈ L, free z.base) ∧ B.cells = A.cells + mc ∧ B.slots = A.slots + ms
def vx_Back (l : Launch) (R : Room) (p : Program) (e : Env) (below : List Frame) (s : State) (sargs : Array Value) (y : MethodName) (len W9 : Nat)
    (Pre : Pt → Array Value → Prop) (Post : Pt → Array Value → Option Value → Pt → Prop) (PostX : Pt → Array Value → Addr → Pt → Prop) : Prop :=
  ∀ (m : MethodId) (meth : Method) (c : Code) (A : Pt) (g : JFrame) (ig : Instr) (mk : MethodId) (a : Array Value),
    Stand p l e R s m sargs below meth c A.U A.locs A.cells A.slots → g.method = m → g.locals.size = c.maxLocals → decode c.code g.pc = .ok (ig, len) →
    2 * g.monitorRoom + (g.stack.map fun v => v.category).sum ≤ W9 → A.U.methodNamed? y = some mk → Pre A a →
    (∃ (v : Option Value) (B : Pt), Stand p l e R s m sargs below meth c B.U B.locs B.cells B.slots ∧ Post A a v B ∧
      Steps p.tables e below (doInvoke e (A.U.setTop g) [] mk a).1 (B.U.setTop { g with pc := g.pc + len, stack := v.toList ++ g.stack })) ∨
    (∃ (q : Addr) (B : Pt), Stand p l e R s m sargs below meth c B.U B.locs B.cells B.slots ∧ PostX A a q B ∧
      Steps p.tables e below (doInvoke e (A.U.setTop g) [] mk a).1 ((B.U.setTop g).pushFrame (.throwing q)))
section Payer
variable {l : Launch} {R : Room} {p : Program} {e : Env} {below : List Frame} {s : State} {sargs : Array Value} {y : MethodName} {len W9 : Nat}
theorem vx_back {ws : List Cond} {rm : Room} {Pc : Array Value → State → Prop} {Qc : Array Value → State → Outcome → State → Prop} {XC : String → State → State → Prop} {mc ms : Nat} {free : Addr → Prop} {bytes : ByteArray} {maxL : Nat} {ret : Option FieldType}
    (hM : vx_Met l y ws rm Pc Qc XC mc ms free) (hblind : FrameBlind Pc) (hrc : rm.cells = mc) (hrs : rm.slots = ms)
    (hframes : rm.frames + 1 ≤ R.frames) (hlocals : W9 + (maxL + 11) + rm.locals ≤ R.locals)
    (hws : ∀ w ∈ ws, ∀ a' U, s.WarmedH U.vm → w.before a' U = true) (hcode : Cond.code y bytes maxL ret ∈ ws) (hinit : ∀ a' U, s.WarmedH U.vm → (Cond.initialized y.cls).before a' U = true) :
    vx_Back l R p e below s sargs y len W9 (PreOf R mc ms Pc) (PostOf Qc mc ms free) (vx_Post XC mc ms free) := by
  intro m meth c A g ig mk a X hg hsize hdg hW hn hp
  have h1 : (headSpec ws rm).pre.before a A.U = true := atoms_intro fun w hw => hws w hw _ _ X.warmed
  have h2 : (Cond.code y bytes maxL ret).before a A.U = true := hws _ hcode _ _ X.warmed
  have h3 : (Cond.initialized y.cls).before a A.U = true := hinit _ _ X.warmed
  have h4 : A.cells + (headSpec ws rm).room.cells ≤ R.cells := by rw [show (headSpec ws rm).room.cells = mc from hrc]; exact hp.1
  have h5 : A.slots + (headSpec ws rm).room.slots ≤ R.slots := by rw [show (headSpec ws rm).room.slots = ms from hrs]; exact hp.2.1
  have hPc : Pc a (A.U.calling g mk a) := hblind _ _ _ _ hp.2.2
  obtain ⟨U, Ls, c0, s0⟩ := A
  dsimp only [Pt.U, Pt.locs, Pt.cells, Pt.slots] at h1 h2 h3 h4 h5 X hn hPc ⊢
  obtain ⟨methY, cY, hmY, hcY, -, hlY, -, -, -, -⟩ := Cond.code_spec hn h2
  obtain ⟨kY, hkY, -⟩ := className_of_methodNamed hn
  have hinitY : kY.init = .initialized := Cond.initialized_spec (findClass_of_methodNamed hn) hkY h3
  have h : At U g.method c below := by rw [hg]; exact X.here
  have hlocals9 : W9 + (maxL + 11) + (headSpec ws rm).room.locals ≤ R.locals := hlocals
  have happ : (headSpec ws rm).appliesLoose y e.platform (U.calling g mk a) = true :=
    Spec.appliesLoose_calling (g := g) h hdg hn hkY hinitY
      (X.room_calling (g := g) (R' := (headSpec ws rm).room) hsize hmY hcY hframes (by rw [hlY]; omega) h4 h5) h1
  obtain ⟨mid, hmid⟩ := h.above
  have hfr : (U.setTop g).frames = (.java g :: mid) ++ below := by rw [State.frames_setTop' g h.top, hmid]; rfl
  obtain ⟨o, s₂, hsteps, -, hend, hq⟩ := Steps.callFree hM p X.admits X.cas X.clock (acts := []) hfr happ hPc trivial
  have hq' : vx_Q Qc XC mc ms free a (U.calling g mk a) o s₂ := hq
  rw [State.frames_setTop' g h.top] at hend
  obtain ⟨g₀, hg0⟩ := Option.isSome_iff_exists.mp h.top
  obtain ⟨r, hr⟩ := State.topJava?_eq_some.mp hg0
  have hr' : (({ U with heap := s₂.heap, slotsUsed := s₂.slotsUsed } : State).setVm s₂.vm).frames = .java g₀ :: r := hr
  rcases hq' with ⟨hqc, L, hfe, hL⟩ | ⟨q, rfl, E, ce, L, hx, hce, hcv, hcl, hW₂, hsm, hL⟩
  · obtain ⟨⟨v, rfl⟩, hW₂, e2, q2, q3, q4, q5, q6⟩ := id hfe
    have e3 : s₂ = ({ (U.calling g mk a).setFrames s₂.frames with heap := s₂.heap, slotsUsed := s₂.slotsUsed } : State).setVm s₂.vm := by
      have : s₂ = ({ s₂ with vm := (U.calling g mk a).vm } : State).setVm s₂.vm := rfl
      rw [e2] at this
      exact this
    obtain ⟨c₂, i₂, len₂, hc₂, hd₂, hf₂⟩ := hend
    have hW' : U.WarmedH s₂.vm := hW₂
    have hcc : c₂ = c := by
      have h1 : s₂.code? g.method = U.code? g.method := by
        rw [State.code?_eq, State.code?_eq, hW'.alike.method?]
      exact Option.some.inj (hc₂.symm.trans (h1.trans h.code))
    subst hcc
    have hlen : len₂ = len := by rw [hdg] at hd₂; cases hd₂; rfl
    subst hlen
    have hs₂ : s₂ = (({ U with heap := s₂.heap, slotsUsed := s₂.slotsUsed } : State).setVm s₂.vm).setTop { g with pc := g.pc + len₂, stack := v.toList ++ g.stack } := by
      refine e3.trans ?_
      rw [hf₂, State.calling_eq h.top, State.setFrames_setFrames, State.setTop_of_frames _ hr', hr]
      rfl
    have hsame : U.sameButNew ({ U with heap := s₂.heap, slotsUsed := s₂.slotsUsed } : State) L mc ms := by
      refine ⟨?_, q2, q3, q4, q5, q6⟩
      obtain ⟨t, ht, -⟩ := State.frames_cons hr
      show ({ U with heap := s₂.heap, slotsUsed := s₂.slotsUsed } : State) = { U.setFrames U.frames with heap := s₂.heap, slotsUsed := s₂.slotsUsed }
      rw [State.setFrames_self ht]
    subst hg
    refine Or.inl ⟨v, ⟨(({ U with heap := s₂.heap, slotsUsed := s₂.slotsUsed } : State).setVm s₂.vm), Ls ++ L, c0 + mc, s0 + ms⟩,
      ⟨X.admits, X.cas, X.clock, X.frames, X.room, X.hears, X.method, X.code, (X.here.setHeapUsed s₂.heap s₂.slotsUsed).setVm hW'.alike, X.tail, State.WarmedH.trans X.warmed hW', X.limits, X.bytes, X.same.trans (hsame.setVm s.vm)⟩,
      ⟨g, mk, s₂, L, rfl, rfl, hqc, rfl, hL, rfl, rfl⟩, ?_⟩
    show Steps p.tables e below _ ((({ U with heap := s₂.heap, slotsUsed := s₂.slotsUsed } : State).setVm s₂.vm).setTop { g with pc := g.pc + len₂, stack := v.toList ++ g.stack })
    rw [← hs₂]
    exact hsteps
  · obtain ⟨e2, q2, q3, q4, q5, q6⟩ := id hsm
    have e3 : s₂ = ({ (U.calling g mk a).setFrames s₂.frames with heap := s₂.heap, slotsUsed := s₂.slotsUsed } : State).setVm s₂.vm := by
      have : s₂ = ({ s₂ with vm := (U.calling g mk a).vm } : State).setVm s₂.vm := rfl
      rw [e2] at this
      exact this
    have hf₂ : s₂.frames = .throwing q :: .java g :: U.frames.tail := hend
    have hW' : U.WarmedH s₂.vm := hW₂
    have hs₂ : s₂ = ((({ U with heap := s₂.heap, slotsUsed := s₂.slotsUsed } : State).setVm s₂.vm).setTop g).pushFrame (.throwing q) := by
      refine e3.trans ?_
      rw [hf₂, State.calling_eq h.top, State.setFrames_setFrames, State.pushFrame, State.frames_setTop _ hr', State.setTop_of_frames _ hr', State.setFrames_setFrames, hr]
      rfl
    have hsame : U.sameButNew ({ U with heap := s₂.heap, slotsUsed := s₂.slotsUsed } : State) L mc ms := by
      refine ⟨?_, q2, q3, q4, q5, q6⟩
      obtain ⟨t, ht, -⟩ := State.frames_cons hr
      show ({ U with heap := s₂.heap, slotsUsed := s₂.slotsUsed } : State) = { U.setFrames U.frames with heap := s₂.heap, slotsUsed := s₂.slotsUsed }
      rw [State.setFrames_self ht]
    subst hg
    refine Or.inr ⟨q, ⟨(({ U with heap := s₂.heap, slotsUsed := s₂.slotsUsed } : State).setVm s₂.vm), Ls ++ L, c0 + mc, s0 + ms⟩,
      ⟨X.admits, X.cas, X.clock, X.frames, X.room, X.hears, X.method, X.code, (X.here.setHeapUsed s₂.heap s₂.slotsUsed).setVm hW'.alike, X.tail, State.WarmedH.trans X.warmed hW', X.limits, X.bytes, X.same.trans (hsame.setVm s.vm)⟩,
      ⟨g, mk, s₂, L, E, ce, rfl, rfl, hx, hce, hcv, hcl, rfl, hL, rfl, rfl⟩, ?_⟩
    show Steps p.tables e below _ (((({ U with heap := s₂.heap, slotsUsed := s₂.slotsUsed } : State).setVm s₂.vm).setTop g).pushFrame (.throwing q))
    rw [← hs₂]
    exact hsteps
end Payer
section Calls
variable {p : Program} {l : Launch} {e : Env} {R : Room} {s : State} {m : MethodId} {args : Array Value} {below : List Frame} {meth : Method} {c : Code} {T : State} {locs : List Loc} {cells slots : Nat}
theorem vx_callV (X : Stand p l e R s m args below meth c T locs cells slots) (hexec : p.tables.exec = Jvm.exec) {own C : String} {index : Nat} {y : MethodName} {bytes : ByteArray} {maxL : Nat} {ret : Option FieldType}
    (hown : s.vm.findClass own = some m.cls) (hlink : (Cond.methodLink own index y).before args s = true) (hinst : (Cond.instanceMethod y).before args s = true) (hsel : (Cond.selects C y y).before args s = true)
    (hcode : (Cond.code y bytes maxL ret).before args s = true) (hy : y.cls ≠ "java/lang/invoke/MethodHandle" ∧ y.cls ≠ "java/lang/invoke/VarHandle")
    {W9 : Nat} {Pre : Pt → Array Value → Prop} {Post : Pt → Array Value → Option Value → Pt → Prop} {PostX : Pt → Array Value → Addr → Pt → Prop} (hK : vx_Back l R p e below s args y 3 W9 Pre Post PostX)
    {b : Addr} {cellB : Cell} (hcell : T.heap[b]? = some cellB) (hobj : cellB.vm.isStatics = false) (hcls : s.vm.findClass C = some cellB.cls)
    {g : JFrame} (hg : g.method = m) (hsize : g.locals.size = c.maxLocals) {argsL rest : List Value} (hlen : ∀ sig, parseMethodDescriptor y.desc = some sig → argsL.length = sig.parameters.length)
    (hstack : g.stack = argsL.reverse ++ .ref b :: rest) (hW : 2 * g.monitorRoom + (rest.map fun v => v.category).sum ≤ W9) (hdg : decode c.code g.pc = .ok (.invokevirtual index, 3))
    (hpre : ∀ vm₁, s.WarmedH vm₁ → Pre ⟨T.setVm vm₁, locs, cells, slots⟩ (Value.ref b :: argsL).toArray) :
    (∃ (v : Option Value) (vm₁ : Vm) (B : Pt), s.WarmedH vm₁ ∧ Stand p l e R s m args below meth c B.U B.locs B.cells B.slots ∧ Post ⟨T.setVm vm₁, locs, cells, slots⟩ (Value.ref b :: argsL).toArray v B ∧
      ∀ target, Steps p.tables e below (B.U.setTop { g with pc := g.pc + 3, stack := v.toList ++ rest }) target → Steps p.tables e below (T.setTop g) target) ∨
    (∃ (q : Addr) (vm₁ : Vm) (B : Pt), s.WarmedH vm₁ ∧ Stand p l e R s m args below meth c B.U B.locs B.cells B.slots ∧ PostX ⟨T.setVm vm₁, locs, cells, slots⟩ (Value.ref b :: argsL).toArray q B ∧
      Steps p.tables e below (T.setTop g) ((B.U.setTop { g with stack := rest }).pushFrame (.throwing q))) := by
  obtain ⟨mk, methM, hnamed, hmethM, hstM, habM⟩ := Cond.instanceMethod_spec hinst
  obtain ⟨methM', cM, hmethM', -, -, -, -, -, -, hsigM⟩ := Cond.code_spec hnamed hcode
  cases hmethM.symm.trans hmethM'
  obtain ⟨c2, r2, m2, q1, q2, q3, q4, kP, hkP, hkPi⟩ := Cond.selects_spec hsel
  cases hcls.symm.trans q1
  cases (State.methodFound?_of_named hnamed hy).symm.trans q2
  cases hnamed.symm.trans q3
  have hselP : selectMethod e.platform s.vm cellB.cls mk = .method mk := by rw [Launch.admits_selectMethod X.admits]; exact q4
  obtain ⟨vm₁, X₁, hstep₁⟩ := X.invokevirtual hexec hown hlink hnamed hmethM hstM hkP hkPi hy (a := b) (cell := cellB) hcell
    (fun z h => by rw [h] at hobj; cases hobj) hselP hmethM habM hkP hkPi (g := g) hg (argsL := argsL) (rest := rest) (hlen _ hsigM) hstack hdg
  rcases hK m meth c ⟨T.setVm vm₁, locs, cells, slots⟩ { g with stack := rest } (.invokevirtual index) mk (Value.ref b :: argsL).toArray X₁ hg hsize hdg hW (X₁.named hnamed) (hpre vm₁ X₁.warmed) with ⟨v, B, X', hpost, hsteps⟩ | ⟨q, B, X', hpost, hsteps⟩
  · exact Or.inl ⟨v, vm₁, B, X₁.warmed, X', hpost, fun target h => hstep₁ _ fun acts => by rw [doInvoke_state]; exact hsteps.trans h⟩
  · exact Or.inr ⟨q, vm₁, B, X₁.warmed, X', hpost, hstep₁ _ fun acts => by rw [doInvoke_state]; exact hsteps⟩
theorem vx_callS (X : Stand p l e R s m args below meth c T locs cells slots) (hexec : p.tables.exec = Jvm.exec) {own : String} {index : Nat} {y : MethodName} {bytes : ByteArray} {maxL : Nat} {ret : Option FieldType}
    (hown : s.vm.findClass own = some m.cls) (hlink : (Cond.methodLink own index y).before args s = true) (hstat : (Cond.static y).before args s = true) (hinit : (Cond.initialized y.cls).before args s = true)
    (hcode : (Cond.code y bytes maxL ret).before args s = true) (hy : y.cls ≠ "java/lang/invoke/MethodHandle" ∧ y.cls ≠ "java/lang/invoke/VarHandle")
    {W9 : Nat} {Pre : Pt → Array Value → Prop} {Post : Pt → Array Value → Option Value → Pt → Prop} {PostX : Pt → Array Value → Addr → Pt → Prop} (hK : vx_Back l R p e below s args y 3 W9 Pre Post PostX)
    {g : JFrame} (hg : g.method = m) (hsize : g.locals.size = c.maxLocals) {argsL rest : List Value} (hlen : ∀ sig, parseMethodDescriptor y.desc = some sig → argsL.length = sig.parameters.length)
    (hstack : g.stack = argsL.reverse ++ rest) (hW : 2 * g.monitorRoom + (rest.map fun v => v.category).sum ≤ W9) (hdg : decode c.code g.pc = .ok (.invokestatic index, 3))
    (hpre : ∀ vm₁, s.WarmedH vm₁ → Pre ⟨T.setVm vm₁, locs, cells, slots⟩ argsL.toArray) :
    (∃ (v : Option Value) (vm₁ : Vm) (B : Pt), s.WarmedH vm₁ ∧ Stand p l e R s m args below meth c B.U B.locs B.cells B.slots ∧ Post ⟨T.setVm vm₁, locs, cells, slots⟩ argsL.toArray v B ∧
      ∀ target, Steps p.tables e below (B.U.setTop { g with pc := g.pc + 3, stack := v.toList ++ rest }) target → Steps p.tables e below (T.setTop g) target) ∨
    (∃ (q : Addr) (vm₁ : Vm) (B : Pt), s.WarmedH vm₁ ∧ Stand p l e R s m args below meth c B.U B.locs B.cells B.slots ∧ PostX ⟨T.setVm vm₁, locs, cells, slots⟩ argsL.toArray q B ∧
      Steps p.tables e below (T.setTop g) ((B.U.setTop { g with stack := rest }).pushFrame (.throwing q))) := by
  obtain ⟨mk, hnamed⟩ := Cond.code_named hcode
  obtain ⟨methM, cM, hmethM, -, -, -, -, -, -, hsigM⟩ := Cond.code_spec hnamed hcode
  have hstatic : methM.isStatic = true := Cond.static_spec hnamed hmethM hstat
  obtain ⟨kP, hkP, -⟩ := className_of_methodNamed hnamed
  have hinitP : kP.init = .initialized := Cond.initialized_spec (findClass_of_methodNamed hnamed) hkP hinit
  obtain ⟨vm₁, X₁, hstep₁⟩ := X.invokestatic hexec hown hlink hnamed hmethM hstatic hkP hinitP hy (g := g) hg (argsL := argsL) (rest := rest) (hlen _ hsigM) hstack hdg
  rcases hK m meth c ⟨T.setVm vm₁, locs, cells, slots⟩ { g with stack := rest } (.invokestatic index) mk argsL.toArray X₁ hg hsize hdg hW (X₁.named hnamed) (hpre vm₁ X₁.warmed) with ⟨v, B, X', hpost, hsteps⟩ | ⟨q, B, X', hpost, hsteps⟩
  · exact Or.inl ⟨v, vm₁, B, X₁.warmed, X', hpost, fun target h => hstep₁ _ fun acts => by rw [doInvoke_state]; exact hsteps.trans h⟩
  · exact Or.inr ⟨q, vm₁, B, X₁.warmed, X', hpost, hstep₁ _ fun acts => by rw [doInvoke_state]; exact hsteps⟩
end Calls
theorem vx_cls {s : State} {T : State} {vm₁ : Vm} {E : String} {k : ClassId} (hW : s.WarmedH vm₁) (h : (T.setVm vm₁).vm.findClass E = some k) : s.vm.findClass E = some k := by
  have h1 : vm₁.findClass E = some k := h
  rw [hW.alike.findClass] at h1
  exact h1
/-- the method's frame g, with q thrown over it -/
def vx_W (p : Program) (l : Launch) (e : Env) (R : Room) (s : State) (m : MethodId) (args : Array Value) (below : List Frame) (meth : Method) (c : Code) (H : Heap) (locs : List Loc) (cells slots : Nat) (Q : State → Prop) (g : JFrame) (q : Addr) : Prop :=
  ∀ T : State, T.heap = H → Stand p l e R s m args below meth c T locs cells slots → ∃ t, Steps p.tables e below ((T.setTop g).pushFrame (.throwing q)) t ∧ Q t
def vx_Run (p : Program) (l : Launch) (e : Env) (R : Room) (s : State) (m : MethodId) (args : Array Value) (below : List Frame) (meth : Method) (c : Code) (H : Heap) (locs : List Loc) (cells slots mc ms : Nat) (g : JFrame) (rest : List Value) (Qa : State → Outcome → State → Prop) (XC : String → State → State → Prop) (free : Addr → Prop) : Prop :=
  ∀ T : State, T.heap = H → Stand p l e R s m args below meth c T locs cells slots →
    (∃ (v : Option Value) (st₀ t T' : State) (L : List Loc), st₀.heap = H ∧ Stand p l e R s m args below meth c T' (locs ++ L) (cells + mc) (slots + ms) ∧ (∀ q ∈ L, free q.base) ∧ T'.heap = t.heap ∧ T'.vm = t.vm ∧ Qa st₀ (.returned v) t ∧
      Goes p e below T g T' { g with pc := g.pc + 3, stack := v.toList ++ rest }) ∨
    (∃ (q : Addr) (st₀ t T' : State) (L : List Loc) (E : String) (ce : Cell), st₀.heap = H ∧ Stand p l e R s m args below meth c T' (locs ++ L) (cells + mc) (slots + ms) ∧ (∀ z ∈ L, free z.base) ∧ T'.heap = t.heap ∧ T'.vm = t.vm ∧ XC E st₀ t ∧ t.heap[q]? = some ce ∧ ce.vm = .none ∧ s.vm.findClass E = some ce.cls ∧
      Steps p.tables e below (T.setTop g) ((T'.setTop { g with stack := rest }).pushFrame (.throwing q)))
def vx_X {S : Type} (px : S → Prop) (B : String → S → State → Prop) (A : Nat → Prop) : String → State → State → Prop := fun E st t => ∃ u : S, px u ∧ B E u t ∧ va_F A st t
section Runs
variable {p : Program} {l : Launch} {e : Env} {R : Room} {s : State} {m : MethodId} {args : Array Value} {below : List Frame} {meth : Method} {c : Code} {H : Heap} {locs : List Loc} {cells slots : Nat}
variable {y : MethodName} {bytes cc : ByteArray} {maxL nL mc ms n index : Nat} {ret : Option FieldType} {ws : List Cond} {rm : Room} {Pc : Array Value → State → Prop} {Qc : Array Value → State → Outcome → State → Prop} {XC : String → State → State → Prop} {free : Addr → Prop} {Ts : List Cond} {own C : String} {b : Addr} {As rest : List Value} {g : JFrame}
theorem vx_callBack (cb : CallB R s args own index y bytes maxL ret ws rm mc ms n) (hM : vx_Met l y ws rm Pc Qc XC mc ms free) (hbl : FrameBlind Pc) : vx_Back l R p e below s args y 3 8 (PreOf R mc ms Pc) (PostOf Qc mc ms free) (vx_Post XC mc ms free) := by
  obtain ⟨hrc, hrs, hfr, hlo, hws, hcw, -, hini, -⟩ := cb
  exact vx_back (bytes := bytes) (maxL := maxL) (ret := ret) hM hbl hrc hrs hfr hlo hws hcw (fun a' U hW => word_at hW (Or.inl (by first | rfl | simp [Cond.onTables, Cond.keeps, Cond.steady])) hini)
theorem vx_runV (S : CallFix p m c cc nL s args Ts own) (hM : vx_Met l y ws rm Pc Qc XC mc ms free) (cw : CallW R s args own C index y bytes maxL ret ws rm mc ms n) (hp : PreV s H C b Pc As)
    (hg : g.method = m) (hn : As.length = n) (hsize : g.locals.size = nL) (hstack : g.stack = As.reverse ++ .ref b :: rest) (hW : 2 * g.monitorRoom + (rest.map fun v => v.category).sum ≤ 8) (hdg : decode cc g.pc = .ok (.invokevirtual index, 3)) (hf : cells + mc ≤ R.cells ∧ slots + ms ≤ R.slots) :
    vx_Run p l e R s m args below meth c H locs cells slots mc ms g rest (Qc (Value.ref b :: As).toArray) XC free := by
  have hK : vx_Back l R p e below s args y 3 8 (PreOf R mc ms Pc) (PostOf Qc mc ms free) (vx_Post XC mc ms free) := vx_callBack cw.1 hM hp.1
  obtain ⟨⟨-, -, -, -, -, -, hcode, -, hy, hlen, hl⟩, hin, hse⟩ := cw
  obtain ⟨hx, hb, hml, ho, -⟩ := S
  obtain ⟨-, ⟨cellB, hcB, hoB, hclB⟩, hPc⟩ := hp
  intro T hT X
  rcases vx_callV X hx (C := C) (bytes := bytes) (maxL := maxL) (ret := ret) ho hl hin hse hcode hy hK (by rw [hT]; exact hcB) hoB hclB hg (hsize.trans hml.symm) (argsL := As) (rest := rest) (fun sig h => hn.trans (hlen sig h)) hstack hW (by rw [hb]; exact hdg)
    (fun vm₁ hW₁ => ⟨hf.1, hf.2, hPc (T.setVm vm₁) hT hW₁⟩) with ⟨v, vm₁, ⟨U', l2, c2, s2⟩, hW₁, X', ⟨g', mk, t, L, e1, e2, hq, h1, hL, h2, h3⟩, st⟩ | ⟨q, vm₁, ⟨U', l2, c2, s2⟩, hW₁, X', ⟨g', mk, t, L, E, ce, e1, e2, hq, hce, hcv, hcl, h1, hL, h2, h3⟩, st⟩
  · dsimp only [Pt.U, Pt.locs, Pt.cells, Pt.slots] at X' e1 e2 h1 h2 h3 st
    subst h1; subst h2; subst h3
    exact Or.inl ⟨v, (T.setVm vm₁).calling g' mk (Value.ref b :: As).toArray, t, U', L, hT, X', hL, e1, e2, hq, st⟩
  · dsimp only [Pt.U, Pt.locs, Pt.cells, Pt.slots] at X' e1 e2 h1 h2 h3 st hcl
    subst h1; subst h2; subst h3
    exact Or.inr ⟨q, (T.setVm vm₁).calling g' mk (Value.ref b :: As).toArray, t, U', L, E, ce, hT, X', hL, e1, e2, hq, hce, hcv, vx_cls hW₁ hcl, st⟩
theorem vx_runS (S : CallFix p m c cc nL s args Ts own) (hM : vx_Met l y ws rm Pc Qc XC mc ms free) (cw : CallB R s args own index y bytes maxL ret ws rm mc ms n ∧ (Cond.static y).before args s = true) (hp : PreS s H Pc As)
    (hg : g.method = m) (hn : As.length = n) (hsize : g.locals.size = nL) (hstack : g.stack = As.reverse ++ rest) (hW : 2 * g.monitorRoom + (rest.map fun v => v.category).sum ≤ 8) (hdg : decode cc g.pc = .ok (.invokestatic index, 3)) (hf : cells + mc ≤ R.cells ∧ slots + ms ≤ R.slots) :
    vx_Run p l e R s m args below meth c H locs cells slots mc ms g rest (Qc As.toArray) XC free := by
  have hK : vx_Back l R p e below s args y 3 8 (PreOf R mc ms Pc) (PostOf Qc mc ms free) (vx_Post XC mc ms free) := vx_callBack cw.1 hM hp.1
  obtain ⟨⟨-, -, -, -, -, -, hcode, hini, hy, hlen, hl⟩, hstt⟩ := cw
  obtain ⟨hx, hb, hml, ho, -⟩ := S
  intro T hT X
  rcases vx_callS X hx (bytes := bytes) (maxL := maxL) (ret := ret) ho hl hstt hini hcode hy hK hg (hsize.trans hml.symm) (argsL := As) (rest := rest) (fun sig h => hn.trans (hlen sig h)) hstack hW (by rw [hb]; exact hdg)
    (fun vm₁ hW₁ => ⟨hf.1, hf.2, hp.2 (T.setVm vm₁) hT hW₁⟩) with ⟨v, vm₁, ⟨U', l2, c2, s2⟩, hW₁, X', ⟨g', mk, t, L, e1, e2, hq, h1, hL, h2, h3⟩, st⟩ | ⟨q, vm₁, ⟨U', l2, c2, s2⟩, hW₁, X', ⟨g', mk, t, L, E, ce, e1, e2, hq, hce, hcv, hcl, h1, hL, h2, h3⟩, st⟩
  · dsimp only [Pt.U, Pt.locs, Pt.cells, Pt.slots] at X' e1 e2 h1 h2 h3 st
    subst h1; subst h2; subst h3
    exact Or.inl ⟨v, (T.setVm vm₁).calling g' mk As.toArray, t, U', L, hT, X', hL, e1, e2, hq, st⟩
  · dsimp only [Pt.U, Pt.locs, Pt.cells, Pt.slots] at X' e1 e2 h1 h2 h3 st hcl
    subst h1; subst h2; subst h3
    exact Or.inr ⟨q, (T.setVm vm₁).calling g' mk As.toArray, t, U', L, E, ce, hT, X', hL, e1, e2, hq, hce, hcv, vx_cls hW₁ hcl, st⟩
end Runs
section Rows
variable {p : Program} {l : Launch} {e : Env} {R : Room} {s : State} {m : MethodId} {args : Array Value} {below : List Frame} {meth : Method} {c : Code} {H : Heap} {locs : List Loc} {cells slots : Nat} {Q : State → Prop}
variable {mc ms : Nat} {free : Addr → Prop} {A0 A1 : Nat → Prop} {H0 : Heap} {a : Array Value} {pc : Nat} {ls : Array Slot} {st0 rest : List Value}
theorem vx_keep {st₀ t T' : State} {L : List Loc} (h0 : st₀.heap = H) (e1 : T'.heap = t.heap) (hS : va_S A0 H0 H locs) (hA : ∀ q, q < H.size → A1 q → A0 q) (hf : ∀ q, free q → A0 q) (hL : ∀ q ∈ L, free q.base) (hF : va_F A1 st₀ t) :
    H.size ≤ T'.heap.size ∧ (∀ q : Nat, q < H.size → ¬ A1 q → T'.heap[q]? = H[q]?) ∧ va_S A0 H0 T'.heap (locs ++ L) := by
  obtain ⟨hz, hk⟩ := hF
  rw [h0] at hz hk
  exact ⟨by rw [e1]; exact hz, fun q h1 h2 => by rw [e1]; exact hk q h1 h2,
    ⟨Nat.le_trans hS.1 (by rw [e1]; exact hz), fun q h1 h2 => by rw [e1, hk q (Nat.lt_of_lt_of_le h1 hS.1) (fun z => h2 (hA q (Nat.lt_of_lt_of_le h1 hS.1) z))]; exact hS.2.1 q h1 h2, fun q hq => by
      rcases List.mem_append.mp hq with h | h
      · exact hS.2.2 q h
      · exact hf _ (hL q h)⟩⟩
theorem vx_calli {S SX : Type} {post : Int32 → S → Prop} {px : SX → Prop} {B : S → State → Prop} {BX : String → SX → State → Prop} {AX : Nat → Prop} (hr : vx_Run p l e R s m args below meth c H locs cells slots mc ms (F0 m pc ls st0) rest (va_Qi post B A1 a) (vx_X px BX AX) free) (hS : va_S A0 H0 H locs) (hA : ∀ q, q < H.size → A1 q → A0 q) (hf : ∀ q, free q → A0 q) (hAX : ∀ q, q < H.size → AX q → A0 q)
    (kx : ∀ (E : String) (ce : Cell) (q9 : Addr) (u : SX) (t : State) (H1 : Heap) (locs1 : List Loc), t.heap = H1 → s.vm.Alike t.vm → px u → BX E u t → H.size ≤ H1.size → (∀ q : Nat, q < H.size → ¬ AX q → H1[q]? = H[q]?) → va_S A0 H0 H1 locs1 → H1[q9]? = some ce → ce.vm = .none → s.vm.findClass E = some ce.cls → vx_W p l e R s m args below meth c H1 locs1 (cells + mc) (slots + ms) Q (F0 m pc ls rest) q9)
    (kk : ∀ (r : Int32) (u : S) (t : State) (H1 : Heap) (locs1 : List Loc), t.heap = H1 → s.vm.Alike t.vm → post r u → B u t → H.size ≤ H1.size → (∀ q : Nat, q < H.size → ¬ A1 q → H1[q]? = H[q]?) → va_S A0 H0 H1 locs1 → W p l e R s m args below meth c H1 locs1 (cells + mc) (slots + ms) Q (F0 m (pc + 3) ls (.int r :: rest))) : W p l e R s m args below meth c H locs cells slots Q (F0 m pc ls st0) := by
  intro T hT X
  rcases hr T hT X with ⟨v, st₀, t, T', L, h0, X', hL, e1, e2, ⟨⟨r, u, hv, hp, hb⟩, hF⟩, st⟩ | ⟨q, st₀, t, T', L, E, ce, h0, X', hL, e1, e2, ⟨u, hp, hb, hF⟩, hce, hcv, hcl, st⟩
  · cases hv
    obtain ⟨k1, k2, k3⟩ := vx_keep h0 e1 hS hA hf hL hF
    obtain ⟨t2, a1, b1⟩ := kk r u t T'.heap (locs ++ L) e1.symm (by rw [← e2]; exact X'.warmed.alike) hp hb k1 k2 k3 T' rfl X'
    exact ⟨t2, st t2 a1, b1⟩
  · obtain ⟨k1, k2, k3⟩ := vx_keep h0 e1 hS hAX hf hL hF
    obtain ⟨t2, a1, b1⟩ := kx E ce q u t T'.heap (locs ++ L) e1.symm (by rw [← e2]; exact X'.warmed.alike) hp hb k1 k2 k3 (by rw [e1]; exact hce) hcv hcl T' rfl X'
    exact ⟨t2, st.trans a1, b1⟩
theorem vx_calll {S SX : Type} {post : Int64 → S → Prop} {px : SX → Prop} {B : S → State → Prop} {BX : String → SX → State → Prop} {AX : Nat → Prop} (hr : vx_Run p l e R s m args below meth c H locs cells slots mc ms (F0 m pc ls st0) rest (va_Ql post B A1 a) (vx_X px BX AX) free) (hS : va_S A0 H0 H locs) (hA : ∀ q, q < H.size → A1 q → A0 q) (hf : ∀ q, free q → A0 q) (hAX : ∀ q, q < H.size → AX q → A0 q)
    (kx : ∀ (E : String) (ce : Cell) (q9 : Addr) (u : SX) (t : State) (H1 : Heap) (locs1 : List Loc), t.heap = H1 → s.vm.Alike t.vm → px u → BX E u t → H.size ≤ H1.size → (∀ q : Nat, q < H.size → ¬ AX q → H1[q]? = H[q]?) → va_S A0 H0 H1 locs1 → H1[q9]? = some ce → ce.vm = .none → s.vm.findClass E = some ce.cls → vx_W p l e R s m args below meth c H1 locs1 (cells + mc) (slots + ms) Q (F0 m pc ls rest) q9)
    (kk : ∀ (r : Int64) (u : S) (t : State) (H1 : Heap) (locs1 : List Loc), t.heap = H1 → s.vm.Alike t.vm → post r u → B u t → H.size ≤ H1.size → (∀ q : Nat, q < H.size → ¬ A1 q → H1[q]? = H[q]?) → va_S A0 H0 H1 locs1 → W p l e R s m args below meth c H1 locs1 (cells + mc) (slots + ms) Q (F0 m (pc + 3) ls (.long r :: rest))) : W p l e R s m args below meth c H locs cells slots Q (F0 m pc ls st0) := by
  intro T hT X
  rcases hr T hT X with ⟨v, st₀, t, T', L, h0, X', hL, e1, e2, ⟨⟨r, u, hv, hp, hb⟩, hF⟩, st⟩ | ⟨q, st₀, t, T', L, E, ce, h0, X', hL, e1, e2, ⟨u, hp, hb, hF⟩, hce, hcv, hcl, st⟩
  · cases hv
    obtain ⟨k1, k2, k3⟩ := vx_keep h0 e1 hS hA hf hL hF
    obtain ⟨t2, a1, b1⟩ := kk r u t T'.heap (locs ++ L) e1.symm (by rw [← e2]; exact X'.warmed.alike) hp hb k1 k2 k3 T' rfl X'
    exact ⟨t2, st t2 a1, b1⟩
  · obtain ⟨k1, k2, k3⟩ := vx_keep h0 e1 hS hAX hf hL hF
    obtain ⟨t2, a1, b1⟩ := kx E ce q u t T'.heap (locs ++ L) e1.symm (by rw [← e2]; exact X'.warmed.alike) hp hb k1 k2 k3 (by rw [e1]; exact hce) hcv hcl T' rfl X'
    exact ⟨t2, st.trans a1, b1⟩
theorem vx_callf {S SX : Type} {post : UInt32 → S → Prop} {px : SX → Prop} {B : S → State → Prop} {BX : String → SX → State → Prop} {AX : Nat → Prop} (hr : vx_Run p l e R s m args below meth c H locs cells slots mc ms (F0 m pc ls st0) rest (va_Qf post B A1 a) (vx_X px BX AX) free) (hS : va_S A0 H0 H locs) (hA : ∀ q, q < H.size → A1 q → A0 q) (hf : ∀ q, free q → A0 q) (hAX : ∀ q, q < H.size → AX q → A0 q)
    (kx : ∀ (E : String) (ce : Cell) (q9 : Addr) (u : SX) (t : State) (H1 : Heap) (locs1 : List Loc), t.heap = H1 → s.vm.Alike t.vm → px u → BX E u t → H.size ≤ H1.size → (∀ q : Nat, q < H.size → ¬ AX q → H1[q]? = H[q]?) → va_S A0 H0 H1 locs1 → H1[q9]? = some ce → ce.vm = .none → s.vm.findClass E = some ce.cls → vx_W p l e R s m args below meth c H1 locs1 (cells + mc) (slots + ms) Q (F0 m pc ls rest) q9)
    (kk : ∀ (r : UInt32) (u : S) (t : State) (H1 : Heap) (locs1 : List Loc), t.heap = H1 → s.vm.Alike t.vm → post r u → B u t → H.size ≤ H1.size → (∀ q : Nat, q < H.size → ¬ A1 q → H1[q]? = H[q]?) → va_S A0 H0 H1 locs1 → W p l e R s m args below meth c H1 locs1 (cells + mc) (slots + ms) Q (F0 m (pc + 3) ls (.float r :: rest))) : W p l e R s m args below meth c H locs cells slots Q (F0 m pc ls st0) := by
  intro T hT X
  rcases hr T hT X with ⟨v, st₀, t, T', L, h0, X', hL, e1, e2, ⟨⟨r, u, hv, hp, hb⟩, hF⟩, st⟩ | ⟨q, st₀, t, T', L, E, ce, h0, X', hL, e1, e2, ⟨u, hp, hb, hF⟩, hce, hcv, hcl, st⟩
  · cases hv
    obtain ⟨k1, k2, k3⟩ := vx_keep h0 e1 hS hA hf hL hF
    obtain ⟨t2, a1, b1⟩ := kk r u t T'.heap (locs ++ L) e1.symm (by rw [← e2]; exact X'.warmed.alike) hp hb k1 k2 k3 T' rfl X'
    exact ⟨t2, st t2 a1, b1⟩
  · obtain ⟨k1, k2, k3⟩ := vx_keep h0 e1 hS hAX hf hL hF
    obtain ⟨t2, a1, b1⟩ := kx E ce q u t T'.heap (locs ++ L) e1.symm (by rw [← e2]; exact X'.warmed.alike) hp hb k1 k2 k3 (by rw [e1]; exact hce) hcv hcl T' rfl X'
    exact ⟨t2, st.trans a1, b1⟩
theorem vx_calld {S SX : Type} {post : UInt64 → S → Prop} {px : SX → Prop} {B : S → State → Prop} {BX : String → SX → State → Prop} {AX : Nat → Prop} (hr : vx_Run p l e R s m args below meth c H locs cells slots mc ms (F0 m pc ls st0) rest (va_Qd post B A1 a) (vx_X px BX AX) free) (hS : va_S A0 H0 H locs) (hA : ∀ q, q < H.size → A1 q → A0 q) (hf : ∀ q, free q → A0 q) (hAX : ∀ q, q < H.size → AX q → A0 q)
    (kx : ∀ (E : String) (ce : Cell) (q9 : Addr) (u : SX) (t : State) (H1 : Heap) (locs1 : List Loc), t.heap = H1 → s.vm.Alike t.vm → px u → BX E u t → H.size ≤ H1.size → (∀ q : Nat, q < H.size → ¬ AX q → H1[q]? = H[q]?) → va_S A0 H0 H1 locs1 → H1[q9]? = some ce → ce.vm = .none → s.vm.findClass E = some ce.cls → vx_W p l e R s m args below meth c H1 locs1 (cells + mc) (slots + ms) Q (F0 m pc ls rest) q9)
    (kk : ∀ (r : UInt64) (u : S) (t : State) (H1 : Heap) (locs1 : List Loc), t.heap = H1 → s.vm.Alike t.vm → post r u → B u t → H.size ≤ H1.size → (∀ q : Nat, q < H.size → ¬ A1 q → H1[q]? = H[q]?) → va_S A0 H0 H1 locs1 → W p l e R s m args below meth c H1 locs1 (cells + mc) (slots + ms) Q (F0 m (pc + 3) ls (.double r :: rest))) : W p l e R s m args below meth c H locs cells slots Q (F0 m pc ls st0) := by
  intro T hT X
  rcases hr T hT X with ⟨v, st₀, t, T', L, h0, X', hL, e1, e2, ⟨⟨r, u, hv, hp, hb⟩, hF⟩, st⟩ | ⟨q, st₀, t, T', L, E, ce, h0, X', hL, e1, e2, ⟨u, hp, hb, hF⟩, hce, hcv, hcl, st⟩
  · cases hv
    obtain ⟨k1, k2, k3⟩ := vx_keep h0 e1 hS hA hf hL hF
    obtain ⟨t2, a1, b1⟩ := kk r u t T'.heap (locs ++ L) e1.symm (by rw [← e2]; exact X'.warmed.alike) hp hb k1 k2 k3 T' rfl X'
    exact ⟨t2, st t2 a1, b1⟩
  · obtain ⟨k1, k2, k3⟩ := vx_keep h0 e1 hS hAX hf hL hF
    obtain ⟨t2, a1, b1⟩ := kx E ce q u t T'.heap (locs ++ L) e1.symm (by rw [← e2]; exact X'.warmed.alike) hp hb k1 k2 k3 (by rw [e1]; exact hce) hcv hcl T' rfl X'
    exact ⟨t2, st.trans a1, b1⟩
theorem vx_callv {S SX : Type} {post : S → Prop} {px : SX → Prop} {B : S → State → Prop} {BX : String → SX → State → Prop} {AX : Nat → Prop} (hr : vx_Run p l e R s m args below meth c H locs cells slots mc ms (F0 m pc ls st0) rest (va_Qv post B A1 a) (vx_X px BX AX) free) (hS : va_S A0 H0 H locs) (hA : ∀ q, q < H.size → A1 q → A0 q) (hf : ∀ q, free q → A0 q) (hAX : ∀ q, q < H.size → AX q → A0 q)
    (kx : ∀ (E : String) (ce : Cell) (q9 : Addr) (u : SX) (t : State) (H1 : Heap) (locs1 : List Loc), t.heap = H1 → s.vm.Alike t.vm → px u → BX E u t → H.size ≤ H1.size → (∀ q : Nat, q < H.size → ¬ AX q → H1[q]? = H[q]?) → va_S A0 H0 H1 locs1 → H1[q9]? = some ce → ce.vm = .none → s.vm.findClass E = some ce.cls → vx_W p l e R s m args below meth c H1 locs1 (cells + mc) (slots + ms) Q (F0 m pc ls rest) q9)
    (kk : ∀ (u : S) (t : State) (H1 : Heap) (locs1 : List Loc), t.heap = H1 → s.vm.Alike t.vm → post u → B u t → H.size ≤ H1.size → (∀ q : Nat, q < H.size → ¬ A1 q → H1[q]? = H[q]?) → va_S A0 H0 H1 locs1 → W p l e R s m args below meth c H1 locs1 (cells + mc) (slots + ms) Q (F0 m (pc + 3) ls (rest))) : W p l e R s m args below meth c H locs cells slots Q (F0 m pc ls st0) := by
  intro T hT X
  rcases hr T hT X with ⟨v, st₀, t, T', L, h0, X', hL, e1, e2, ⟨⟨u, hv, hp, hb⟩, hF⟩, st⟩ | ⟨q, st₀, t, T', L, E, ce, h0, X', hL, e1, e2, ⟨u, hp, hb, hF⟩, hce, hcv, hcl, st⟩
  · cases hv
    obtain ⟨k1, k2, k3⟩ := vx_keep h0 e1 hS hA hf hL hF
    obtain ⟨t2, a1, b1⟩ := kk u t T'.heap (locs ++ L) e1.symm (by rw [← e2]; exact X'.warmed.alike) hp hb k1 k2 k3 T' rfl X'
    exact ⟨t2, st t2 a1, b1⟩
  · obtain ⟨k1, k2, k3⟩ := vx_keep h0 e1 hS hAX hf hL hF
    obtain ⟨t2, a1, b1⟩ := kx E ce q u t T'.heap (locs ++ L) e1.symm (by rw [← e2]; exact X'.warmed.alike) hp hb k1 k2 k3 (by rw [e1]; exact hce) hcv hcl T' rfl X'
    exact ⟨t2, st.trans a1, b1⟩
end Rows
section Ends
variable {p : Program} {l : Launch} {e : Env} {R : Room} {s : State} {m : MethodId} {args : Array Value} {below : List Frame} {meth : Method} {c : Code} {H : Heap} {locs : List Loc} {cells slots : Nat} {Q : State → Prop}
variable {mc ms : Nat} {free : Addr → Prop} {A0 A1 : Nat → Prop} {H0 : Heap} {a : Array Value} {ls : Array Slot} {st0 rest : List Value}
variable {Qc : Array Value → State → Outcome → State → Prop} {XC : String → State → State → Prop}
/-- what a body that may throw owes at its end -/
def vx_MQ (below : List Frame) (Qc : Array Value → State → Outcome → State → Prop) (XC : String → State → State → Prop) (a : Array Value) (s : State) (mc ms : Nat) (free : Addr → Prop) : State → Prop := fun t =>
  ∃ o, t.status = .running ∧ Ended t below o ∧ vx_Q Qc XC mc ms free a s o t
theorem vx_ret {g : JFrame} {mc ms : Nat} (k : W p l e R s m args below meth c H locs cells slots (MQ below Qc args s mc ms free) g) : W p l e R s m args below meth c H locs cells slots (vx_MQ below Qc XC args s mc ms free) g := by
  intro T hT X
  obtain ⟨t, a1, o, b1, b2, b3, b4⟩ := k T hT X
  exact ⟨t, a1, o, b1, b2, Or.inl ⟨b3, b4⟩⟩
/-- not caught here: it goes on to the caller -/
theorem vx_widen {g : JFrame} {q : Addr} {k n : Nat} (h1 : cells ≤ k) (h2 : slots ≤ n) (kk : vx_W p l e R s m args below meth c H locs k n Q g q) : vx_W p l e R s m args below meth c H locs cells slots Q g q := fun T hT X => kk T hT (stand_widen X h1 h2)
theorem vx_out {pc : Nat} {E : String} {ce : Cell} {q : Addr} {mc ms : Nat} (hout : ∀ x ∈ c.exceptionTable.toList, covers x pc = false) (hlocks : meth.locks = false) (hcell : H[q]? = some ce) (hv : ce.vm = .none) (hcl : s.vm.findClass E = some ce.cls)
    (hx : ∀ t : State, t.heap = H → s.vm.Alike t.vm → XC E s t) (hf : ∀ z ∈ locs, free z.base) (hc : cells ≤ mc) (hs : slots ≤ ms) :
    vx_W p l e R s m args below meth c H locs cells slots (vx_MQ below Qc XC args s mc ms free) (F0 m pc ls rest) q := by
  intro T hT X
  obtain ⟨st1, hrun, hend, hW, hsm⟩ := X.leaveThrown q (g := F0 m pc ls rest) rfl rfl rfl hout hlocks
  have hcell9 : (T.setFrames (.throwing q :: below)).heap[q]? = some ce := by
    show T.heap[q]? = some ce
    rw [hT]; exact hcell
  exact ⟨_, st1, .threw q, hrun, hend, Or.inr ⟨q, rfl, E, ce, locs, hx _ hT hW.alike, hcell9, hv, hcl, hW, hsm.mono hc hs, hf⟩⟩
theorem vx_frame {U : State} {k n : Nat} (h : s.sameButNew ({ U with vm := s.vm } : State) locs k n) : s.heap.size ≤ U.heap.size ∧ ∀ q : Nat, q < s.heap.size → (∀ z ∈ locs, z.base ≠ q) → U.heap[q]? = s.heap[q]? := by
  obtain ⟨-, h2, -, -, -, h6⟩ := h
  refine ⟨h2, fun q hq hz => ?_⟩
  obtain ⟨c9, e1, e2, e3, e4⟩ := h6 q _ (Array.getElem?_eq_getElem hq)
  have hs : c9.slots = (s.heap[q]).slots := Array.ext_getElem? fun i => e4 i fun hm => hz _ hm rfl
  have h9 : c9 = s.heap[q] := by
    rw [hs] at e2
    exact e2
  have e5 : U.heap[q]? = some c9 := e1
  rw [e5, h9, Array.getElem?_eq_getElem hq]
/-- the words of a throw but the four that speak of the heap -/
def vx_no (w : Cond) : Bool := decide (w ≠ .isRef (.static Bundle.tN "UNASSIGNED_STACK" Bundle.steD)) && decide (w ≠ .isRef (.static Bundle.tN "SUPPRESSED_SENTINEL" Bundle.listD)) && decide (w ≠ .laysStatic Bundle.tN "UNASSIGNED_STACK" Bundle.steD) && decide (w ≠ .laysStatic Bundle.tN "SUPPRESSED_SENTINEL" Bundle.listD)
def vx_at0 (own : String) (ic : Nat) (X : String) (names : List String) : List Cond := (Bundle.ownAtoms0 own ic X names).filter vx_no
def vx_atS (own : String) (ic : Nat) (X : String) (names : List String) : List Cond := (Bundle.ownAtoms own ic X names).filter vx_no
/-- a word that the tables alone decide, or a good one -/
def vx_ot (w : Cond) : Bool := w.onTables || goodWord w
theorem vx_ot_at {args a' : Array Value} {s U : State} {w : Cond} (hW : s.WarmedH U.vm) (hvm : s.vm = U.vm) (hg : vx_ot w = true) (h : w.before args s = true) : w.before a' U = true := by
  simp only [vx_ot, Bool.or_eq_true] at hg
  rcases hg with hg | hg
  · exact va_tabs hg hvm h
  · exact word_at hW (good_of_word hg) h
/-- a list's words: the good ones out of the method's own list, the others by premises of their own -/
theorem vx_hat {args : Array Value} {s : State} {L B : List Cond} (h1 : ∀ w ∈ L.filter goodWord, w.before args s = true) (h2 : ∀ w ∈ L.filter (fun w => !goodWord w), w ∈ B) (h3 : ∀ w ∈ B, w.before args s = true) : ∀ w ∈ L, w.before args s = true := by
  intro w hw
  by_cases g : goodWord w = true
  · exact h1 w (List.mem_filter.mpr ⟨hw, g⟩)
  · refine h3 w (h2 w (List.mem_filter.mpr ⟨hw, ?_⟩))
    show (!goodWord w) = true
    cases hgw : goodWord w
    · rfl
    · exact absurd hgw g
theorem vx_c {args : Array Value} {s : State} {w : Cond} {B : List Cond} (h : w.before args s = true) (t : ∀ w ∈ B, w.before args s = true) : ∀ w' ∈ w :: B, w'.before args s = true := fun w' h' => (List.mem_cons.mp h').elim (fun e => by rw [e]; exact h) (t w')
theorem vx_n {args : Array Value} {s : State} : ∀ w ∈ ([] : List Cond), w.before args s = true := fun _ h => nomatch h
theorem vx_own {args : Array Value} {s : State} {L : List Cond} (h1 : ∀ w ∈ L.filter vx_no, w.before args s = true)
    (hU : (Cond.isRef (.static Bundle.tN "UNASSIGNED_STACK" Bundle.steD)).before args s = true) (hN : (Cond.isRef (.static Bundle.tN "SUPPRESSED_SENTINEL" Bundle.listD)).before args s = true)
    (lU : (Cond.laysStatic Bundle.tN "UNASSIGNED_STACK" Bundle.steD).before args s = true) (lN : (Cond.laysStatic Bundle.tN "SUPPRESSED_SENTINEL" Bundle.listD).before args s = true) : ∀ w ∈ L, w.before args s = true := by
  intro w hw
  by_cases e1 : w = .isRef (.static Bundle.tN "UNASSIGNED_STACK" Bundle.steD)
  · rw [e1]; exact hU
  · by_cases e2 : w = .isRef (.static Bundle.tN "SUPPRESSED_SENTINEL" Bundle.listD)
    · rw [e2]; exact hN
    · by_cases e3 : w = .laysStatic Bundle.tN "UNASSIGNED_STACK" Bundle.steD
      · rw [e3]; exact lU
      · by_cases e4 : w = .laysStatic Bundle.tN "SUPPRESSED_SENTINEL" Bundle.listD
        · rw [e4]; exact lN
        · exact h1 w (List.mem_filter.mpr ⟨hw, by unfold vx_no; rw [decide_eq_true e1, decide_eq_true e2, decide_eq_true e3, decide_eq_true e4]; rfl⟩)
/-- where a static field lies, its class's statics cell in H -/
def vx_L (C n d : String) (A : Nat → Prop) (U : State) (H : Heap) : Prop := ∃ (c : ClassId) (k : Class) (i : Nat) (f : Field) (a : Nat) (cell : Cell), U.vm.findClass C = some c ∧ U.fieldFound? C n d = some (c, k, i, f) ∧ f.isStatic = true ∧ k.statics = some a ∧ H[a]? = some cell ∧ cell.vm.isStatics = true ∧ cell.cls = c ∧ f.slot < cell.slots.size ∧ k.staticTypes[f.slot]? = some f.type ∧ ¬ A a
theorem vx_L.moved {C n d : String} {A : Nat → Prop} {u U : State} {H : Heap} (hvm : u.vm.Alike U.vm) (h : vx_L C n d A u H) : vx_L C n d A U H := by
  obtain ⟨c, k, i, f, a, cell, h1, h2, h3, h4, h5, h6, h7, h8, h9, h10⟩ := h
  obtain ⟨k', hi', he⟩ := State.fieldFound?_setVm hvm h2
  exact ⟨c, k', i, f, a, cell, by rw [hvm.findClass]; exact h1, hi', h3, by rw [he]; exact h4, h5, h6, h7, h8, by rw [he]; exact h9, h10⟩
theorem vx_L.kept {C n d : String} {A : Nat → Prop} {U : State} {H H1 : Heap} (h : vx_L C n d A U H) (hq : ∀ a : Nat, a < H.size → ¬ A a → H1[a]? = H[a]?) : vx_L C n d A U H1 := by
  obtain ⟨c, k, i, f, a, cell, h1, h2, h3, h4, h5, h6, h7, h8, h9, h10⟩ := h
  exact ⟨c, k, i, f, a, cell, h1, h2, h3, h4, by rw [hq a (Array.getElem?_eq_some_iff.mp h5).1 h10]; exact h5, h6, h7, h8, h9, h10⟩
theorem vx_L.narrow {C n d : String} {A B : Nat → Prop} {U : State} {H : Heap} (h : vx_L C n d A U H) (hAB : ∀ q, B q → A q) : vx_L C n d B U H := by
  obtain ⟨c, k, i, f, a, cell, h1, h2, h3, h4, h5, h6, h7, h8, h9, h10⟩ := h
  exact ⟨c, k, i, f, a, cell, h1, h2, h3, h4, h5, h6, h7, h8, h9, fun z => h10 (hAB _ z)⟩
theorem vx_L.word {C n d : String} {A : Nat → Prop} {s : State} {args : Array Value} (h : vx_L C n d A s s.heap) : (Cond.laysStatic C n d).before args s = true := by
  obtain ⟨c, k, i, f, a, cell, h1, h2, h3, h4, h5, h6, h7, h8, h9, -⟩ := h
  show (Cond.laysStatic C n d).holds args s none s [] = true
  exact Cond.laysStatic_of h1 h2 h3 h4 h5 h6 h7 h8 h9
/-- .. and what it holds: null or some reference -/
def vx_Zq (C n d : String) (A : Nat → Prop) (U : State) (H : Heap) : Prop := va_Zq C n d A U H ∧ vx_L C n d A U H
theorem vx_Zq.moved {C n d : String} {A : Nat → Prop} {u U : State} {H : Heap} (hvm : u.vm.Alike U.vm) (h : vx_Zq C n d A u H) : vx_Zq C n d A U H := ⟨va_Zq.moved hvm h.1, vx_L.moved hvm h.2⟩
theorem vx_Zq.kept {C n d : String} {A : Nat → Prop} {U : State} {H H1 : Heap} (h : vx_Zq C n d A U H) (hq : ∀ a : Nat, a < H.size → ¬ A a → H1[a]? = H[a]?) : vx_Zq C n d A U H1 := ⟨va_Zq.kept h.1 hq, vx_L.kept h.2 hq⟩
theorem vx_Zq.narrow {C n d : String} {A B : Nat → Prop} {U : State} {H : Heap} (h : vx_Zq C n d A U H) (hAB : ∀ q, B q → A q) : vx_Zq C n d B U H := ⟨va_Zq.narrow h.1 hAB, vx_L.narrow h.2 hAB⟩
theorem vx_Zqof {args : Array Value} {s : State} {C n d : String} {A : Nat → Prop} (hl : (Cond.laysStatic C n d).before args s = true) (hini : (Cond.initialized C).before args s = true) (h : (Cond.isRef (.static C n d)).before args s = true) (hA : ∀ a : Nat, a < s.heap.size → ¬ A a) : vx_Zq C n d A s s.heap := by
  refine ⟨va_Zqof hl hini h hA, ?_⟩
  obtain ⟨c, k, i, f, a, cell, h1, h2, h3, h4, h5, h6, h7, h8, h9⟩ := Cond.laysStatic_spec hl
  exact ⟨c, k, i, f, a, cell, h1, h2, h3, h4, h5, h6, h7, h8, h9, hA a (Array.getElem?_eq_some_iff.mp h5).1⟩
theorem vx_isRef {C n d : String} {v : Value} {A : Nat → Prop} {s : State} {args : Array Value} (h : va_Z C n d v A s s.heap) (hv : v.isRef = true) : (Cond.isRef (.static C n d)).before args s = true := by
  obtain ⟨cf, kf, fi, f, a, cell, h1, h2, h3, h4, h5, h6, h7, -⟩ := h
  have he : (Term.static C n d).eval args s none [] s = some v := by
    simp [Term.eval, State.fieldNamed?, h1, h2, h4, h5, h6, h7]
  simp only [Cond.before, Cond.holds, Cond.value, he]
  cases v <;> simp_all [Value.isRef]
theorem vx_isRefq {C n d : String} {A : Nat → Prop} {s : State} {args : Array Value} (h : va_Zq C n d A s s.heap) : (Cond.isRef (.static C n d)).before args s = true := by
  rcases h with h | ⟨t, h⟩
  · exact vx_isRef h rfl
  · exact vx_isRef h rfl
/-- the same frame, seen from here: as if the method were called anew in this heap -/
theorem vx_rebase {T : State} (X : Stand p l e R s m args below meth c T locs cells slots) {R' : Room} (hf : R'.frames ≤ R.frames) (hl : R'.locals ≤ R.locals) (hc : cells + R'.cells ≤ R.cells) (hs : slots + R'.slots ≤ R.slots) :
    Stand p l e R' ((T.setVm s.vm).setFrames (.invoking m args :: below)) m args below meth c T [] 0 0 := by
  have htop : (T.setVm s.vm).topJava?.isSome := X.here.top
  have hF : ((T.setVm s.vm).setFrames (.invoking m args :: below)).frames = .invoking m args :: below := State.frames_setFrames _ (State.cur_lt_of_top htop)
  obtain ⟨g₀, hg0⟩ := Option.isSome_iff_exists.mp htop
  obtain ⟨r, hr⟩ := State.topJava?_eq_some.mp hg0
  have hl9 : e.platform.stackLimits (T.setVm s.vm).me = e.platform.stackLimits s.me := X.limits
  have hb9 : (T.setVm s.vm).me.stackBytes = s.me.stackBytes := X.bytes
  refine ⟨X.admits, X.cas, X.clock, hF, ?_, X.hears, X.method, X.code, X.here, X.tail, X.warmed, ?_, ?_, ?_⟩
  · have h := X.room
    have hU : ((T.setVm s.vm).setFrames (.invoking m args :: below)).localsInUse = s.localsInUse := by
      rw [State.localsInUse_invoking hF (meth := meth) (c := c) X.method X.code, State.localsInUse_invoking X.frames X.method X.code]
    simp only [State.hasRoom, Bool.and_eq_true, decide_eq_true_eq] at h ⊢
    obtain ⟨⟨⟨⟨h1, h2, h3, h4, h5, h6⟩, h7⟩, h8⟩, h9⟩ := h
    rw [X.frames, List.length_cons] at h2 h3
    have q1 := X.heapSize
    have q2 := X.used
    simp only [hF, hU, List.length_cons, State.stackLimits_setFrames, State.stackBytes_setFrames, hl9, hb9]
    refine ⟨⟨⟨⟨by omega, by omega, by omega, by omega, by omega, h6⟩, ?_⟩, ?_⟩, X.book⟩
    · show T.heap.size + R'.cells ≤ e.platform.maxCells
      omega
    · show T.slotsUsed + R'.slots ≤ e.platform.maxSlots
      omega
  · rw [State.stackLimits_setFrames]; rfl
  · rw [State.stackBytes_setFrames]; rfl
  · refine ⟨?_, Nat.le_refl _, Nat.le_refl _, ?_, ?_, fun a c9 h9 => ⟨c9, h9, rfl, rfl, fun _ _ => rfl⟩⟩
    · obtain ⟨t, ht, -⟩ := State.frames_cons hr
      show T.setVm s.vm = { ((T.setVm s.vm).setFrames (.invoking m args :: below)).setFrames (T.setVm s.vm).frames with heap := T.heap, slotsUsed := T.slotsUsed }
      rw [State.setFrames_setFrames, State.setFrames_self ht]
      rfl
    · show T.slotsUsed = T.slotsUsed + ((T.heap.toList.drop T.heap.size).map (·.slots.size)).sum
      rw [List.drop_eq_nil_of_le (Nat.le_of_eq Array.length_toList)]
      rfl
    · show ((T.heap.toList.drop T.heap.size).map (·.slots.size)).sum ≤ 0
      rw [List.drop_eq_nil_of_le (Nat.le_of_eq Array.length_toList)]
      exact Nat.le_refl _
/-- 'throw new E()': new; dup; invokespecial; athrow -/
theorem vx_throw0 {cc : ByteArray} {pc : Nat} (hexec : p.tables.exec = Jvm.exec) (hb : c.code = cc) (hl : l.stackTraces = false) {own cls : String} {names : List String} {ik ic mc ms : Nat} {A : Nat → Prop}
    (hown : s.vm.findClass own = some m.cls) (hcls : Bundle.fit cls = true) (hnames : ∀ n ∈ names, Bundle.fit n = true)
    (hk : (Cond.classLink own ik cls).before args s = true) (hini : (Cond.initialized cls).before args s = true) (hat : ∀ w ∈ vx_at0 own ic cls names, w.before args s = true)
    (hgood : ∀ w ∈ Cond.classLink own ik cls :: Cond.initialized cls :: vx_at0 own ic cls names, vx_ot w = true)
    (hU : vx_Zq Bundle.tN "UNASSIGNED_STACK" Bundle.steD A s s.heap) (hN : vx_Zq Bundle.tN "SUPPRESSED_SENTINEL" Bundle.listD A s s.heap) (hS : va_S A s.heap H locs) (hsize : ls.size = c.maxLocals)
    (d0 : decode cc pc = .ok (.new ik, 3)) (d3 : decode cc (pc + 3) = .ok (.dup, 1)) (d4 : decode cc (pc + 4) = .ok (.invokespecial ic, 3)) (d7 : decode cc (pc + 7) = .ok (.athrow, 1))
    (hout : ∀ x ∈ c.exceptionTable.toList, covers x (pc + 7) = false)
    (hRframes : names.length + 3 < R.frames) (hRlocals : (rest.map fun v => v.category).sum + (13 * (names.length + 1) + 42) ≤ R.locals) (hRcells : cells + 1 ≤ R.cells) (hRslots : slots + 6 ≤ R.slots) (hlocks : meth.locks = false)
    (hx : ∀ t : State, s.vm.Alike t.vm → H.size ≤ t.heap.size → (∀ q : Nat, q < H.size → t.heap[q]? = H[q]?) → XC cls s t)
    (hf : ∀ z ∈ locs, free z.base) (hc : cells + 1 ≤ mc) (hs : slots + 6 ≤ ms) :
    W p l e R s m args below meth c H locs cells slots (vx_MQ below Qc XC args s mc ms free) (F0 m pc ls rest) := by
  intro T hT X
  have htr : e.platform.stackTraces = false := (show e.platform.stackTraces = l.stackTraces by rw [X.admits.platform]).trans hl
  have Y := vx_rebase X (R' := { frames := R.frames, locals := R.locals, cells := 1, slots := 6 }) (Nat.le_refl _) (Nat.le_refl _) hRcells hRslots
  obtain ⟨s', hA⟩ : ∃ z, z = (T.setVm s.vm).setFrames (.invoking m args :: below) := ⟨_, rfl⟩
  rw [← hA] at Y
  have hvm : s'.vm = s.vm := by rw [hA]; rfl
  have hhp : s'.heap = H := by rw [hA]; exact hT
  have hW0 : s.WarmedH s'.vm := by rw [hvm]; exact State.WarmedH.refl s
  have hat' : ∀ w ∈ vx_at0 own ic cls names, w.before args s' = true := fun w hw => vx_ot_at hW0 hvm.symm (hgood w (List.mem_cons_of_mem _ (List.mem_cons_of_mem _ hw))) (hat w hw)
  have hk' : (Cond.classLink own ik cls).before args s' = true := vx_ot_at hW0 hvm.symm (hgood _ List.mem_cons_self) hk
  have hini' : (Cond.initialized cls).before args s' = true := vx_ot_at hW0 hvm.symm (hgood _ (List.mem_cons_of_mem _ List.mem_cons_self)) hini
  have hU' : vx_Zq Bundle.tN "UNASSIGNED_STACK" Bundle.steD A s' s'.heap := by rw [hhp]; exact vx_Zq.moved hW0.alike (hU.kept hS.2.1)
  have hN' : vx_Zq Bundle.tN "SUPPRESSED_SENTINEL" Bundle.listD A s' s'.heap := by rw [hhp]; exact vx_Zq.moved hW0.alike (hN.kept hS.2.1)
  have h : ∀ w ∈ Bundle.ownAtoms0 own ic cls names, w.before args s' = true := vx_own hat' (vx_isRefq hU'.1) (vx_isRefq hN'.1) hU'.2.word hN'.2.word
  have hown' : s'.vm.findClass own = some m.cls := by rw [hvm]; exact hown
  have hins : (Cond.instantiable cls 6).before args s' = true := h _ (by simp [Bundle.ownAtoms0])
  obtain ⟨vm₁, cX, kX, hfX, hkX, -, -, X₁, st1⟩ := Y.newCold hexec (own := own) (C := cls) (index := ik) (n := 6) hown' hk' hins hini'
    (g := F0 m pc ls rest) rfl (by rw [hb]; exact d0) (Nat.le_refl _) (Nat.le_refl _)
  generalize hT1 : (T.setVm vm₁).pushCell { cls := cX, slots := kX.instanceTypes.map defaultValue, vm := .none } = T1 at X₁ st1
  have hcat : (Value.ref T.heap.size).category = 1 := rfl
  have hcellA : T1.heap[T.heap.size]? = some (freshCell cX kX) := by rw [← hT1]; exact State.heap_pushCell_size _ _
  have d3' : decode c.code (pc + 3) = .ok (.dup, 1) := by rw [hb]; exact d3
  obtain ⟨U, hsteps, hrun, hend, hW, hsame, ce, hce, hO⟩ := X₁.ctorThrow0 hexec htr (own := own) (cls := cls) (names := names) (ic := ic) hown' hcls hnames h (fun x hx => nomatch hx) hfX hkX hcellA (by rw [hhp, hT]; exact Nat.le_refl _)
    (g := { method := m, pc := pc + 4, locals := ls, stack := .ref T.heap.size :: .ref T.heap.size :: rest, locked := none }) rfl hsize rfl rfl (rest := rest) rfl
    (by rw [hb]; exact d4) (by rw [hb]; exact d7) hout hRframes (by simp only [List.map_cons, List.sum_cons, hcat]; omega) hlocks
  obtain ⟨f1, f2⟩ := vx_frame hsame
  rw [hhp] at f1 f2
  have hWs : s.WarmedH U.vm := State.WarmedH.trans hW0 hW
  have hcl : s.vm.findClass cls = some ce.cls := by
    have h9 := hO.cls
    rw [hvm] at h9
    exact h9
  have hall : s.sameButNew ({ U with vm := s.vm } : State) locs mc ms := by
    subst hA
    obtain ⟨e1, e2⟩ := hsame
    rw [State.setFrames_setFrames] at e1
    have h2 : (T.setVm s.vm).sameButNew ({ U with vm := s.vm } : State) [] (0 + 1) (0 + 6) := ⟨e1, e2⟩
    have h3 := X.same.trans h2
    rw [List.append_nil] at h3
    exact h3.mono hc hs
  refine ⟨U, ?_, .threw T.heap.size, hrun, hend, Or.inr ⟨T.heap.size, rfl, cls, ce, locs, hx U hWs.alike f1 (fun q hq => f2 q hq (fun z hz => nomatch hz)), hce, hO.vm, hcl, hWs, hall, hf⟩⟩
  refine st1 _ ?_
  show Steps p.tables e below (T1.setTop { method := m, pc := pc + 3, locals := ls, stack := .ref T.heap.size :: rest, locked := none }) _
  jvm_step X₁.here [X₁.here.top, hexec, d3', Value.category]
  exact hsteps
/-- 'throw new E("text")': new; dup; ldc; invokespecial; athrow -/
theorem vx_throwS {cc : ByteArray} {pc : Nat} (hexec : p.tables.exec = Jvm.exec) (hb : c.code = cc) (hl : l.stackTraces = false) {own cls text : String} {names : List String} {ik is ic mc ms sa : Nat} {A : Nat → Prop}
    (hown : s.vm.findClass own = some m.cls) (hcls : Bundle.fit cls = true) (hnames : ∀ n ∈ names, Bundle.fit n = true)
    (hk : (Cond.classLink own ik cls).before args s = true) (hini : (Cond.initialized cls).before args s = true) (hstr : vk_R own is text sa s) (hat : ∀ w ∈ vx_atS own ic cls names, w.before args s = true)
    (hgood : ∀ w ∈ Cond.classLink own ik cls :: Cond.initialized cls :: vx_atS own ic cls names, vx_ot w = true)
    (hU : vx_Zq Bundle.tN "UNASSIGNED_STACK" Bundle.steD A s s.heap) (hN : vx_Zq Bundle.tN "SUPPRESSED_SENTINEL" Bundle.listD A s s.heap) (hS : va_S A s.heap H locs) (hsize : ls.size = c.maxLocals)
    (d0 : decode cc pc = .ok (.new ik, 3)) (d3 : decode cc (pc + 3) = .ok (.dup, 1)) (d4 : decode cc (pc + 4) = .ok (.ldc is, 2)) (d6 : decode cc (pc + 6) = .ok (.invokespecial ic, 3)) (d9 : decode cc (pc + 9) = .ok (.athrow, 1))
    (hout : ∀ x ∈ c.exceptionTable.toList, covers x (pc + 9) = false)
    (hRframes : names.length + 3 < R.frames) (hRlocals : (rest.map fun v => v.category).sum + (13 * (names.length + 1) + 43) ≤ R.locals) (hRcells : cells + 1 ≤ R.cells) (hRslots : slots + 6 ≤ R.slots) (hlocks : meth.locks = false)
    (hx : ∀ t : State, s.vm.Alike t.vm → H.size ≤ t.heap.size → (∀ q : Nat, q < H.size → t.heap[q]? = H[q]?) → XC cls s t)
    (hf : ∀ z ∈ locs, free z.base) (hc : cells + 1 ≤ mc) (hs : slots + 6 ≤ ms) :
    W p l e R s m args below meth c H locs cells slots (vx_MQ below Qc XC args s mc ms free) (F0 m pc ls rest) := by
  intro T hT X
  have htr : e.platform.stackTraces = false := (show e.platform.stackTraces = l.stackTraces by rw [X.admits.platform]).trans hl
  have Y := vx_rebase X (R' := { frames := R.frames, locals := R.locals, cells := 1, slots := 6 }) (Nat.le_refl _) (Nat.le_refl _) hRcells hRslots
  obtain ⟨s', hA⟩ : ∃ z, z = (T.setVm s.vm).setFrames (.invoking m args :: below) := ⟨_, rfl⟩
  rw [← hA] at Y
  have hvm : s'.vm = s.vm := by rw [hA]; rfl
  have hhp : s'.heap = H := by rw [hA]; exact hT
  have hW0 : s.WarmedH s'.vm := by rw [hvm]; exact State.WarmedH.refl s
  have hat' : ∀ w ∈ vx_atS own ic cls names, w.before args s' = true := fun w hw => vx_ot_at hW0 hvm.symm (hgood w (List.mem_cons_of_mem _ (List.mem_cons_of_mem _ hw))) (hat w hw)
  have hk' : (Cond.classLink own ik cls).before args s' = true := vx_ot_at hW0 hvm.symm (hgood _ List.mem_cons_self) hk
  have hini' : (Cond.initialized cls).before args s' = true := vx_ot_at hW0 hvm.symm (hgood _ (List.mem_cons_of_mem _ List.mem_cons_self)) hini
  have hU' : vx_Zq Bundle.tN "UNASSIGNED_STACK" Bundle.steD A s' s'.heap := by rw [hhp]; exact vx_Zq.moved hW0.alike (hU.kept hS.2.1)
  have hN' : vx_Zq Bundle.tN "SUPPRESSED_SENTINEL" Bundle.listD A s' s'.heap := by rw [hhp]; exact vx_Zq.moved hW0.alike (hN.kept hS.2.1)
  have h : ∀ w ∈ Bundle.ownAtoms own ic cls names, w.before args s' = true := vx_own hat' (vx_isRefq hU'.1) (vx_isRefq hN'.1) hU'.2.word hN'.2.word
  have hown' : s'.vm.findClass own = some m.cls := by rw [hvm]; exact hown
  have hins : (Cond.instantiable cls 6).before args s' = true := h _ (by simp [Bundle.ownAtoms])
  obtain ⟨vm₁, cX, kX, hfX, hkX, -, -, X₁, st1⟩ := Y.newCold hexec (own := own) (C := cls) (index := ik) (n := 6) hown' hk' hins hini'
    (g := F0 m pc ls rest) rfl (by rw [hb]; exact d0) (Nat.le_refl _) (Nat.le_refl _)
  generalize hT1 : (T.setVm vm₁).pushCell { cls := cX, slots := kX.instanceTypes.map defaultValue, vm := .none } = T1 at X₁ st1
  have hcat : (Value.ref T.heap.size).category = 1 := rfl
  have hcellA : T1.heap[T.heap.size]? = some (freshCell cX kX) := by rw [← hT1]; exact State.heap_pushCell_size _ _
  have d3' : decode c.code (pc + 3) = .ok (.dup, 1) := by rw [hb]; exact d3
  have d4' : decode c.code (pc + 4) = .ok (.ldc is, 2) := by rw [hb]; exact d4
  have hstr' : vk_R own is text sa s' := vk_R.warm hW0 hstr
  obtain ⟨U, hsteps, hrun, hend, hW, hsame, ce, hce, hO⟩ := X₁.ctorThrowS hexec htr (own := own) (cls := cls) (names := names) (ic := ic) hown' hcls hnames h (fun x hx => nomatch hx) hfX hkX hcellA (by rw [hhp, hT]; exact Nat.le_refl _) (msg := .ref sa) rfl
    (g := { method := m, pc := pc + 6, locals := ls, stack := .ref sa :: .ref T.heap.size :: .ref T.heap.size :: rest, locked := none }) rfl hsize rfl rfl (rest := rest) rfl
    (by rw [hb]; exact d6) (by rw [hb]; exact d9) hout hRframes (by simp only [List.map_cons, List.sum_cons, hcat]; omega) hlocks
  obtain ⟨f1, f2⟩ := vx_frame hsame
  rw [hhp] at f1 f2
  have hWs : s.WarmedH U.vm := State.WarmedH.trans hW0 hW
  have hcl : s.vm.findClass cls = some ce.cls := by
    have h9 := hO.cls
    rw [hvm] at h9
    exact h9
  have hall : s.sameButNew ({ U with vm := s.vm } : State) locs mc ms := by
    subst hA
    obtain ⟨e1, e2⟩ := hsame
    rw [State.setFrames_setFrames] at e1
    have h2 : (T.setVm s.vm).sameButNew ({ U with vm := s.vm } : State) [] (0 + 1) (0 + 6) := ⟨e1, e2⟩
    have h3 := X.same.trans h2
    rw [List.append_nil] at h3
    exact h3.mono hc hs
  refine ⟨U, ?_, .threw T.heap.size, hrun, hend, Or.inr ⟨T.heap.size, rfl, cls, ce, locs, hx U hWs.alike f1 (fun q hq => f2 q hq (fun z hz => nomatch hz)), hce, hO.vm, hcl, hWs, hall, hf⟩⟩
  refine st1 _ ?_
  show Steps p.tables e below (T1.setTop { method := m, pc := pc + 3, locals := ls, stack := .ref T.heap.size :: rest, locked := none }) _
  jvm_step X₁.here [X₁.here.top, hexec, d3', Value.category]
  exact X₁.ldcString hexec (own := own) (text := text) (index := is) (a := sa) hown' hstr'.1 hstr'.2
    (g := { method := m, pc := pc + 4, locals := ls, stack := .ref T.heap.size :: .ref T.heap.size :: rest, locked := none }) rfl d4' _ hsteps
/-- 'throw new E("text")', the text by a wide index -/
theorem vx_throwSW {cc : ByteArray} {pc : Nat} (hexec : p.tables.exec = Jvm.exec) (hb : c.code = cc) (hl : l.stackTraces = false) {own cls text : String} {names : List String} {ik is ic mc ms sa : Nat} {A : Nat → Prop}
    (hown : s.vm.findClass own = some m.cls) (hcls : Bundle.fit cls = true) (hnames : ∀ n ∈ names, Bundle.fit n = true)
    (hk : (Cond.classLink own ik cls).before args s = true) (hini : (Cond.initialized cls).before args s = true) (hstr : vk_R own is text sa s) (hat : ∀ w ∈ vx_atS own ic cls names, w.before args s = true)
    (hgood : ∀ w ∈ Cond.classLink own ik cls :: Cond.initialized cls :: vx_atS own ic cls names, vx_ot w = true)
    (hU : vx_Zq Bundle.tN "UNASSIGNED_STACK" Bundle.steD A s s.heap) (hN : vx_Zq Bundle.tN "SUPPRESSED_SENTINEL" Bundle.listD A s s.heap) (hS : va_S A s.heap H locs) (hsize : ls.size = c.maxLocals)
    (d0 : decode cc pc = .ok (.new ik, 3)) (d3 : decode cc (pc + 3) = .ok (.dup, 1)) (d4 : decode cc (pc + 4) = .ok (.ldc_w is, 3)) (d7 : decode cc (pc + 7) = .ok (.invokespecial ic, 3)) (d10 : decode cc (pc + 10) = .ok (.athrow, 1))
    (hout : ∀ x ∈ c.exceptionTable.toList, covers x (pc + 10) = false)
    (hRframes : names.length + 3 < R.frames) (hRlocals : (rest.map fun v => v.category).sum + (13 * (names.length + 1) + 43) ≤ R.locals) (hRcells : cells + 1 ≤ R.cells) (hRslots : slots + 6 ≤ R.slots) (hlocks : meth.locks = false)
    (hx : ∀ t : State, s.vm.Alike t.vm → H.size ≤ t.heap.size → (∀ q : Nat, q < H.size → t.heap[q]? = H[q]?) → XC cls s t)
    (hf : ∀ z ∈ locs, free z.base) (hc : cells + 1 ≤ mc) (hs : slots + 6 ≤ ms) :
    W p l e R s m args below meth c H locs cells slots (vx_MQ below Qc XC args s mc ms free) (F0 m pc ls rest) := by
  intro T hT X
  have htr : e.platform.stackTraces = false := (show e.platform.stackTraces = l.stackTraces by rw [X.admits.platform]).trans hl
  have Y := vx_rebase X (R' := { frames := R.frames, locals := R.locals, cells := 1, slots := 6 }) (Nat.le_refl _) (Nat.le_refl _) hRcells hRslots
  obtain ⟨s', hA⟩ : ∃ z, z = (T.setVm s.vm).setFrames (.invoking m args :: below) := ⟨_, rfl⟩
  rw [← hA] at Y
  have hvm : s'.vm = s.vm := by rw [hA]; rfl
  have hhp : s'.heap = H := by rw [hA]; exact hT
  have hW0 : s.WarmedH s'.vm := by rw [hvm]; exact State.WarmedH.refl s
  have hat' : ∀ w ∈ vx_atS own ic cls names, w.before args s' = true := fun w hw => vx_ot_at hW0 hvm.symm (hgood w (List.mem_cons_of_mem _ (List.mem_cons_of_mem _ hw))) (hat w hw)
  have hk' : (Cond.classLink own ik cls).before args s' = true := vx_ot_at hW0 hvm.symm (hgood _ List.mem_cons_self) hk
  have hini' : (Cond.initialized cls).before args s' = true := vx_ot_at hW0 hvm.symm (hgood _ (List.mem_cons_of_mem _ List.mem_cons_self)) hini
  have hU' : vx_Zq Bundle.tN "UNASSIGNED_STACK" Bundle.steD A s' s'.heap := by rw [hhp]; exact vx_Zq.moved hW0.alike (hU.kept hS.2.1)
  have hN' : vx_Zq Bundle.tN "SUPPRESSED_SENTINEL" Bundle.listD A s' s'.heap := by rw [hhp]; exact vx_Zq.moved hW0.alike (hN.kept hS.2.1)
  have h : ∀ w ∈ Bundle.ownAtoms own ic cls names, w.before args s' = true := vx_own hat' (vx_isRefq hU'.1) (vx_isRefq hN'.1) hU'.2.word hN'.2.word
  have hown' : s'.vm.findClass own = some m.cls := by rw [hvm]; exact hown
  have hins : (Cond.instantiable cls 6).before args s' = true := h _ (by simp [Bundle.ownAtoms])
  obtain ⟨vm₁, cX, kX, hfX, hkX, -, -, X₁, st1⟩ := Y.newCold hexec (own := own) (C := cls) (index := ik) (n := 6) hown' hk' hins hini'
    (g := F0 m pc ls rest) rfl (by rw [hb]; exact d0) (Nat.le_refl _) (Nat.le_refl _)
  generalize hT1 : (T.setVm vm₁).pushCell { cls := cX, slots := kX.instanceTypes.map defaultValue, vm := .none } = T1 at X₁ st1
  have hcat : (Value.ref T.heap.size).category = 1 := rfl
  have hcellA : T1.heap[T.heap.size]? = some (freshCell cX kX) := by rw [← hT1]; exact State.heap_pushCell_size _ _
  have d3' : decode c.code (pc + 3) = .ok (.dup, 1) := by rw [hb]; exact d3
  have d4' : decode c.code (pc + 4) = .ok (.ldc_w is, 3) := by rw [hb]; exact d4
  have hstr' : vk_R own is text sa s' := vk_R.warm hW0 hstr
  obtain ⟨U, hsteps, hrun, hend, hW, hsame, ce, hce, hO⟩ := X₁.ctorThrowS hexec htr (own := own) (cls := cls) (names := names) (ic := ic) hown' hcls hnames h (fun x hx => nomatch hx) hfX hkX hcellA (by rw [hhp, hT]; exact Nat.le_refl _) (msg := .ref sa) rfl
    (g := { method := m, pc := pc + 7, locals := ls, stack := .ref sa :: .ref T.heap.size :: .ref T.heap.size :: rest, locked := none }) rfl hsize rfl rfl (rest := rest) rfl
    (by rw [hb]; exact d7) (by rw [hb]; exact d10) hout hRframes (by simp only [List.map_cons, List.sum_cons, hcat]; omega) hlocks
  obtain ⟨f1, f2⟩ := vx_frame hsame
  rw [hhp] at f1 f2
  have hWs : s.WarmedH U.vm := State.WarmedH.trans hW0 hW
  have hcl : s.vm.findClass cls = some ce.cls := by
    have h9 := hO.cls
    rw [hvm] at h9
    exact h9
  have hall : s.sameButNew ({ U with vm := s.vm } : State) locs mc ms := by
    subst hA
    obtain ⟨e1, e2⟩ := hsame
    rw [State.setFrames_setFrames] at e1
    have h2 : (T.setVm s.vm).sameButNew ({ U with vm := s.vm } : State) [] (0 + 1) (0 + 6) := ⟨e1, e2⟩
    have h3 := X.same.trans h2
    rw [List.append_nil] at h3
    exact h3.mono hc hs
  refine ⟨U, ?_, .threw T.heap.size, hrun, hend, Or.inr ⟨T.heap.size, rfl, cls, ce, locs, hx U hWs.alike f1 (fun q hq => f2 q hq (fun z hz => nomatch hz)), hce, hO.vm, hcl, hWs, hall, hf⟩⟩
  refine st1 _ ?_
  show Steps p.tables e below (T1.setTop { method := m, pc := pc + 3, locals := ls, stack := .ref T.heap.size :: rest, locked := none }) _
  jvm_step X₁.here [X₁.here.top, hexec, d3', Value.category]
  exact X₁.ldcStringW hexec (own := own) (text := text) (index := is) (a := sa) hown' hstr'.1 hstr'.2
    (g := { method := m, pc := pc + 4, locals := ls, stack := .ref T.heap.size :: .ref T.heap.size :: rest, locked := none }) rfl d4' _ hsteps
end Ends
section Bodies
variable {l : Launch}
theorem vx_ofW {y : MethodName} {ws ws' : List Cond} {rm : Room} {Pc : Array Value → State → Prop} {Qc : Array Value → State → Outcome → State → Prop} {XC : String → State → State → Prop} {mc ms : Nat} {free : Addr → Prop} {cc : ByteArray} {maxL : Nat} {ret : Option FieldType}
    (hy : plainName y.cls = true) (hw : ws = Cond.code y cc maxL ret :: ws')
    (body : ∀ p e s m args below meth c s₁, BodyLoose p l y (headSpec ws rm) cc maxL ret e s m args below meth c s₁ → c.maxLocals = maxL → (∀ x ∈ c.exceptionTable.toList, False) → Pc args s →
      W p l e (headSpec ws rm).room s m args below meth c s.heap [] 0 0 (vx_MQ below Qc XC args s mc ms free) (entryFrame m args maxL)) : vx_Met l y ws rm Pc Qc XC mc ms free := by
  refine MetFree.of_bodyS (code := cc) (maxLocals := maxL) (ret := ret) hy ?_ ?_
  · intro args s m h hn
    obtain ⟨meth, c, h1, h2, h3, h4, h5, h6, -, -⟩ := Cond.code_spec hn (atoms_spec (ws := ws) h _ (by rw [hw]; exact List.mem_cons_self))
    exact ⟨meth, c, h1, h2, h3, h4, h5, h6⟩
  · intro p e s m args below meth c s₁ B hml hP _
    have hh0 : s₁.heap = s.heap := by rw [B.state]; rfl
    have ht : ∀ x ∈ c.exceptionTable.toList, False := by
      obtain ⟨meth9, c9, h1, h2, -, -, -, -, h7, -⟩ := Cond.code_spec B.named (atoms_spec (ws := ws) B.pre _ (by rw [hw]; exact List.mem_cons_self))
      cases Option.some.inj (h1.symm.trans B.method)
      cases Option.some.inj (h2.symm.trans (Stand.of_body B).code)
      intro x hx
      rw [Array.isEmpty_iff.mp h7] at hx
      cases hx
    obtain ⟨t, a1, o, b1, b2, b3⟩ := body p e s m args below meth c s₁ B hml ht hP s₁ hh0 (Stand.of_body B)
    exact ⟨t, o, a1, b1, b2, b3⟩
/-- the table of a body with handlers -/
theorem vx_table {p : Program} {x y : MethodName} {S : Spec} {cc bytes : ByteArray} {maxL maxL' : Nat} {ret ret' : Option FieldType} {e : Env} {s s₁ : State} {m : MethodId} {args : Array Value} {below : List Frame} {meth : Method} {c : Code} {hh : List (Nat × Nat × Nat × Nat)}
    (B : BodyLoose p l y S cc maxL ret e s m args below meth c s₁) (h : (Cond.codeWith y bytes maxL' ret' hh).before args s = true) : c.exceptionTable.toList = tableOf hh := by
  obtain ⟨m9, meth9, c9, hn9, h1, h2, -, -, h6, -⟩ := Cond.codeWith_spec h
  cases Option.some.inj (hn9.symm.trans B.named)
  cases Option.some.inj (h1.symm.trans B.method)
  cases Option.some.inj (h2.symm.trans (Stand.of_body B).code)
  rw [← h6, table_eq]
end Bodies
end VXA
/-! ===== END ===== -/
/-! ===== BEGIN a static call of a method with an exception table ===== -/
section VXS
variable {p : Program} {l : Launch} {e : Env} {R : Room} {s : State} {m : MethodId} {args : Array Value} {below : List Frame} {meth : Method} {c : Code} {T : State} {H : Heap} {locs : List Loc} {cells slots : Nat}
abbrev vx_CSW (R : Room) (s : State) (args : Array Value) (own : String) (index : Nat) (y : MethodName) (bytes : ByteArray) (maxL : Nat) (ret : Option FieldType) (hh : List (Nat × Nat × Nat × Nat)) (ws : List Cond) (rm : Room) (mc ms n : Nat) : Prop :=
  (rm.cells = mc ∧ rm.slots = ms ∧ rm.frames + 1 ≤ R.frames ∧ 8 + (maxL + 11) + rm.locals ≤ R.locals ∧ (∀ w ∈ ws, ∀ (a' : Array Value) (U : State), s.WarmedH U.vm → w.before a' U = true) ∧ Cond.codeWith y bytes maxL ret hh ∈ ws) ∧
  (Cond.codeWith y bytes maxL ret hh).before args s = true ∧ (Cond.initialized y.cls).before args s = true ∧ (y.cls ≠ "java/lang/invoke/MethodHandle" ∧ y.cls ≠ "java/lang/invoke/VarHandle") ∧
  (∀ sig, parseMethodDescriptor y.desc = some sig → n = sig.parameters.length) ∧ (Cond.methodLink own index y).before args s = true ∧ (Cond.static y).before args s = true
theorem vx_cwSW {own : String} {index maxL mc ms : Nat} {y : MethodName} {bytes : ByteArray} {ret : Option FieldType} {hh : List (Nat × Nat × Nat × Nat)} {Ts ws ws' : List Cond} {rm : Room} (n : Nat) (ht : ∀ w ∈ Ts, w.before args s = true) (hT : GoodIn Ts (va_wsS own index y ws)) (hw : ws = Cond.codeWith y bytes maxL ret hh :: ws') (hrc : rm.cells = mc) (hrs : rm.slots = ms)
    (hd : y.cls ≠ "java/lang/invoke/MethodHandle" ∧ y.cls ≠ "java/lang/invoke/VarHandle" ∧ (parseMethodDescriptor y.desc).map (fun d => d.parameters.length) = some n) (hR : rm.frames + 1 ≤ R.frames ∧ 8 + (maxL + 11) + rm.locals ≤ R.locals) :
    vx_CSW R s args own index y bytes maxL ret hh ws rm mc ms n := by
  have ok : ∀ w ∈ va_wsS own index y ws, w.before args s = true := fun w h => ht w (hT w h).1
  have hG : GoodIn Ts ws := fun w h => hT w (by unfold va_wsS; exact List.mem_append_right _ h)
  have hc : Cond.codeWith y bytes maxL ret hh ∈ ws := by rw [hw]; exact List.mem_cons_self
  refine ⟨⟨hrc, hrs, hR.1, hR.2, pay_in ht hG, hc⟩, ht _ (hG _ hc).1, ok _ (by simp [va_wsS]), ⟨hd.1, hd.2.1⟩, fun sig h => ?_, ok _ (by simp [va_wsS]), ok _ (by simp [va_wsS])⟩
  have h2 := hd.2.2
  rw [h] at h2
  exact (Option.some.inj h2).symm
theorem vx_callSW (X : Stand p l e R s m args below meth c T locs cells slots) (hexec : p.tables.exec = Jvm.exec) {own : String} {index : Nat} {y : MethodName} {bytes : ByteArray} {maxL : Nat} {ret : Option FieldType} {hh : List (Nat × Nat × Nat × Nat)}
    (hown : s.vm.findClass own = some m.cls) (hlink : (Cond.methodLink own index y).before args s = true) (hstat : (Cond.static y).before args s = true) (hinit : (Cond.initialized y.cls).before args s = true)
    (hcode : (Cond.codeWith y bytes maxL ret hh).before args s = true) (hy : y.cls ≠ "java/lang/invoke/MethodHandle" ∧ y.cls ≠ "java/lang/invoke/VarHandle")
    {W9 : Nat} {Pre : Pt → Array Value → Prop} {Post : Pt → Array Value → Option Value → Pt → Prop} (hK : Back l R p e below s args y 3 W9 Pre Post)
    {g : JFrame} (hg : g.method = m) (hsize : g.locals.size = c.maxLocals) {argsL rest : List Value} (hlen : ∀ sig, parseMethodDescriptor y.desc = some sig → argsL.length = sig.parameters.length)
    (hstack : g.stack = argsL.reverse ++ rest) (hW : 2 * g.monitorRoom + (rest.map fun v => v.category).sum ≤ W9) (hdg : decode c.code g.pc = .ok (.invokestatic index, 3))
    (hpre : ∀ vm₁, s.WarmedH vm₁ → Pre ⟨T.setVm vm₁, locs, cells, slots⟩ argsL.toArray) :
    ∃ (v : Option Value) (vm₁ : Vm) (B : Pt), s.WarmedH vm₁ ∧ Stand p l e R s m args below meth c B.U B.locs B.cells B.slots ∧ Post ⟨T.setVm vm₁, locs, cells, slots⟩ argsL.toArray v B ∧
      ∀ target, Steps p.tables e below (B.U.setTop { g with pc := g.pc + 3, stack := v.toList ++ rest }) target → Steps p.tables e below (T.setTop g) target := by
  obtain ⟨mk, methM, cM, hnamed, hmethM, -, -, -, -, -, -, hsigM⟩ := Cond.codeWith_spec hcode
  have hstatic : methM.isStatic = true := Cond.static_spec hnamed hmethM hstat
  obtain ⟨kP, hkP, -⟩ := className_of_methodNamed hnamed
  have hinitP : kP.init = .initialized := Cond.initialized_spec (findClass_of_methodNamed hnamed) hkP hinit
  obtain ⟨vm₁, X₁, hstep₁⟩ := X.invokestatic hexec hown hlink hnamed hmethM hstatic hkP hinitP hy (g := g) hg (argsL := argsL) (rest := rest) (hlen _ hsigM) hstack hdg
  obtain ⟨v, B, X', hpost, hsteps⟩ := hK m meth c ⟨T.setVm vm₁, locs, cells, slots⟩ { g with stack := rest } (.invokestatic index) mk argsL.toArray X₁ hg hsize hdg hW (X₁.named hnamed) (hpre vm₁ X₁.warmed)
  exact ⟨v, vm₁, B, X₁.warmed, X', hpost, fun target h => hstep₁ _ fun acts => by rw [doInvoke_state]; exact hsteps.trans h⟩
theorem vx_runSW {y : MethodName} {bytes cc : ByteArray} {maxL nL mc ms n index : Nat} {ret : Option FieldType} {hh : List (Nat × Nat × Nat × Nat)} {ws : List Cond} {rm : Room} {Pc : Array Value → State → Prop} {Qc : Array Value → State → Outcome → State → Prop} {free : Addr → Prop} {Ts : List Cond} {own : String} {As rest : List Value} {g : JFrame}
    (S : CallFix p m c cc nL s args Ts own) (hM : Met l y ws rm Pc Qc mc ms free) (cw : vx_CSW R s args own index y bytes maxL ret hh ws rm mc ms n) (hp : PreS s H Pc As)
    (hg : g.method = m) (hn : As.length = n) (hsize : g.locals.size = nL) (hstack : g.stack = As.reverse ++ rest) (hW : 2 * g.monitorRoom + (rest.map fun v => v.category).sum ≤ 8) (hdg : decode cc g.pc = .ok (.invokestatic index, 3)) (hf : cells + mc ≤ R.cells ∧ slots + ms ≤ R.slots) :
    va_Run p l e R s m args below meth c H locs cells slots mc ms g rest (Qc As.toArray) (free) := by
  obtain ⟨⟨hrc, hrs, hfr, hlo, hws, hcw⟩, hcode, hini, hy, hlen, hl, hstt⟩ := cw
  have hK : Back l R p e below s args y 3 8 (PreOf R mc ms Pc) (PostOf Qc mc ms free) := va_backW (hh := hh) (bytes := bytes) (maxL := maxL) (ret := ret) hM hp.1 hrc hrs hfr hlo hws hcw (fun a' U hW => word_at hW (Or.inl (by first | rfl | simp [Cond.onTables, Cond.keeps, Cond.steady])) hini)
  obtain ⟨hx, hb, hml, ho, -⟩ := S
  intro T hT X
  obtain ⟨v, vm₁, ⟨U', l2, c2, s2⟩, hW₁, X', ⟨g', mk, t, L, e1, e2, hq, h1, hL, h2, h3⟩, st⟩ := vx_callSW X hx (hh := hh) (bytes := bytes) (maxL := maxL) (ret := ret) ho hl hstt hini hcode hy hK hg (hsize.trans hml.symm) (argsL := As) (rest := rest) (fun sig h => hn.trans (hlen sig h)) hstack hW (by rw [hb]; exact hdg)
    (fun vm₁ hW₁ => ⟨hf.1, hf.2, hp.2 (T.setVm vm₁) hT hW₁⟩)
  dsimp only [Pt.U, Pt.locs, Pt.cells, Pt.slots] at X' e1 e2 h1 h2 h3 st
  subst h1; subst h2; subst h3
  exact ⟨v, (T.setVm vm₁).calling g' mk As.toArray, t, U', L, hT, X', hL, e1, e2, hq, st⟩
/-- a thing of a world lies in the heap -/
theorem vx_lt {D : va_G} {cl : List vw_C} {ws : va_W} {H1 : Heap} (h : va_P D cl ws H1) {k : Nat} {q : Nat × va_E} (hk : ws[k]? = some q) : q.1 < H1.size := (h k q hk).lt
end VXS
/-! ===== END ===== -/
/-! ===== BEGIN methods with a table of their own: called by a name, returning or throwing ===== -/
section VXH
/-! vx_backW, vx_callVX, vx_callSX, vx_callVW, vx_runVW, vx_runVX, vx_runSX, vx_ofWH follow the same proofs as their sisters above (Free/Laws.lean, Shelf42/LK1.lean); vx_outP calls Shelf42/NT130.lean (outThrough). -/
section
variable {l : Launch} {R : Room} {p : Program} {e : Env} {below : List Frame} {s : State} {sargs : Array Value} {y : MethodName} {len W9 : Nat}
theorem vx_backW {ws : List Cond} {rm : Room} {Pc : Array Value → State → Prop} {Qc : Array Value → State → Outcome → State → Prop} {XC : String → State → State → Prop} {mc ms : Nat} {free : Addr → Prop} {bytes : ByteArray} {maxL : Nat} {ret : Option FieldType} {hh : List (Nat × Nat × Nat × Nat)}
    (hM : vx_Met l y ws rm Pc Qc XC mc ms free) (hblind : FrameBlind Pc) (hrc : rm.cells = mc) (hrs : rm.slots = ms)
    (hframes : rm.frames + 1 ≤ R.frames) (hlocals : W9 + (maxL + 11) + rm.locals ≤ R.locals)
    (hws : ∀ w ∈ ws, ∀ a' U, s.WarmedH U.vm → w.before a' U = true) (hcode : Cond.codeWith y bytes maxL ret hh ∈ ws) (hinit : ∀ a' U, s.WarmedH U.vm → (Cond.initialized y.cls).before a' U = true) :
    vx_Back l R p e below s sargs y len W9 (PreOf R mc ms Pc) (PostOf Qc mc ms free) (vx_Post XC mc ms free) := by
  intro m meth c A g ig mk a X hg hsize hdg hW hn hp
  have h1 : (headSpec ws rm).pre.before a A.U = true := atoms_intro fun w hw => hws w hw _ _ X.warmed
  have h2 : (Cond.codeWith y bytes maxL ret hh).before a A.U = true := hws _ hcode _ _ X.warmed
  have h3 : (Cond.initialized y.cls).before a A.U = true := hinit _ _ X.warmed
  have h4 : A.cells + (headSpec ws rm).room.cells ≤ R.cells := by rw [show (headSpec ws rm).room.cells = mc from hrc]; exact hp.1
  have h5 : A.slots + (headSpec ws rm).room.slots ≤ R.slots := by rw [show (headSpec ws rm).room.slots = ms from hrs]; exact hp.2.1
  have hPc : Pc a (A.U.calling g mk a) := hblind _ _ _ _ hp.2.2
  obtain ⟨U, Ls, c0, s0⟩ := A
  dsimp only [Pt.U, Pt.locs, Pt.cells, Pt.slots] at h1 h2 h3 h4 h5 X hn hPc ⊢
  obtain ⟨m9, methY, cY, hn9, hmY, hcY, -, hlY, -⟩ := Cond.codeWith_spec h2
  cases Option.some.inj (hn9.symm.trans hn)
  obtain ⟨kY, hkY, -⟩ := className_of_methodNamed hn
  have hinitY : kY.init = .initialized := Cond.initialized_spec (findClass_of_methodNamed hn) hkY h3
  have h : At U g.method c below := by rw [hg]; exact X.here
  have hlocals9 : W9 + (maxL + 11) + (headSpec ws rm).room.locals ≤ R.locals := hlocals
  have happ : (headSpec ws rm).appliesLoose y e.platform (U.calling g mk a) = true :=
    Spec.appliesLoose_calling (g := g) h hdg hn hkY hinitY
      (X.room_calling (g := g) (R' := (headSpec ws rm).room) hsize hmY hcY hframes (by rw [hlY]; omega) h4 h5) h1
  obtain ⟨mid, hmid⟩ := h.above
  have hfr : (U.setTop g).frames = (.java g :: mid) ++ below := by rw [State.frames_setTop' g h.top, hmid]; rfl
  obtain ⟨o, s₂, hsteps, -, hend, hq⟩ := Steps.callFree hM p X.admits X.cas X.clock (acts := []) hfr happ hPc trivial
  have hq' : vx_Q Qc XC mc ms free a (U.calling g mk a) o s₂ := hq
  rw [State.frames_setTop' g h.top] at hend
  obtain ⟨g₀, hg0⟩ := Option.isSome_iff_exists.mp h.top
  obtain ⟨r, hr⟩ := State.topJava?_eq_some.mp hg0
  have hr' : (({ U with heap := s₂.heap, slotsUsed := s₂.slotsUsed } : State).setVm s₂.vm).frames = .java g₀ :: r := hr
  rcases hq' with ⟨hqc, L, hfe, hL⟩ | ⟨q, rfl, E, ce, L, hx, hce, hcv, hcl, hW₂, hsm, hL⟩
  · obtain ⟨⟨v, rfl⟩, hW₂, e2, q2, q3, q4, q5, q6⟩ := id hfe
    have e3 : s₂ = ({ (U.calling g mk a).setFrames s₂.frames with heap := s₂.heap, slotsUsed := s₂.slotsUsed } : State).setVm s₂.vm := by
      have : s₂ = ({ s₂ with vm := (U.calling g mk a).vm } : State).setVm s₂.vm := rfl
      rw [e2] at this
      exact this
    obtain ⟨c₂, i₂, len₂, hc₂, hd₂, hf₂⟩ := hend
    have hW' : U.WarmedH s₂.vm := hW₂
    have hcc : c₂ = c := by
      have h1 : s₂.code? g.method = U.code? g.method := by
        rw [State.code?_eq, State.code?_eq, hW'.alike.method?]
      exact Option.some.inj (hc₂.symm.trans (h1.trans h.code))
    subst hcc
    have hlen : len₂ = len := by rw [hdg] at hd₂; cases hd₂; rfl
    subst hlen
    have hs₂ : s₂ = (({ U with heap := s₂.heap, slotsUsed := s₂.slotsUsed } : State).setVm s₂.vm).setTop { g with pc := g.pc + len₂, stack := v.toList ++ g.stack } := by
      refine e3.trans ?_
      rw [hf₂, State.calling_eq h.top, State.setFrames_setFrames, State.setTop_of_frames _ hr', hr]
      rfl
    have hsame : U.sameButNew ({ U with heap := s₂.heap, slotsUsed := s₂.slotsUsed } : State) L mc ms := by
      refine ⟨?_, q2, q3, q4, q5, q6⟩
      obtain ⟨t, ht, -⟩ := State.frames_cons hr
      show ({ U with heap := s₂.heap, slotsUsed := s₂.slotsUsed } : State) = { U.setFrames U.frames with heap := s₂.heap, slotsUsed := s₂.slotsUsed }
      rw [State.setFrames_self ht]
    subst hg
    refine Or.inl ⟨v, ⟨(({ U with heap := s₂.heap, slotsUsed := s₂.slotsUsed } : State).setVm s₂.vm), Ls ++ L, c0 + mc, s0 + ms⟩,
      ⟨X.admits, X.cas, X.clock, X.frames, X.room, X.hears, X.method, X.code, (X.here.setHeapUsed s₂.heap s₂.slotsUsed).setVm hW'.alike, X.tail, State.WarmedH.trans X.warmed hW', X.limits, X.bytes, X.same.trans (hsame.setVm s.vm)⟩,
      ⟨g, mk, s₂, L, rfl, rfl, hqc, rfl, hL, rfl, rfl⟩, ?_⟩
    show Steps p.tables e below _ ((({ U with heap := s₂.heap, slotsUsed := s₂.slotsUsed } : State).setVm s₂.vm).setTop { g with pc := g.pc + len₂, stack := v.toList ++ g.stack })
    rw [← hs₂]
    exact hsteps
  · obtain ⟨e2, q2, q3, q4, q5, q6⟩ := id hsm
    have e3 : s₂ = ({ (U.calling g mk a).setFrames s₂.frames with heap := s₂.heap, slotsUsed := s₂.slotsUsed } : State).setVm s₂.vm := by
      have : s₂ = ({ s₂ with vm := (U.calling g mk a).vm } : State).setVm s₂.vm := rfl
      rw [e2] at this
      exact this
    have hf₂ : s₂.frames = .throwing q :: .java g :: U.frames.tail := hend
    have hW' : U.WarmedH s₂.vm := hW₂
    have hs₂ : s₂ = ((({ U with heap := s₂.heap, slotsUsed := s₂.slotsUsed } : State).setVm s₂.vm).setTop g).pushFrame (.throwing q) := by
      refine e3.trans ?_
      rw [hf₂, State.calling_eq h.top, State.setFrames_setFrames, State.pushFrame, State.frames_setTop _ hr', State.setTop_of_frames _ hr', State.setFrames_setFrames, hr]
      rfl
    have hsame : U.sameButNew ({ U with heap := s₂.heap, slotsUsed := s₂.slotsUsed } : State) L mc ms := by
      refine ⟨?_, q2, q3, q4, q5, q6⟩
      obtain ⟨t, ht, -⟩ := State.frames_cons hr
      show ({ U with heap := s₂.heap, slotsUsed := s₂.slotsUsed } : State) = { U.setFrames U.frames with heap := s₂.heap, slotsUsed := s₂.slotsUsed }
      rw [State.setFrames_self ht]
    subst hg
    refine Or.inr ⟨q, ⟨(({ U with heap := s₂.heap, slotsUsed := s₂.slotsUsed } : State).setVm s₂.vm), Ls ++ L, c0 + mc, s0 + ms⟩,
      ⟨X.admits, X.cas, X.clock, X.frames, X.room, X.hears, X.method, X.code, (X.here.setHeapUsed s₂.heap s₂.slotsUsed).setVm hW'.alike, X.tail, State.WarmedH.trans X.warmed hW', X.limits, X.bytes, X.same.trans (hsame.setVm s.vm)⟩,
      ⟨g, mk, s₂, L, E, ce, rfl, rfl, hx, hce, hcv, hcl, rfl, hL, rfl, rfl⟩, ?_⟩
    show Steps p.tables e below _ (((({ U with heap := s₂.heap, slotsUsed := s₂.slotsUsed } : State).setVm s₂.vm).setTop g).pushFrame (.throwing q))
    rw [← hs₂]
    exact hsteps
end
variable {p : Program} {l : Launch} {e : Env} {R : Room} {s : State} {m : MethodId} {args : Array Value} {below : List Frame} {meth : Method} {c : Code} {T : State} {H : Heap} {locs : List Loc} {cells slots : Nat}
theorem vx_callVX (X : Stand p l e R s m args below meth c T locs cells slots) (hexec : p.tables.exec = Jvm.exec) {own C : String} {index : Nat} {y : MethodName} {bytes : ByteArray} {maxL : Nat} {ret : Option FieldType} {hh : List (Nat × Nat × Nat × Nat)}
    (hown : s.vm.findClass own = some m.cls) (hlink : (Cond.methodLink own index y).before args s = true) (hinst : (Cond.instanceMethod y).before args s = true) (hsel : (Cond.selects C y y).before args s = true)
    (hcode : (Cond.codeWith y bytes maxL ret hh).before args s = true) (hy : y.cls ≠ "java/lang/invoke/MethodHandle" ∧ y.cls ≠ "java/lang/invoke/VarHandle")
    {W9 : Nat} {Pre : Pt → Array Value → Prop} {Post : Pt → Array Value → Option Value → Pt → Prop} {PostX : Pt → Array Value → Addr → Pt → Prop} (hK : vx_Back l R p e below s args y 3 W9 Pre Post PostX)
    {b : Addr} {cellB : Cell} (hcell : T.heap[b]? = some cellB) (hobj : cellB.vm.isStatics = false) (hcls : s.vm.findClass C = some cellB.cls)
    {g : JFrame} (hg : g.method = m) (hsize : g.locals.size = c.maxLocals) {argsL rest : List Value} (hlen : ∀ sig, parseMethodDescriptor y.desc = some sig → argsL.length = sig.parameters.length)
    (hstack : g.stack = argsL.reverse ++ .ref b :: rest) (hW : 2 * g.monitorRoom + (rest.map fun v => v.category).sum ≤ W9) (hdg : decode c.code g.pc = .ok (.invokevirtual index, 3))
    (hpre : ∀ vm₁, s.WarmedH vm₁ → Pre ⟨T.setVm vm₁, locs, cells, slots⟩ (Value.ref b :: argsL).toArray) :
    (∃ (v : Option Value) (vm₁ : Vm) (B : Pt), s.WarmedH vm₁ ∧ Stand p l e R s m args below meth c B.U B.locs B.cells B.slots ∧ Post ⟨T.setVm vm₁, locs, cells, slots⟩ (Value.ref b :: argsL).toArray v B ∧
      ∀ target, Steps p.tables e below (B.U.setTop { g with pc := g.pc + 3, stack := v.toList ++ rest }) target → Steps p.tables e below (T.setTop g) target) ∨
    (∃ (q : Addr) (vm₁ : Vm) (B : Pt), s.WarmedH vm₁ ∧ Stand p l e R s m args below meth c B.U B.locs B.cells B.slots ∧ PostX ⟨T.setVm vm₁, locs, cells, slots⟩ (Value.ref b :: argsL).toArray q B ∧
      Steps p.tables e below (T.setTop g) ((B.U.setTop { g with stack := rest }).pushFrame (.throwing q))) := by
  obtain ⟨mk, methM, hnamed, hmethM, hstM, habM⟩ := Cond.instanceMethod_spec hinst
  obtain ⟨m8, methM', cM, hn8, hmethM', -, -, -, -, -, -, hsigM⟩ := Cond.codeWith_spec hcode
  cases Option.some.inj (hn8.symm.trans hnamed)
  cases hmethM.symm.trans hmethM'
  obtain ⟨c2, r2, m2, q1, q2, q3, q4, kP, hkP, hkPi⟩ := Cond.selects_spec hsel
  cases hcls.symm.trans q1
  cases (State.methodFound?_of_named hnamed hy).symm.trans q2
  cases hnamed.symm.trans q3
  have hselP : selectMethod e.platform s.vm cellB.cls mk = .method mk := by rw [Launch.admits_selectMethod X.admits]; exact q4
  obtain ⟨vm₁, X₁, hstep₁⟩ := X.invokevirtual hexec hown hlink hnamed hmethM hstM hkP hkPi hy (a := b) (cell := cellB) hcell
    (fun z h => by rw [h] at hobj; cases hobj) hselP hmethM habM hkP hkPi (g := g) hg (argsL := argsL) (rest := rest) (hlen _ hsigM) hstack hdg
  rcases hK m meth c ⟨T.setVm vm₁, locs, cells, slots⟩ { g with stack := rest } (.invokevirtual index) mk (Value.ref b :: argsL).toArray X₁ hg hsize hdg hW (X₁.named hnamed) (hpre vm₁ X₁.warmed) with ⟨v, B, X', hpost, hsteps⟩ | ⟨q, B, X', hpost, hsteps⟩
  · exact Or.inl ⟨v, vm₁, B, X₁.warmed, X', hpost, fun target h => hstep₁ _ fun acts => by rw [doInvoke_state]; exact hsteps.trans h⟩
  · exact Or.inr ⟨q, vm₁, B, X₁.warmed, X', hpost, hstep₁ _ fun acts => by rw [doInvoke_state]; exact hsteps⟩
theorem vx_callSX (X : Stand p l e R s m args below meth c T locs cells slots) (hexec : p.tables.exec = Jvm.exec) {own : String} {index : Nat} {y : MethodName} {bytes : ByteArray} {maxL : Nat} {ret : Option FieldType} {hh : List (Nat × Nat × Nat × Nat)}
    (hown : s.vm.findClass own = some m.cls) (hlink : (Cond.methodLink own index y).before args s = true) (hstat : (Cond.static y).before args s = true) (hinit : (Cond.initialized y.cls).before args s = true)
    (hcode : (Cond.codeWith y bytes maxL ret hh).before args s = true) (hy : y.cls ≠ "java/lang/invoke/MethodHandle" ∧ y.cls ≠ "java/lang/invoke/VarHandle")
    {W9 : Nat} {Pre : Pt → Array Value → Prop} {Post : Pt → Array Value → Option Value → Pt → Prop} {PostX : Pt → Array Value → Addr → Pt → Prop} (hK : vx_Back l R p e below s args y 3 W9 Pre Post PostX)
    {g : JFrame} (hg : g.method = m) (hsize : g.locals.size = c.maxLocals) {argsL rest : List Value} (hlen : ∀ sig, parseMethodDescriptor y.desc = some sig → argsL.length = sig.parameters.length)
    (hstack : g.stack = argsL.reverse ++ rest) (hW : 2 * g.monitorRoom + (rest.map fun v => v.category).sum ≤ W9) (hdg : decode c.code g.pc = .ok (.invokestatic index, 3))
    (hpre : ∀ vm₁, s.WarmedH vm₁ → Pre ⟨T.setVm vm₁, locs, cells, slots⟩ argsL.toArray) :
    (∃ (v : Option Value) (vm₁ : Vm) (B : Pt), s.WarmedH vm₁ ∧ Stand p l e R s m args below meth c B.U B.locs B.cells B.slots ∧ Post ⟨T.setVm vm₁, locs, cells, slots⟩ argsL.toArray v B ∧
      ∀ target, Steps p.tables e below (B.U.setTop { g with pc := g.pc + 3, stack := v.toList ++ rest }) target → Steps p.tables e below (T.setTop g) target) ∨
    (∃ (q : Addr) (vm₁ : Vm) (B : Pt), s.WarmedH vm₁ ∧ Stand p l e R s m args below meth c B.U B.locs B.cells B.slots ∧ PostX ⟨T.setVm vm₁, locs, cells, slots⟩ argsL.toArray q B ∧
      Steps p.tables e below (T.setTop g) ((B.U.setTop { g with stack := rest }).pushFrame (.throwing q))) := by
  obtain ⟨mk, methM, cM, hnamed, hmethM, -, -, -, -, -, -, hsigM⟩ := Cond.codeWith_spec hcode
  have hstatic : methM.isStatic = true := Cond.static_spec hnamed hmethM hstat
  obtain ⟨kP, hkP, -⟩ := className_of_methodNamed hnamed
  have hinitP : kP.init = .initialized := Cond.initialized_spec (findClass_of_methodNamed hnamed) hkP hinit
  obtain ⟨vm₁, X₁, hstep₁⟩ := X.invokestatic hexec hown hlink hnamed hmethM hstatic hkP hinitP hy (g := g) hg (argsL := argsL) (rest := rest) (hlen _ hsigM) hstack hdg
  rcases hK m meth c ⟨T.setVm vm₁, locs, cells, slots⟩ { g with stack := rest } (.invokestatic index) mk argsL.toArray X₁ hg hsize hdg hW (X₁.named hnamed) (hpre vm₁ X₁.warmed) with ⟨v, B, X', hpost, hsteps⟩ | ⟨q, B, X', hpost, hsteps⟩
  · exact Or.inl ⟨v, vm₁, B, X₁.warmed, X', hpost, fun target h => hstep₁ _ fun acts => by rw [doInvoke_state]; exact hsteps.trans h⟩
  · exact Or.inr ⟨q, vm₁, B, X₁.warmed, X', hpost, hstep₁ _ fun acts => by rw [doInvoke_state]; exact hsteps⟩
theorem vx_callVW (X : Stand p l e R s m args below meth c T locs cells slots) (hexec : p.tables.exec = Jvm.exec) {own C : String} {index : Nat} {y : MethodName} {bytes : ByteArray} {maxL : Nat} {ret : Option FieldType} {hh : List (Nat × Nat × Nat × Nat)}
    (hown : s.vm.findClass own = some m.cls) (hlink : (Cond.methodLink own index y).before args s = true) (hinst : (Cond.instanceMethod y).before args s = true) (hsel : (Cond.selects C y y).before args s = true)
    (hcode : (Cond.codeWith y bytes maxL ret hh).before args s = true) (hy : y.cls ≠ "java/lang/invoke/MethodHandle" ∧ y.cls ≠ "java/lang/invoke/VarHandle")
    {W9 : Nat} {Pre : Pt → Array Value → Prop} {Post : Pt → Array Value → Option Value → Pt → Prop} (hK : Back l R p e below s args y 3 W9 Pre Post)
    {b : Addr} {cellB : Cell} (hcell : T.heap[b]? = some cellB) (hobj : cellB.vm.isStatics = false) (hcls : s.vm.findClass C = some cellB.cls)
    {g : JFrame} (hg : g.method = m) (hsize : g.locals.size = c.maxLocals) {argsL rest : List Value} (hlen : ∀ sig, parseMethodDescriptor y.desc = some sig → argsL.length = sig.parameters.length)
    (hstack : g.stack = argsL.reverse ++ .ref b :: rest) (hW : 2 * g.monitorRoom + (rest.map fun v => v.category).sum ≤ W9) (hdg : decode c.code g.pc = .ok (.invokevirtual index, 3))
    (hpre : ∀ vm₁, s.WarmedH vm₁ → Pre ⟨T.setVm vm₁, locs, cells, slots⟩ (Value.ref b :: argsL).toArray) :
    ∃ (v : Option Value) (vm₁ : Vm) (B : Pt), s.WarmedH vm₁ ∧ Stand p l e R s m args below meth c B.U B.locs B.cells B.slots ∧ Post ⟨T.setVm vm₁, locs, cells, slots⟩ (Value.ref b :: argsL).toArray v B ∧
      ∀ target, Steps p.tables e below (B.U.setTop { g with pc := g.pc + 3, stack := v.toList ++ rest }) target → Steps p.tables e below (T.setTop g) target := by
  obtain ⟨mk, methM, hnamed, hmethM, hstM, habM⟩ := Cond.instanceMethod_spec hinst
  obtain ⟨m8, methM', cM, hn8, hmethM', -, -, -, -, -, -, hsigM⟩ := Cond.codeWith_spec hcode
  cases Option.some.inj (hn8.symm.trans hnamed)
  cases hmethM.symm.trans hmethM'
  obtain ⟨c2, r2, m2, q1, q2, q3, q4, kP, hkP, hkPi⟩ := Cond.selects_spec hsel
  cases hcls.symm.trans q1
  cases (State.methodFound?_of_named hnamed hy).symm.trans q2
  cases hnamed.symm.trans q3
  have hselP : selectMethod e.platform s.vm cellB.cls mk = .method mk := by rw [Launch.admits_selectMethod X.admits]; exact q4
  obtain ⟨vm₁, X₁, hstep₁⟩ := X.invokevirtual hexec hown hlink hnamed hmethM hstM hkP hkPi hy (a := b) (cell := cellB) hcell
    (fun z h => by rw [h] at hobj; cases hobj) hselP hmethM habM hkP hkPi (g := g) hg (argsL := argsL) (rest := rest) (hlen _ hsigM) hstack hdg
  obtain ⟨v, B, X', hpost, hsteps⟩ := hK m meth c ⟨T.setVm vm₁, locs, cells, slots⟩ { g with stack := rest } (.invokevirtual index) mk (Value.ref b :: argsL).toArray X₁ hg hsize hdg hW (X₁.named hnamed) (hpre vm₁ X₁.warmed)
  exact ⟨v, vm₁, B, X₁.warmed, X', hpost, fun target h => hstep₁ _ fun acts => by rw [doInvoke_state]; exact hsteps.trans h⟩
abbrev vx_CVW (R : Room) (s : State) (args : Array Value) (own C : String) (index : Nat) (y : MethodName) (bytes : ByteArray) (maxL : Nat) (ret : Option FieldType) (hh : List (Nat × Nat × Nat × Nat)) (ws : List Cond) (rm : Room) (mc ms n : Nat) : Prop :=
  (rm.cells = mc ∧ rm.slots = ms ∧ rm.frames + 1 ≤ R.frames ∧ 8 + (maxL + 11) + rm.locals ≤ R.locals ∧ (∀ w ∈ ws, ∀ (a' : Array Value) (U : State), s.WarmedH U.vm → w.before a' U = true) ∧ Cond.codeWith y bytes maxL ret hh ∈ ws) ∧
  (Cond.codeWith y bytes maxL ret hh).before args s = true ∧ (Cond.initialized y.cls).before args s = true ∧ (y.cls ≠ "java/lang/invoke/MethodHandle" ∧ y.cls ≠ "java/lang/invoke/VarHandle") ∧
  (∀ sig, parseMethodDescriptor y.desc = some sig → n = sig.parameters.length) ∧ (Cond.methodLink own index y).before args s = true ∧ (Cond.instanceMethod y).before args s = true ∧ (Cond.selects C y y).before args s = true
theorem vx_cwVW {own C : String} {index maxL mc ms : Nat} {y : MethodName} {bytes : ByteArray} {ret : Option FieldType} {hh : List (Nat × Nat × Nat × Nat)} {Ts ws ws' : List Cond} {rm : Room} (n : Nat) (ht : ∀ w ∈ Ts, w.before args s = true) (hT : GoodIn Ts (wsV own index C y ws)) (hw : ws = Cond.codeWith y bytes maxL ret hh :: ws') (hrc : rm.cells = mc) (hrs : rm.slots = ms)
    (hd : y.cls = C ∧ y.cls ≠ "java/lang/invoke/MethodHandle" ∧ y.cls ≠ "java/lang/invoke/VarHandle" ∧ (parseMethodDescriptor y.desc).map (fun d => d.parameters.length) = some n) (hR : rm.frames + 1 ≤ R.frames ∧ 8 + (maxL + 11) + rm.locals ≤ R.locals) :
    vx_CVW R s args own C index y bytes maxL ret hh ws rm mc ms n := by
  obtain ⟨hC, hd⟩ := hd
  subst hC
  have ok : ∀ w ∈ wsV own index y.cls y ws, w.before args s = true := fun w h => ht w (hT w h).1
  have hG : GoodIn Ts ws := fun w h => hT w (by unfold wsV; exact List.mem_append_right _ h)
  have hc : Cond.codeWith y bytes maxL ret hh ∈ ws := by rw [hw]; exact List.mem_cons_self
  refine ⟨⟨hrc, hrs, hR.1, hR.2, pay_in ht hG, hc⟩, ht _ (hG _ hc).1, ok _ (by simp [wsV]), ⟨hd.1, hd.2.1⟩, fun sig h => ?_, ok _ (by simp [wsV]), ok _ (by simp [wsV]), ok _ (by simp [wsV])⟩
  have h2 := hd.2.2
  rw [h] at h2
  exact (Option.some.inj h2).symm
theorem vx_runVW {y : MethodName} {bytes cc : ByteArray} {maxL nL mc ms n index : Nat} {ret : Option FieldType} {hh : List (Nat × Nat × Nat × Nat)} {ws : List Cond} {rm : Room} {Pc : Array Value → State → Prop} {Qc : Array Value → State → Outcome → State → Prop} {free : Addr → Prop} {Ts : List Cond} {own C : String} {b : Addr} {As rest : List Value} {g : JFrame}
    (S : CallFix p m c cc nL s args Ts own) (hM : Met l y ws rm Pc Qc mc ms free) (cw : vx_CVW R s args own C index y bytes maxL ret hh ws rm mc ms n) (hp : PreV s H C b Pc As)
    (hg : g.method = m) (hn : As.length = n) (hsize : g.locals.size = nL) (hstack : g.stack = As.reverse ++ .ref b :: rest) (hW : 2 * g.monitorRoom + (rest.map fun v => v.category).sum ≤ 8) (hdg : decode cc g.pc = .ok (.invokevirtual index, 3)) (hf : cells + mc ≤ R.cells ∧ slots + ms ≤ R.slots) :
    va_Run p l e R s m args below meth c H locs cells slots mc ms g rest (Qc (Value.ref b :: As).toArray) free := by
  obtain ⟨⟨hrc, hrs, hfr, hlo, hws, hcw⟩, hcode, hini, hy, hlen, hl, hin, hse⟩ := cw
  have hK : Back l R p e below s args y 3 8 (PreOf R mc ms Pc) (PostOf Qc mc ms free) := va_backW (hh := hh) (bytes := bytes) (maxL := maxL) (ret := ret) hM hp.1 hrc hrs hfr hlo hws hcw (fun a' U hW => word_at hW (Or.inl (by first | rfl | simp [Cond.onTables, Cond.keeps, Cond.steady])) hini)
  obtain ⟨hx, hb, hml, ho, -⟩ := S
  obtain ⟨-, ⟨cellB, hcB, hoB, hclB⟩, hPc⟩ := hp
  intro T hT X
  obtain ⟨v, vm₁, ⟨U', l2, c2, s2⟩, hW₁, X', ⟨g', mk, t, L, e1, e2, hq, h1, hL, h2, h3⟩, st⟩ := vx_callVW X hx (C := C) (hh := hh) (bytes := bytes) (maxL := maxL) (ret := ret) ho hl hin hse hcode hy hK (by rw [hT]; exact hcB) hoB hclB hg (hsize.trans hml.symm) (argsL := As) (rest := rest) (fun sig h => hn.trans (hlen sig h)) hstack hW (by rw [hb]; exact hdg)
    (fun vm₁ hW₁ => ⟨hf.1, hf.2, hPc (T.setVm vm₁) hT hW₁⟩)
  dsimp only [Pt.U, Pt.locs, Pt.cells, Pt.slots] at X' e1 e2 h1 h2 h3 st
  subst h1; subst h2; subst h3
  exact ⟨v, (T.setVm vm₁).calling g' mk (Value.ref b :: As).toArray, t, U', L, hT, X', hL, e1, e2, hq, st⟩
section
variable {y : MethodName} {bytes cc : ByteArray} {maxL nL mc ms n index : Nat} {ret : Option FieldType} {ws : List Cond} {rm : Room} {Pc : Array Value → State → Prop} {Qc : Array Value → State → Outcome → State → Prop} {XC : String → State → State → Prop} {free : Addr → Prop} {Ts : List Cond} {own C : String} {b : Addr} {As rest : List Value} {g : JFrame}
theorem vx_runVX {hh : List (Nat × Nat × Nat × Nat)} (S : CallFix p m c cc nL s args Ts own) (hM : vx_Met l y ws rm Pc Qc XC mc ms free) (cw : vx_CVW R s args own C index y bytes maxL ret hh ws rm mc ms n) (hp : PreV s H C b Pc As)
    (hg : g.method = m) (hn : As.length = n) (hsize : g.locals.size = nL) (hstack : g.stack = As.reverse ++ .ref b :: rest) (hW : 2 * g.monitorRoom + (rest.map fun v => v.category).sum ≤ 8) (hdg : decode cc g.pc = .ok (.invokevirtual index, 3)) (hf : cells + mc ≤ R.cells ∧ slots + ms ≤ R.slots) :
    vx_Run p l e R s m args below meth c H locs cells slots mc ms g rest (Qc (Value.ref b :: As).toArray) XC free := by
  obtain ⟨⟨hrc, hrs, hfr, hlo, hws, hcw⟩, hcode, hini, hy, hlen, hl, hin, hse⟩ := cw
  have hK : vx_Back l R p e below s args y 3 8 (PreOf R mc ms Pc) (PostOf Qc mc ms free) (vx_Post XC mc ms free) := vx_backW (hh := hh) (bytes := bytes) (maxL := maxL) (ret := ret) hM hp.1 hrc hrs hfr hlo hws hcw (fun a' U hW => word_at hW (Or.inl (by first | rfl | simp [Cond.onTables, Cond.keeps, Cond.steady])) hini)
  obtain ⟨hx, hb, hml, ho, -⟩ := S
  obtain ⟨-, ⟨cellB, hcB, hoB, hclB⟩, hPc⟩ := hp
  intro T hT X
  rcases vx_callVX X hx (C := C) (hh := hh) (bytes := bytes) (maxL := maxL) (ret := ret) ho hl hin hse hcode hy hK (by rw [hT]; exact hcB) hoB hclB hg (hsize.trans hml.symm) (argsL := As) (rest := rest) (fun sig h => hn.trans (hlen sig h)) hstack hW (by rw [hb]; exact hdg)
    (fun vm₁ hW₁ => ⟨hf.1, hf.2, hPc (T.setVm vm₁) hT hW₁⟩) with ⟨v, vm₁, ⟨U', l2, c2, s2⟩, hW₁, X', ⟨g', mk, t, L, e1, e2, hq, h1, hL, h2, h3⟩, st⟩ | ⟨q, vm₁, ⟨U', l2, c2, s2⟩, hW₁, X', ⟨g', mk, t, L, E, ce, e1, e2, hq, hce, hcv, hcl, h1, hL, h2, h3⟩, st⟩
  · dsimp only [Pt.U, Pt.locs, Pt.cells, Pt.slots] at X' e1 e2 h1 h2 h3 st
    subst h1; subst h2; subst h3
    exact Or.inl ⟨v, (T.setVm vm₁).calling g' mk (Value.ref b :: As).toArray, t, U', L, hT, X', hL, e1, e2, hq, st⟩
  · dsimp only [Pt.U, Pt.locs, Pt.cells, Pt.slots] at X' e1 e2 h1 h2 h3 st hcl
    subst h1; subst h2; subst h3
    exact Or.inr ⟨q, (T.setVm vm₁).calling g' mk (Value.ref b :: As).toArray, t, U', L, E, ce, hT, X', hL, e1, e2, hq, hce, hcv, vx_cls hW₁ hcl, st⟩
theorem vx_runSX {hh : List (Nat × Nat × Nat × Nat)} (S : CallFix p m c cc nL s args Ts own) (hM : vx_Met l y ws rm Pc Qc XC mc ms free) (cw : vx_CSW R s args own index y bytes maxL ret hh ws rm mc ms n) (hp : PreS s H Pc As)
    (hg : g.method = m) (hn : As.length = n) (hsize : g.locals.size = nL) (hstack : g.stack = As.reverse ++ rest) (hW : 2 * g.monitorRoom + (rest.map fun v => v.category).sum ≤ 8) (hdg : decode cc g.pc = .ok (.invokestatic index, 3)) (hf : cells + mc ≤ R.cells ∧ slots + ms ≤ R.slots) :
    vx_Run p l e R s m args below meth c H locs cells slots mc ms g rest (Qc As.toArray) XC free := by
  obtain ⟨⟨hrc, hrs, hfr, hlo, hws, hcw⟩, hcode, hini, hy, hlen, hl, hstt⟩ := cw
  have hK : vx_Back l R p e below s args y 3 8 (PreOf R mc ms Pc) (PostOf Qc mc ms free) (vx_Post XC mc ms free) := vx_backW (hh := hh) (bytes := bytes) (maxL := maxL) (ret := ret) hM hp.1 hrc hrs hfr hlo hws hcw (fun a' U hW => word_at hW (Or.inl (by first | rfl | simp [Cond.onTables, Cond.keeps, Cond.steady])) hini)
  obtain ⟨hx, hb, hml, ho, -⟩ := S
  intro T hT X
  rcases vx_callSX X hx (hh := hh) (bytes := bytes) (maxL := maxL) (ret := ret) ho hl hstt hini hcode hy hK hg (hsize.trans hml.symm) (argsL := As) (rest := rest) (fun sig h => hn.trans (hlen sig h)) hstack hW (by rw [hb]; exact hdg)
    (fun vm₁ hW₁ => ⟨hf.1, hf.2, hp.2 (T.setVm vm₁) hT hW₁⟩) with ⟨v, vm₁, ⟨U', l2, c2, s2⟩, hW₁, X', ⟨g', mk, t, L, e1, e2, hq, h1, hL, h2, h3⟩, st⟩ | ⟨q, vm₁, ⟨U', l2, c2, s2⟩, hW₁, X', ⟨g', mk, t, L, E, ce, e1, e2, hq, hce, hcv, hcl, h1, hL, h2, h3⟩, st⟩
  · dsimp only [Pt.U, Pt.locs, Pt.cells, Pt.slots] at X' e1 e2 h1 h2 h3 st
    subst h1; subst h2; subst h3
    exact Or.inl ⟨v, (T.setVm vm₁).calling g' mk As.toArray, t, U', L, hT, X', hL, e1, e2, hq, st⟩
  · dsimp only [Pt.U, Pt.locs, Pt.cells, Pt.slots] at X' e1 e2 h1 h2 h3 st hcl
    subst h1; subst h2; subst h3
    exact Or.inr ⟨q, (T.setVm vm₁).calling g' mk As.toArray, t, U', L, E, ce, hT, X', hL, e1, e2, hq, hce, hcv, vx_cls hW₁ hcl, st⟩
end
end VXH
theorem vx_ofWH {l : Launch} {y : MethodName} {ws ws' : List Cond} {rm : Room} {Pc : Array Value → State → Prop} {Qc : Array Value → State → Outcome → State → Prop} {XC : String → State → State → Prop} {mc ms : Nat} {free : Addr → Prop} {cc : ByteArray} {maxL : Nat} {ret : Option FieldType} {hh : List (Nat × Nat × Nat × Nat)}
    (hy : plainName y.cls = true) (hw : ws = Cond.codeWith y cc maxL ret hh :: ws')
    (body : ∀ p e s m args below meth c s₁, BodyLoose p l y (headSpec ws rm) cc maxL ret e s m args below meth c s₁ → c.maxLocals = maxL → Pc args s →
      W p l e (headSpec ws rm).room s m args below meth c s.heap [] 0 0 (vx_MQ below Qc XC args s mc ms free) (entryFrame m args maxL)) : vx_Met l y ws rm Pc Qc XC mc ms free := by
  refine MetFree.of_bodyS (code := cc) (maxLocals := maxL) (ret := ret) hy ?_ ?_
  · intro args s m h hn
    obtain ⟨m9, meth, c, hn9, h1, h2, h3, h4, -, h5, h6, -⟩ := Cond.codeWith_spec (atoms_spec (ws := ws) h _ (by rw [hw]; exact List.mem_cons_self))
    cases hn.symm.trans hn9
    exact ⟨meth, c, h1, h2, h3, h4, h5, h6⟩
  · intro p e s m args below meth c s₁ B hml hP _
    have hh0 : s₁.heap = s.heap := by rw [B.state]; rfl
    obtain ⟨t, a1, o, b1, b2, b3⟩ := body p e s m args below meth c s₁ B hml hP s₁ hh0 (Stand.of_body B)
    exact ⟨t, o, a1, b1, b2, b3⟩
/-! ===== END ===== -/
end
section
/-! ===== a thrown class whose constructor calls its superclass's by another index than 7 (NoSuchElementException: 13) ===== -/
/-- the words that such a throw rests on: the first constructor by its own bytes rx, those above it as the library has them -/
def vx_ownX (own : String) (ic : Nat) (cls sup : String) (ix : Nat) (rx : ByteArray) (r : List String) : List Cond :=
  (Bundle.throwableAtoms ++ Bundle.throwableSAtoms) ++ ((Bundle.passSAtoms cls sup ix rx ++ Bundle.chainSAtoms sup r) ++
  [.methodLink own ic (Bundle.initS cls), .instantiable cls 6, .castable cls cls, .selects cls Bundle.tFill0 Bundle.tFill0, .selects cls Bundle.tFill Bundle.tFill,
   .lays cls Bundle.tN "cause" "Ljava/lang/Throwable;", .lays cls Bundle.tN "stackTrace" Bundle.steD, .lays cls Bundle.tN "suppressedExceptions" Bundle.listD, .lays cls Bundle.tN "detailMessage" "Ljava/lang/String;",
   .isRef (.static Bundle.tN "UNASSIGNED_STACK" Bundle.steD), .isRef (.static Bundle.tN "SUPPRESSED_SENTINEL" Bundle.listD),
   .fieldLink Bundle.tN 198 Bundle.tN "backtrace" "Ljava/lang/Object;", .lays Bundle.tN Bundle.tN "backtrace" "Ljava/lang/Object;", .lays cls Bundle.tN "backtrace" "Ljava/lang/Object;"])
section VXN
variable {p : Program} {l : Launch} {e : Env} {R : Room} {s : State} {m : MethodId} {args : Array Value} {below : List Frame} {meth : Method} {c : Code} {T0 : State} {locs : List Loc} {cells slots : Nat}
set_option maxHeartbeats 2000000 in
/-- the constructor's call and the throw behind it -/
theorem vx_ctorX (X : Stand p l e R s m args below meth c T0 locs cells slots) (hexec : p.tables.exec = Jvm.exec) (htr : e.platform.stackTraces = false) {own cls sup : String} {r : List String} {ic ix : Nat} {rx : ByteArray}
    (x0 : decode rx 0 = .ok (.aload_n 0, 1)) (x1 : decode rx 1 = .ok (.aload_n 1, 1)) (x2 : decode rx 2 = .ok (.invokespecial ix, 3)) (x5 : decode rx 5 = .ok (.return_, 1))
    (hown : s.vm.findClass own = some m.cls) (hcls : Bundle.fit cls = true) (hsup : Bundle.fit sup = true) (hr : ∀ n ∈ r, Bundle.fit n = true) (h : ∀ w ∈ vx_ownX own ic cls sup ix rx r, w.before args s = true)
    (hlocs : ∀ x ∈ locs, ∀ cell, s.heap[x.base]? = some cell → cell.vm.isStatics = false)
    {a : Addr} {cX : ClassId} {kX : Class} (hfX : s.vm.findClass cls = some cX) (hkX : s.vm.classes[cX]? = some kX) (hcell : T0.heap[a]? = some (freshCell cX kX)) (hnew : s.heap.size ≤ a) {msg : Value} (hmsg : msg.isRef = true)
    {g : JFrame} (hg : g.method = m) (hsize : g.locals.size = c.maxLocals) (hlocked : g.locked = none) (hentered : g.entered = []) {rest : List Value} (hstack : g.stack = msg :: .ref a :: .ref a :: rest)
    (hd6 : decode c.code g.pc = .ok (.invokespecial ic, 3)) (hd9 : decode c.code (g.pc + 3) = .ok (.athrow, 1)) (hout : ∀ x ∈ c.exceptionTable.toList, covers x (g.pc + 3) = false)
    (hRf : r.length + 4 < R.frames) (hRl : 2 * g.monitorRoom + ((Value.ref a :: rest).map fun v => v.category).sum + (13 * (r.length + 2) + 42) ≤ R.locals) (hlocks : meth.locks = false) :
    ∃ U : State, Steps p.tables e below (T0.setTop g) U ∧ U.status = .running ∧ Ended U below (.threw a) ∧ s.WarmedH U.vm ∧ s.sameButNew ({ U with vm := s.vm } : State) locs cells slots ∧ ∃ ce, U.heap[a]? = some ce ∧ ce.cls = cX ∧ ce.vm = .none := by
  have pl := X.admits.platform
  have hpl : e.platform.magicAccessors = ({} : Platform).magicAccessors := by rw [pl]
  have hw : ∀ w, w ∈ vx_ownX own ic cls sup ix rx r → w.holds args s none s [] = true := fun w hw => h w hw
  have hA : ∀ w, w ∈ Bundle.throwableAtoms → w.before args s = true := fun w q => h w (List.mem_append_left _ (List.mem_append_left _ q))
  have hB : ∀ w, w ∈ Bundle.throwableSAtoms → w.before args s = true := fun w q => h w (List.mem_append_left _ (List.mem_append_right _ q))
  have hC : ∀ w, w ∈ Bundle.passSAtoms cls sup ix rx → w.before args s = true := fun w q => h w (List.mem_append_right _ (List.mem_append_left _ (List.mem_append_left _ q)))
  have hD : ∀ w, w ∈ Bundle.chainSAtoms sup r → w.before args s = true := fun w q => h w (List.mem_append_right _ (List.mem_append_left _ (List.mem_append_right _ q)))
  obtain ⟨T, Z0, L, -, Y⟩ := ThrowableC.of_atoms (args := args) (by rw [pl]) (by rw [pl]) hpl hA
  obtain ⟨Z, M, LZ, LM, hnZ⟩ := Init0T.ofS_atoms (args := args) hpl L Y hB
  obtain ⟨P1, L1, hP1m, hP1s⟩ := PassC.ofS_atoms (args := args) (s := s) hpl (X := cls) (Y := sup) (Bundle.fit_spec hcls).1 (Bundle.fit_spec hsup).2 x0 x1 x2 x5 hC
  obtain ⟨P2, Ps, hlen, L2, hL, hP2m, hk1, hk2⟩ := Bundle.chainS (args := args) hpl hnZ r sup hsup hr hD
  have hk0 : P1.sup = P2.m := Option.some.inj (hP1s.symm.trans hP2m)
  have hfound : s.vm.findClass cls = some P1.m.cls := findClass_of_methodNamed hP1m
  cases Option.some.inj (hfX.symm.trans hfound)
  obtain ⟨c1, k1, hc1, hk, hord, -, -, -⟩ := Cond.instantiable_spec (hw (.instantiable cls 6) (by simp [vx_ownX]))
  cases Option.some.inj (hc1.symm.trans hfound)
  cases Option.some.inj (hkX.symm.trans hk)
  have hsel : ∀ (t : MethodName) (i : MethodId), s.methodNamed? t = some i → s.methodFound? t.cls t.name t.desc = some i → (Cond.selects cls t t).holds args s none s [] = true → selectMethod e.platform s.vm P1.m.cls i = .method i := by
    intro t i h1 h2 h3
    obtain ⟨c2, r2, m2, q1, q2, q3, q4, -⟩ := Cond.selects_spec h3
    cases Option.some.inj (q1.symm.trans hfound)
    cases Option.some.inj (q2.symm.trans h2)
    cases Option.some.inj (q3.symm.trans h1)
    rw [Launch.admits_selectMethod X.admits]
    exact q4
  obtain ⟨cS, hcS, hiss⟩ := Y.statics
  obtain ⟨u0, hu0⟩ := Cond.staticRefV Y.unassigned L.unassignedStatic L.statics hcS hiss (hw (.isRef (.static Bundle.tN "UNASSIGNED_STACK" Bundle.steD)) (by simp [vx_ownX]))
  obtain ⟨sen, hsen⟩ := Cond.staticRefV Y.sentinel L.sentinelStatic L.statics hcS hiss (hw (.isRef (.static Bundle.tN "SUPPRESSED_SENTINEL" Bundle.listD)) (by simp [vx_ownX]))
  obtain ⟨ciB, iB, fB, b1, b2, b3, b4, -, hnB, htB, hffB⟩ := Cond.ownField (t := .object "java/lang/Object") Y.found L.cls (by decide +kernel) (hw (.fieldLink Bundle.tN 198 Bundle.tN "backtrace" "Ljava/lang/Object;") (by simp [vx_ownX])) (hw (.lays Bundle.tN Bundle.tN "backtrace" "Ljava/lang/Object;") (by simp [vx_ownX])) e.platform hpl
  obtain ⟨cW, hcW, heW, -, hkeep⟩ := X.same.2.2.2.2.2 T.aS cS hcS
  have hno : ∀ i, (⟨T.aS, i⟩ : Loc) ∉ locs := fun i hmem => by
    have := hlocs _ hmem cS hcS
    rw [hiss] at this
    cases this
  have hkn : cW.vm ≠ .unknown := by
    rw [heW]
    intro hu
    rw [show cS.vm = .unknown from hu] at hiss
    cases hiss
  have hne : T.aS ≠ a := Nat.ne_of_lt (Nat.lt_of_lt_of_le (Array.getElem?_eq_some_iff.mp hcS).1 hnew)
  obtain ⟨iM, hffM⟩ := Y.msg
  obtain ⟨tyC, dC, hdC, ndC⟩ := Cond.laysAt hfound hk Y.cause (hw (.lays cls Bundle.tN "cause" "Ljava/lang/Throwable;") (by simp [vx_ownX]))
  obtain ⟨tyS, dS, hdS, ndS⟩ := Cond.laysAt hfound hk Y.stack (hw (.lays cls Bundle.tN "stackTrace" Bundle.steD) (by simp [vx_ownX]))
  obtain ⟨tyP, dP, hdP, ndP⟩ := Cond.laysAt hfound hk Y.supp (hw (.lays cls Bundle.tN "suppressedExceptions" Bundle.listD) (by simp [vx_ownX]))
  obtain ⟨tyM, dM, hdM, ndM⟩ := Cond.laysAt hfound hk hffM (hw (.lays cls Bundle.tN "detailMessage" "Ljava/lang/String;") (by simp [vx_ownX]))
  obtain ⟨tyB, dB, hdB, ndB⟩ := Cond.laysAt hfound hk hffB (hw (.lays cls Bundle.tN "backtrace" "Ljava/lang/Object;") (by simp [vx_ownX]))
  have aC := Cond.laysApart hdB hdC ndB ndC (by rw [hnB, Y.causeName]; decide)
  have aS := Cond.laysApart hdB hdS ndB ndS (by rw [hnB, Y.stackName]; decide)
  have aP := Cond.laysApart hdB hdP ndB ndP (by rw [hnB, Y.suppName]; decide)
  have hskip : SkipFacts T e.platform s (fun u => u) u0 ((preparedCellV T.toThrowableT (freshCell P1.m.cls kX) a u0 sen).withEntry T0.cur) := by
    refine ⟨{ ci198 := ciB, i198 := iB, fBack := fB }, ⟨b1, b2, b3, b4⟩, ?_, fun _ _ => rfl⟩
    have hb := fresh_default (c := P1.m.cls) tyB
    rw [htB] at hb
    simpa [preparedCellV, Cell.setSlot, Cell.withEntry, Array.getElem?_setIfInBounds, aC, aS, aP, aC.symm, aS.symm, aP.symm, defaultValue] using hb
  obtain ⟨tm, _, _, _, vm1, hnC, -, -, -, -, -, -, -, hW1, st1⟩ := Steps.initColdS (tb := p.tables) (e := e) (below := below) (s := s) (U := T0) X.here hexec X.warmed hpl hown (t := Bundle.initS cls) rfl rfl (Bundle.fit_spec hcls).2
    (hw (.methodLink own ic (Bundle.initS cls)) (by simp [vx_ownX])) (hC (.instanceMethod (Bundle.initS cls)) (by simp [Bundle.passSAtoms])) (bytes := rx) (maxL := 2) (hC (.code (Bundle.initS cls) rx 2 none) (by simp [Bundle.passSAtoms]))
    (f := g) hg (a := a) (msg := msg) (rest := .ref a :: rest) hstack hd6
  cases Option.some.inj (hnC.symm.trans hP1m)
  obtain ⟨vm2, X2, st2⟩ := (X.noted hW1).ctorMessageOffV hexec (g := { g with stack := .ref a :: rest }) hg hsize T L Z LZ M LM (P1 :: P2 :: Ps)
    (fun P hP => by
      rcases List.mem_cons.mp hP with rfl | hP
      · exact L1
      · rcases List.mem_cons.mp hP with rfl | hP
        · exact L2
        · exact hL P hP) ⟨hk0, hk1, hk2⟩ (u0 := u0) (sen := sen) (self := a) hmsg (cell := freshCell P1.m.cls kX) (cellS := cW)
    hcell (fun _ => by simp) (by simp) rfl rfl (hsel _ _ Y.fill0 (State.methodFound?_of_named Y.fill0 (by decide)) (hw (.selects cls Bundle.tFill0 Bundle.tFill0) (by simp [vx_ownX]))) (hsel _ _ Y.fill (State.methodFound?_of_named Y.fill (by decide)) (hw (.selects cls Bundle.tFill Bundle.tFill) (by simp [vx_ownX])))
    hcW hne hkn (by rw [hkeep _ (hno _)]; exact hu0) (by rw [hkeep _ (hno _)]; exact hsen)
    (Takes.of_laid hk hord tyC (by rw [Y.causeType]; rfl)) (Takes.of_laid hk hord tyS (by rw [Y.stackType]; exact fits_refV_array _ u0)) (Takes.of_laid hk hord tyP (by rw [Y.suppType]; exact fits_refV_object _ sen)) (Takes.of_laid hk hord tyM (by rw [Y.msgType]; exact fits_refV_object _ ⟨msg, hmsg⟩))
    Y.objLocals hskip htr [] hd6 (by simp only [List.length_cons, hlen]; omega) (by simp only [List.length_cons, hlen]; exact hRl)
  obtain ⟨hwalk, hrun, hended, hWU, hsame⟩ := X2.athrowLeaves hexec (g := { g with stack := .ref a :: rest, pc := g.pc + 3 }) hg hlocked hentered hout (a := a) (rest := rest) rfl hd9 hlocks
  have hlt : a < ((T0.setVm vm1).setVm vm2).heap.size := (Array.getElem?_eq_some_iff.mp hcell).1
  refine ⟨_, st1 _ (fun acts => ?_), hrun, hended, hWU, hsame.weaken (fun y hy hlt' => ?_) (Nat.le_refl _) (Nat.le_refl _), _, heapAt_setCell_self (s := (T0.setVm vm1).setVm vm2) (plainBareV T.toThrowableT (freshCell P1.m.cls kX) a u0 sen msg) hlt, rfl, rfl⟩
  · rw [doInvoke_state]
    exact st2 _ hwalk
  · rcases List.mem_append.mp hy with h1 | h1
    · exact h1
    · exfalso
      have hb : y.base = a := by
        simp only [List.mem_cons, List.not_mem_nil, or_false] at h1
        rcases h1 with rfl | rfl | rfl | rfl | rfl <;> rfl
      rw [hb] at hlt'
      exact Nat.not_lt.mpr hnew hlt'
end VXN
def vx_atX (own : String) (ic : Nat) (cls sup : String) (ix : Nat) (rx : ByteArray) (r : List String) : List Cond := (vx_ownX own ic cls sup ix rx r).filter vx_no
section VXM
variable {p : Program} {l : Launch} {e : Env} {R : Room} {s : State} {m : MethodId} {args : Array Value} {below : List Frame} {meth : Method} {c : Code} {H : Heap} {locs : List Loc} {cells slots : Nat} {ls : Array Slot} {rest : List Value} {Qc : Array Value → State → Outcome → State → Prop} {XC : String → State → State → Prop} {free : Addr → Prop}
/-- 'throw new E("text")': new; dup; ldc; invokespecial; athrow -/
theorem vx_throwX {cc : ByteArray} {pc : Nat} (hexec : p.tables.exec = Jvm.exec) (hb : c.code = cc) (hl : l.stackTraces = false) {own cls sup text : String} {r : List String} {ik is ic ix mc ms sa : Nat} {rx : ByteArray} {A : Nat → Prop}
    (x0 : decode rx 0 = .ok (.aload_n 0, 1)) (x1 : decode rx 1 = .ok (.aload_n 1, 1)) (x2 : decode rx 2 = .ok (.invokespecial ix, 3)) (x5 : decode rx 5 = .ok (.return_, 1))
    (hown : s.vm.findClass own = some m.cls) (hcls : Bundle.fit cls = true) (hsup : Bundle.fit sup = true) (hr : ∀ n ∈ r, Bundle.fit n = true)
    (hk : (Cond.classLink own ik cls).before args s = true) (hini : (Cond.initialized cls).before args s = true) (hstr : vk_R own is text sa s) (hat : ∀ w ∈ vx_atX own ic cls sup ix rx r, w.before args s = true)
    (hgood : ∀ w ∈ Cond.classLink own ik cls :: Cond.initialized cls :: vx_atX own ic cls sup ix rx r, vx_ot w = true)
    (hU : vx_Zq Bundle.tN "UNASSIGNED_STACK" Bundle.steD A s s.heap) (hN : vx_Zq Bundle.tN "SUPPRESSED_SENTINEL" Bundle.listD A s s.heap) (hS : va_S A s.heap H locs) (hsize : ls.size = c.maxLocals)
    (d0 : decode cc pc = .ok (.new ik, 3)) (d3 : decode cc (pc + 3) = .ok (.dup, 1)) (d4 : decode cc (pc + 4) = .ok (.ldc is, 2)) (d6 : decode cc (pc + 6) = .ok (.invokespecial ic, 3)) (d9 : decode cc (pc + 9) = .ok (.athrow, 1))
    (hout : ∀ x ∈ c.exceptionTable.toList, covers x (pc + 9) = false)
    (hRframes : r.length + 4 < R.frames) (hRlocals : (rest.map fun v => v.category).sum + (13 * (r.length + 2) + 43) ≤ R.locals) (hRcells : cells + 1 ≤ R.cells) (hRslots : slots + 6 ≤ R.slots) (hlocks : meth.locks = false)
    (hx : ∀ t : State, s.vm.Alike t.vm → H.size ≤ t.heap.size → (∀ q : Nat, q < H.size → t.heap[q]? = H[q]?) → XC cls s t)
    (hf : ∀ z ∈ locs, free z.base) (hc : cells + 1 ≤ mc) (hs : slots + 6 ≤ ms) :
    W p l e R s m args below meth c H locs cells slots (vx_MQ below Qc XC args s mc ms free) (F0 m pc ls rest) := by
  intro T hT X
  have htr : e.platform.stackTraces = false := (show e.platform.stackTraces = l.stackTraces by rw [X.admits.platform]).trans hl
  have Y := vx_rebase X (R' := { frames := R.frames, locals := R.locals, cells := 1, slots := 6 }) (Nat.le_refl _) (Nat.le_refl _) hRcells hRslots
  obtain ⟨s', hA⟩ : ∃ z, z = (T.setVm s.vm).setFrames (.invoking m args :: below) := ⟨_, rfl⟩
  rw [← hA] at Y
  have hvm : s'.vm = s.vm := by rw [hA]; rfl
  have hhp : s'.heap = H := by rw [hA]; exact hT
  have hW0 : s.WarmedH s'.vm := by rw [hvm]; exact State.WarmedH.refl s
  have hat' : ∀ w ∈ vx_atX own ic cls sup ix rx r, w.before args s' = true := fun w hw => vx_ot_at hW0 hvm.symm (hgood w (List.mem_cons_of_mem _ (List.mem_cons_of_mem _ hw))) (hat w hw)
  have hk' : (Cond.classLink own ik cls).before args s' = true := vx_ot_at hW0 hvm.symm (hgood _ List.mem_cons_self) hk
  have hini' : (Cond.initialized cls).before args s' = true := vx_ot_at hW0 hvm.symm (hgood _ (List.mem_cons_of_mem _ List.mem_cons_self)) hini
  have hU' : vx_Zq Bundle.tN "UNASSIGNED_STACK" Bundle.steD A s' s'.heap := by rw [hhp]; exact vx_Zq.moved hW0.alike (hU.kept hS.2.1)
  have hN' : vx_Zq Bundle.tN "SUPPRESSED_SENTINEL" Bundle.listD A s' s'.heap := by rw [hhp]; exact vx_Zq.moved hW0.alike (hN.kept hS.2.1)
  have h : ∀ w ∈ vx_ownX own ic cls sup ix rx r, w.before args s' = true := vx_own hat' (vx_isRefq hU'.1) (vx_isRefq hN'.1) hU'.2.word hN'.2.word
  have hown' : s'.vm.findClass own = some m.cls := by rw [hvm]; exact hown
  have hins : (Cond.instantiable cls 6).before args s' = true := h _ (by simp [vx_ownX])
  obtain ⟨vm₁, cX, kX, hfX, hkX, -, -, X₁, st1⟩ := Y.newCold hexec (own := own) (C := cls) (index := ik) (n := 6) hown' hk' hins hini'
    (g := F0 m pc ls rest) rfl (by rw [hb]; exact d0) (Nat.le_refl _) (Nat.le_refl _)
  generalize hT1 : (T.setVm vm₁).pushCell { cls := cX, slots := kX.instanceTypes.map defaultValue, vm := .none } = T1 at X₁ st1
  have hcat : (Value.ref T.heap.size).category = 1 := rfl
  have hcellA : T1.heap[T.heap.size]? = some (freshCell cX kX) := by rw [← hT1]; exact State.heap_pushCell_size _ _
  have d3' : decode c.code (pc + 3) = .ok (.dup, 1) := by rw [hb]; exact d3
  have d4' : decode c.code (pc + 4) = .ok (.ldc is, 2) := by rw [hb]; exact d4
  have hstr' : vk_R own is text sa s' := vk_R.warm hW0 hstr
  obtain ⟨U, hsteps, hrun, hend, hW, hsame, ce, hce, hO1, hO2⟩ := vx_ctorX X₁ hexec htr x0 x1 x2 x5 hown' hcls hsup hr h (fun x hx => nomatch hx) hfX hkX hcellA (by rw [hhp, hT]; exact Nat.le_refl _) (msg := .ref sa) rfl
    (g := { method := m, pc := pc + 6, locals := ls, stack := .ref sa :: .ref T.heap.size :: .ref T.heap.size :: rest, locked := none }) rfl hsize rfl rfl (rest := rest) rfl
    (by rw [hb]; exact d6) (by rw [hb]; exact d9) hout hRframes (by simp only [List.map_cons, List.sum_cons, hcat]; omega) hlocks
  obtain ⟨f1, f2⟩ := vx_frame hsame
  rw [hhp] at f1 f2
  have hWs : s.WarmedH U.vm := State.WarmedH.trans hW0 hW
  have hcl : s.vm.findClass cls = some ce.cls := by
    rw [hO1, ← hvm]
    exact hfX
  have hall : s.sameButNew ({ U with vm := s.vm } : State) locs mc ms := by
    subst hA
    obtain ⟨e1, e2⟩ := hsame
    rw [State.setFrames_setFrames] at e1
    have h2 : (T.setVm s.vm).sameButNew ({ U with vm := s.vm } : State) [] (0 + 1) (0 + 6) := ⟨e1, e2⟩
    have h3 := X.same.trans h2
    rw [List.append_nil] at h3
    exact h3.mono hc hs
  refine ⟨U, ?_, .threw T.heap.size, hrun, hend, Or.inr ⟨T.heap.size, rfl, cls, ce, locs, hx U hWs.alike f1 (fun q hq => f2 q hq (fun z hz => nomatch hz)), hce, hO2, hcl, hWs, hall, hf⟩⟩
  refine st1 _ ?_
  show Steps p.tables e below (T1.setTop { method := m, pc := pc + 3, locals := ls, stack := .ref T.heap.size :: rest, locked := none }) _
  jvm_step X₁.here [X₁.here.top, hexec, d3', Value.category]
  exact X₁.ldcString hexec (own := own) (text := text) (index := is) (a := sa) hown' hstr'.1 hstr'.2
    (g := { method := m, pc := pc + 4, locals := ls, stack := .ref T.heap.size :: .ref T.heap.size :: rest, locked := none }) rfl d4' _ hsteps
end VXM
/-- NoSuchElementException -/
def vx_atN (own : String) (ic : Nat) : List Cond := vx_atX own ic "java/util/NoSuchElementException" "java/lang/RuntimeException" 13 prog_14_method_4_code ["java/lang/Exception"]
end
section
/-! ===== BEGIN printed: names, fields, word lists, decode rows ===== -/
def RX0 : String := "KnotBand$Band"
def TX0 : u_T := fun k => match k with
  | 0 => ("KnotBand$Band", "colours", "[I", true)
  | 1 => ("KnotBand$Band", "kinds", "[I", true)
  | 2 => ("KnotBand$Band", "threads", "I", false)
  | 3 => ("KnotBand$Band", "rows", "I", false)
  | 4 => ("KnotBand$Band", "standing", "[I", true)
  | 5 => ("KnotBand$Band", "spent", "[I", true)
  | 6 => ("KnotBand$Band", "shown", "[I", true)
  | _ => ("KnotBand$Band", "repeated", "[I", true)
def tyX0 : Nat → FieldType := fun k => match k with
  | 0 => .array .int
  | 1 => .array .int
  | 2 => .int
  | 3 => .int
  | 4 => .array .int
  | 5 => .array .int
  | 6 => .array .int
  | _ => .array .int
abbrev wsX00 : List Cond := u_ws RX0 TX0 8
theorem nmX0 : ∀ a, a < 8 → ∀ b, b < 8 → a ≠ b → (TX0 a).2.1 ≠ (TX0 b).2.1 := by decide +kernel
theorem tyX0_ok : ∀ k, k < 8 → parseFieldDescriptor (TX0 k).2.2.1 = some (tyX0 k) := by decide +kernel
abbrev cX0_init : ByteArray := prog_2_method_1_code
def yX0_init : MethodName := ⟨RX0, "<init>", "()V"⟩
abbrev cX0_become : ByteArray := prog_2_method_2_code
def yX0_become : MethodName := ⟨RX0, "become", "(LKnotBand$Picture;)V"⟩
abbrev cX0_walk : ByteArray := prog_2_method_3_code
def yX0_walk : MethodName := ⟨RX0, "walk", "(I)V"⟩
abbrev cX0_walkKnot : ByteArray := prog_2_method_4_code
def yX0_walkKnot : MethodName := ⟨RX0, "walkKnot", "(II)V"⟩
abbrev cX0_timesToHome : ByteArray := prog_2_method_5_code
def yX0_timesToHome : MethodName := ⟨RX0, "timesToHome", "(Z)I"⟩
abbrev cX0_isHome : ByteArray := prog_2_method_6_code
def yX0_isHome : MethodName := ⟨RX0, "isHome", "(Z)Z"⟩
def RX1 : String := "KnotBand$Loom"
def TX1 : u_T := fun k => match k with
  | 0 => ("KnotBand$Loom", "names", "[I", true)
  | 1 => ("KnotBand$Loom", "lefts", "[I", true)
  | 2 => ("KnotBand$Loom", "wished", "[I", true)
  | 3 => ("KnotBand$Loom", "knotCount", "I", false)
  | 4 => ("KnotBand$Loom", "ahead", "[LKnotBand$Standings;", true)
  | _ => ("KnotBand$Loom", "now", "LKnotBand$Standings;", true)
def tyX1 : Nat → FieldType := fun k => match k with
  | 0 => .array .int
  | 1 => .array .int
  | 2 => .array .int
  | 3 => .int
  | 4 => .array (.object "KnotBand$Standings")
  | _ => .object "KnotBand$Standings"
abbrev wsX10 : List Cond := u_ws RX1 TX1 6
theorem nmX1 : ∀ a, a < 6 → ∀ b, b < 6 → a ≠ b → (TX1 a).2.1 ≠ (TX1 b).2.1 := by decide +kernel
theorem tyX1_ok : ∀ k, k < 6 → parseFieldDescriptor (TX1 k).2.2.1 = some (tyX1 k) := by decide +kernel
abbrev cX1_init : ByteArray := prog_3_method_1_code
def yX1_init : MethodName := ⟨RX1, "<init>", "()V"⟩
abbrev cX1_workOut : ByteArray := prog_3_method_2_code
def yX1_workOut : MethodName := ⟨RX1, "workOut", "(LKnotBand$Picture;)V"⟩
abbrev cX1_listKnots : ByteArray := prog_3_method_3_code
def yX1_listKnots : MethodName := ⟨RX1, "listKnots", "(LKnotBand$Picture;)V"⟩
abbrev cX1_workBackward : ByteArray := prog_3_method_4_code
def yX1_workBackward : MethodName := ⟨RX1, "workBackward", "()V"⟩
abbrev cX1_chooseKinds : ByteArray := prog_3_method_5_code
def yX1_chooseKinds : MethodName := ⟨RX1, "chooseKinds", "(LKnotBand$Picture;)V"⟩
abbrev cX1_leastKind : ByteArray := prog_3_method_6_code
def yX1_leastKind : MethodName := ⟨RX1, "leastKind", "(II)I"⟩
abbrev cX1_standingBehind : ByteArray := prog_3_method_7_code
def yX1_standingBehind : MethodName := ⟨RX1, "standingBehind", "(III)I"⟩
abbrev cX1_findSuspects : ByteArray := prog_3_method_8_code
def yX1_findSuspects : MethodName := ⟨RX1, "findSuspects", "(LKnotBand$Picture;)V"⟩
def RX2 : String := "KnotBand$Picture"
def TX2 : u_T := fun k => match k with
  | 0 => ("KnotBand$Picture", "told", "[I", true)
  | 1 => ("KnotBand$Picture", "toldAtFirst", "[I", true)
  | 2 => ("KnotBand$Picture", "threads", "I", false)
  | 3 => ("KnotBand$Picture", "rows", "I", false)
  | 4 => ("KnotBand$Picture", "workedOut", "Z", false)
  | 5 => ("KnotBand$Picture", "startCount", "I", false)
  | 6 => ("KnotBand$Picture", "firstStart", "I", false)
  | 7 => ("KnotBand$Picture", "kinds", "[I", true)
  | 8 => ("KnotBand$Picture", "suspects", "[I", true)
  | _ => ("KnotBand$Picture", "suspectCount", "I", false)
def tyX2 : Nat → FieldType := fun k => match k with
  | 0 => .array .int
  | 1 => .array .int
  | 2 => .int
  | 3 => .int
  | 4 => .boolean
  | 5 => .int
  | 6 => .int
  | 7 => .array .int
  | 8 => .array .int
  | _ => .int
abbrev wsX20 : List Cond := u_ws RX2 TX2 10
theorem nmX2 : ∀ a, a < 10 → ∀ b, b < 10 → a ≠ b → (TX2 a).2.1 ≠ (TX2 b).2.1 := by decide +kernel
theorem tyX2_ok : ∀ k, k < 10 → parseFieldDescriptor (TX2 k).2.2.1 = some (tyX2 k) := by decide +kernel
abbrev cX2_init : ByteArray := prog_4_method_1_code
def yX2_init : MethodName := ⟨RX2, "<init>", "()V"⟩
abbrev cX2_begin : ByteArray := prog_4_method_2_code
def yX2_begin : MethodName := ⟨RX2, "begin", "(II)V"⟩
def RX3 : String := "KnotBand$Standings"
def TX3 : u_T := fun k => match k with
  | _ => ("KnotBand$Standings", "words", "[J", true)
def tyX3 : Nat → FieldType := fun k => match k with
  | _ => .array .long
abbrev wsX30 : List Cond := u_ws RX3 TX3 1
theorem nmX3 : ∀ a, a < 1 → ∀ b, b < 1 → a ≠ b → (TX3 a).2.1 ≠ (TX3 b).2.1 := by decide +kernel
theorem tyX3_ok : ∀ k, k < 1 → parseFieldDescriptor (TX3 k).2.2.1 = some (tyX3 k) := by decide +kernel
abbrev cX3_init : ByteArray := prog_5_method_1_code
def yX3_init : MethodName := ⟨RX3, "<init>", "()V"⟩
abbrev cX3_fill : ByteArray := prog_5_method_2_code
def yX3_fill : MethodName := ⟨RX3, "fill", "()V"⟩
abbrev cX3_keep : ByteArray := prog_5_method_3_code
def yX3_keep : MethodName := ⟨RX3, "keep", "(II)V"⟩
abbrev cX3_keepEither : ByteArray := prog_5_method_4_code
def yX3_keepEither : MethodName := ⟨RX3, "keepEither", "(II)V"⟩
abbrev cX3_having : ByteArray := prog_5_method_5_code
def yX3_having : MethodName := ⟨RX3, "having", "(III)J"⟩
abbrev cX3_spread : ByteArray := prog_5_method_6_code
def yX3_spread : MethodName := ⟨RX3, "spread", "(LKnotBand$Standings;I)V"⟩
abbrev cX3_spreadBetween : ByteArray := prog_5_method_7_code
def yX3_spreadBetween : MethodName := ⟨RX3, "spreadBetween", "([JI)V"⟩
abbrev cX3_spreadAcross : ByteArray := prog_5_method_8_code
def yX3_spreadAcross : MethodName := ⟨RX3, "spreadAcross", "([J)V"⟩
abbrev cX3_spreadInside : ByteArray := prog_5_method_9_code
def yX3_spreadInside : MethodName := ⟨RX3, "spreadInside", "([J[JI)V"⟩
abbrev cX3_has : ByteArray := prog_5_method_10_code
def yX3_has : MethodName := ⟨RX3, "has", "(I)Z"⟩
abbrev cX3_countShared : ByteArray := prog_5_method_11_code
def yX3_countShared : MethodName := ⟨RX3, "countShared", "(LKnotBand$Standings;)I"⟩
abbrev cX3_firstShared : ByteArray := prog_5_method_12_code
def yX3_firstShared : MethodName := ⟨RX3, "firstShared", "(LKnotBand$Standings;)I"⟩
def RX4 : String := "KnotBand"
def TX4 : u_T := fun k => match k with
  | 0 => ("KnotBand", "bands", "[LKnotBand$Band;", true)
  | 1 => ("KnotBand", "pictures", "[LKnotBand$Picture;", true)
  | 2 => ("KnotBand", "loom", "LKnotBand$Loom;", true)
  | 3 => ("KnotBand", "bandCount", "I", false)
  | _ => ("KnotBand", "pictureCount", "I", false)
def tyX4 : Nat → FieldType := fun k => match k with
  | 0 => .array (.object "KnotBand$Band")
  | 1 => .array (.object "KnotBand$Picture")
  | 2 => .object "KnotBand$Loom"
  | 3 => .int
  | _ => .int
abbrev wsX40 : List Cond := u_ws RX4 TX4 5
theorem nmX4 : ∀ a, a < 5 → ∀ b, b < 5 → a ≠ b → (TX4 a).2.1 ≠ (TX4 b).2.1 := by decide +kernel
theorem tyX4_ok : ∀ k, k < 5 → parseFieldDescriptor (TX4 k).2.2.1 = some (tyX4 k) := by decide +kernel
abbrev cX4_init : ByteArray := prog_1_method_1_code
def yX4_init : MethodName := ⟨RX4, "<init>", "()V"⟩
abbrev cX4_band : ByteArray := prog_1_method_2_code
def yX4_band : MethodName := ⟨RX4, "band", "(I)I"⟩
abbrev cX4_colour : ByteArray := prog_1_method_3_code
def yX4_colour : MethodName := ⟨RX4, "colour", "(III)I"⟩
abbrev cX4_row : ByteArray := prog_1_method_4_code
def yX4_row : MethodName := ⟨RX4, "row", "(II)I"⟩
abbrev cX4_knot : ByteArray := prog_1_method_5_code
def yX4_knot : MethodName := ⟨RX4, "knot", "(IIII)I"⟩
abbrev cX4_shows : ByteArray := prog_1_method_6_code
def yX4_shows : MethodName := ⟨RX4, "shows", "(III)I"⟩
abbrev cX4_thread : ByteArray := prog_1_method_7_code
def yX4_thread : MethodName := ⟨RX4, "thread", "(III)I"⟩
abbrev cX4_used : ByteArray := prog_1_method_8_code
def yX4_used : MethodName := ⟨RX4, "used", "(II)I"⟩
abbrev cX4_home : ByteArray := prog_1_method_9_code
def yX4_home : MethodName := ⟨RX4, "home", "(II)I"⟩
abbrev cX4_unlike : ByteArray := prog_1_method_10_code
def yX4_unlike : MethodName := ⟨RX4, "unlike", "(II)I"⟩
abbrev cX4_picture : ByteArray := prog_1_method_11_code
def yX4_picture : MethodName := ⟨RX4, "picture", "(II)I"⟩
abbrev cX4_see : ByteArray := prog_1_method_12_code
def yX4_see : MethodName := ⟨RX4, "see", "(IIII)I"⟩
abbrev cX4_must : ByteArray := prog_1_method_13_code
def yX4_must : MethodName := ⟨RX4, "must", "(III)I"⟩
abbrev cX4_copy : ByteArray := prog_1_method_14_code
def yX4_copy : MethodName := ⟨RX4, "copy", "(II)Z"⟩
abbrev cX4_starts : ByteArray := prog_1_method_15_code
def yX4_starts : MethodName := ⟨RX4, "starts", "(I)I"⟩
abbrev cX4_start : ByteArray := prog_1_method_16_code
def yX4_start : MethodName := ⟨RX4, "start", "(II)I"⟩
abbrev cX4_tie : ByteArray := prog_1_method_17_code
def yX4_tie : MethodName := ⟨RX4, "tie", "(I)I"⟩
abbrev cX4_suspect : ByteArray := prog_1_method_18_code
def yX4_suspect : MethodName := ⟨RX4, "suspect", "(II)I"⟩
abbrev cX4_count : ByteArray := prog_1_method_19_code
def yX4_count : MethodName := ⟨RX4, "count", "(I)I"⟩
abbrev cX4_bandAt : ByteArray := prog_1_method_20_code
def yX4_bandAt : MethodName := ⟨RX4, "bandAt", "(I)LKnotBand$Band;"⟩
abbrev cX4_pictureAt : ByteArray := prog_1_method_21_code
def yX4_pictureAt : MethodName := ⟨RX4, "pictureAt", "(I)LKnotBand$Picture;"⟩
abbrev cX4_workedOutAt : ByteArray := prog_1_method_22_code
def yX4_workedOutAt : MethodName := ⟨RX4, "workedOutAt", "(I)LKnotBand$Picture;"⟩
abbrev cX4_needElement : ByteArray := prog_1_method_23_code
def yX4_needElement : MethodName := ⟨RX4, "needElement", "(II)V"⟩
abbrev cX4_needArgument : ByteArray := prog_1_method_24_code
def yX4_needArgument : MethodName := ⟨RX4, "needArgument", "(II)V"⟩
abbrev cX4_mayBeThreads : ByteArray := prog_1_method_25_code
def yX4_mayBeThreads : MethodName := ⟨RX4, "mayBeThreads", "(I)Z"⟩
abbrev cX4_knotsIn : ByteArray := prog_1_method_26_code
def yX4_knotsIn : MethodName := ⟨RX4, "knotsIn", "(II)I"⟩
abbrev cX4_leftPlaceOf : ByteArray := prog_1_method_27_code
def yX4_leftPlaceOf : MethodName := ⟨RX4, "leftPlaceOf", "(II)I"⟩
abbrev cX4_spotOf : ByteArray := prog_1_method_28_code
def yX4_spotOf : MethodName := ⟨RX4, "spotOf", "(II)I"⟩
abbrev cX4_kindIn : ByteArray := prog_1_method_29_code
def yX4_kindIn : MethodName := ⟨RX4, "kindIn", "(II)I"⟩
abbrev cX4_withKind : ByteArray := prog_1_method_30_code
def yX4_withKind : MethodName := ⟨RX4, "withKind", "(III)I"⟩
abbrev cX4_showingPlace : ByteArray := prog_1_method_31_code
def yX4_showingPlace : MethodName := ⟨RX4, "showingPlace", "(II)I"⟩
abbrev cX4_bitOf : ByteArray := prog_1_method_32_code
def yX4_bitOf : MethodName := ⟨RX4, "bitOf", "(I)I"⟩
abbrev cX4_colourIn : ByteArray := prog_1_method_33_code
def yX4_colourIn : MethodName := ⟨RX4, "colourIn", "(II)I"⟩
abbrev cX4_exchanged : ByteArray := prog_1_method_34_code
def yX4_exchanged : MethodName := ⟨RX4, "exchanged", "(II)I"⟩
def RX5 : String := "KnotBandModel"
def TX5 : u_T := fun k => match k with
  | 0 => ("KnotBandModel", "thrown", "I", false)
  | 1 => ("KnotBandModel", "bands", "I", false)
  | 2 => ("KnotBandModel", "pictures", "I", false)
  | 3 => ("KnotBandModel", "threads", "[I", true)
  | 4 => ("KnotBandModel", "rows", "[I", true)
  | 5 => ("KnotBandModel", "colours", "[I", true)
  | 6 => ("KnotBandModel", "kinds", "[I", true)
  | 7 => ("KnotBandModel", "width", "[I", true)
  | 8 => ("KnotBandModel", "high", "[I", true)
  | 9 => ("KnotBandModel", "seen", "[I", true)
  | 10 => ("KnotBandModel", "must", "[I", true)
  | 11 => ("KnotBandModel", "at", "[I", true)
  | 12 => ("KnotBandModel", "now", "[I", true)
  | 13 => ("KnotBandModel", "then", "[I", true)
  | _ => ("KnotBandModel", "can", "[Z", true)
def tyX5 : Nat → FieldType := fun k => match k with
  | 0 => .int
  | 1 => .int
  | 2 => .int
  | 3 => .array .int
  | 4 => .array .int
  | 5 => .array .int
  | 6 => .array .int
  | 7 => .array .int
  | 8 => .array .int
  | 9 => .array .int
  | 10 => .array .int
  | 11 => .array .int
  | 12 => .array .int
  | 13 => .array .int
  | _ => .array .boolean
abbrev wsX50 : List Cond := u_ws RX5 TX5 15
theorem nmX5 : ∀ a, a < 15 → ∀ b, b < 15 → a ≠ b → (TX5 a).2.1 ≠ (TX5 b).2.1 := by decide +kernel
theorem tyX5_ok : ∀ k, k < 15 → parseFieldDescriptor (TX5 k).2.2.1 = some (tyX5 k) := by decide +kernel
abbrev cX5_init : ByteArray := prog_7_method_1_code
def yX5_init : MethodName := ⟨RX5, "<init>", "()V"⟩
abbrev cX5_thrown : ByteArray := prog_7_method_2_code
def yX5_thrown : MethodName := ⟨RX5, "thrown", "()I"⟩
abbrev cX5_right : ByteArray := prog_7_method_3_code
def yX5_right : MethodName := ⟨RX5, "right", "(ZI)Z"⟩
abbrev cX5_knots : ByteArray := prog_7_method_4_code
def yX5_knots : MethodName := ⟨RX5, "knots", "(II)I"⟩
abbrev cX5_left : ByteArray := prog_7_method_5_code
def yX5_left : MethodName := ⟨RX5, "left", "(II)I"⟩
abbrev cX5_isBand : ByteArray := prog_7_method_6_code
def yX5_isBand : MethodName := ⟨RX5, "isBand", "(I)Z"⟩
abbrev cX5_band : ByteArray := prog_7_method_7_code
def yX5_band : MethodName := ⟨RX5, "band", "(I)I"⟩
abbrev cX5_colour : ByteArray := prog_7_method_8_code
def yX5_colour : MethodName := ⟨RX5, "colour", "(III)I"⟩
abbrev cX5_row : ByteArray := prog_7_method_9_code
def yX5_row : MethodName := ⟨RX5, "row", "(II)I"⟩
abbrev cX5_isKnot : ByteArray := prog_7_method_10_code
def yX5_isKnot : MethodName := ⟨RX5, "isKnot", "(III)Z"⟩
abbrev cX5_knot : ByteArray := prog_7_method_11_code
def yX5_knot : MethodName := ⟨RX5, "knot", "(IIII)I"⟩
abbrev cX5_stands : ByteArray := prog_7_method_12_code
def yX5_stands : MethodName := ⟨RX5, "stands", "(II)V"⟩
abbrev cX5_of : ByteArray := prog_7_method_13_code
def yX5_of : MethodName := ⟨RX5, "of", "(IIIZ)I"⟩
abbrev cX5_showsOf : ByteArray := prog_7_method_14_code
def yX5_showsOf : MethodName := ⟨RX5, "showsOf", "(III)I"⟩
abbrev cX5_shows : ByteArray := prog_7_method_15_code
def yX5_shows : MethodName := ⟨RX5, "shows", "(III)I"⟩
abbrev cX5_thread : ByteArray := prog_7_method_16_code
def yX5_thread : MethodName := ⟨RX5, "thread", "(III)I"⟩
abbrev cX5_used : ByteArray := prog_7_method_17_code
def yX5_used : MethodName := ⟨RX5, "used", "(II)I"⟩
abbrev cX5_home : ByteArray := prog_7_method_18_code
def yX5_home : MethodName := ⟨RX5, "home", "(II)I"⟩
abbrev cX5_unlike : ByteArray := prog_7_method_19_code
def yX5_unlike : MethodName := ⟨RX5, "unlike", "(II)I"⟩
abbrev cX5_isPicture : ByteArray := prog_7_method_20_code
def yX5_isPicture : MethodName := ⟨RX5, "isPicture", "(I)Z"⟩
abbrev cX5_picture : ByteArray := prog_7_method_21_code
def yX5_picture : MethodName := ⟨RX5, "picture", "(II)I"⟩
abbrev cX5_see : ByteArray := prog_7_method_22_code
def yX5_see : MethodName := ⟨RX5, "see", "(IIII)I"⟩
abbrev cX5_must : ByteArray := prog_7_method_23_code
def yX5_must : MethodName := ⟨RX5, "must", "(III)I"⟩
abbrev cX5_copy : ByteArray := prog_7_method_24_code
def yX5_copy : MethodName := ⟨RX5, "copy", "(II)Z"⟩
abbrev cX5_digit : ByteArray := prog_7_method_25_code
def yX5_digit : MethodName := ⟨RX5, "digit", "(III)I"⟩
abbrev cX5_swapped : ByteArray := prog_7_method_26_code
def yX5_swapped : MethodName := ⟨RX5, "swapped", "(III)I"⟩
abbrev cX5_changed : ByteArray := prog_7_method_27_code
def yX5_changed : MethodName := ⟨RX5, "changed", "(IIII)I"⟩
abbrev cX5_fits : ByteArray := prog_7_method_28_code
def yX5_fits : MethodName := ⟨RX5, "fits", "(III)Z"⟩
abbrev cX5_states : ByteArray := prog_7_method_29_code
def yX5_states : MethodName := ⟨RX5, "states", "(I)I"⟩
abbrev cX5_leadsBack : ByteArray := prog_7_method_30_code
def yX5_leadsBack : MethodName := ⟨RX5, "leadsBack", "(I)V"⟩
abbrev cX5_isStart : ByteArray := prog_7_method_31_code
def yX5_isStart : MethodName := ⟨RX5, "isStart", "(II)Z"⟩
abbrev cX5_first : ByteArray := prog_7_method_32_code
def yX5_first : MethodName := ⟨RX5, "first", "(I)I"⟩
abbrev cX5_starts : ByteArray := prog_7_method_33_code
def yX5_starts : MethodName := ⟨RX5, "starts", "(I)I"⟩
abbrev cX5_start : ByteArray := prog_7_method_34_code
def yX5_start : MethodName := ⟨RX5, "start", "(II)I"⟩
abbrev cX5_isOpen : ByteArray := prog_7_method_35_code
def yX5_isOpen : MethodName := ⟨RX5, "isOpen", "(IIIII)Z"⟩
abbrev cX5_tie : ByteArray := prog_7_method_36_code
def yX5_tie : MethodName := ⟨RX5, "tie", "(I)I"⟩
abbrev cX5_isKind : ByteArray := prog_7_method_37_code
def yX5_isKind : MethodName := ⟨RX5, "isKind", "(IIIIII)Z"⟩
abbrev cX5_suspect : ByteArray := prog_7_method_38_code
def yX5_suspect : MethodName := ⟨RX5, "suspect", "(II)I"⟩
abbrev cX5_count : ByteArray := prog_7_method_39_code
def yX5_count : MethodName := ⟨RX5, "count", "(I)I"⟩
def RJ13 : String := "java/lang/Long"
def TJ13 : u_T := fun k => match k with
  | _ => ("", "", "", false)
def tyJ13 : Nat → FieldType := fun k => match k with
  | _ => .int
abbrev wsJ130 : List Cond := u_ws RJ13 TJ13 0
theorem nmJ13 : ∀ a, a < 0 → ∀ b, b < 0 → a ≠ b → (TJ13 a).2.1 ≠ (TJ13 b).2.1 := by decide +kernel
theorem tyJ13_ok : ∀ k, k < 0 → parseFieldDescriptor (TJ13 k).2.2.1 = some (tyJ13 k) := by decide +kernel
abbrev cJ13_bitCount_95d88 : ByteArray := prog_10_method_50_code
def yJ13_bitCount_95d88 : MethodName := ⟨RJ13, "bitCount", "(J)I"⟩
def RJ0 : String := "java/lang/String"
def TJ0 : u_T := fun k => match k with
  | _ => ("", "", "", false)
def tyJ0 : Nat → FieldType := fun k => match k with
  | _ => .int
abbrev wsJ00 : List Cond := u_ws RJ0 TJ0 0
theorem nmJ0 : ∀ a, a < 0 → ∀ b, b < 0 → a ≠ b → (TJ0 a).2.1 ≠ (TJ0 b).2.1 := by decide +kernel
theorem tyJ0_ok : ∀ k, k < 0 → parseFieldDescriptor (TJ0 k).2.2.1 = some (tyJ0 k) := by decide +kernel
def RL : String := "KnotBandLaw"
abbrev cL_colour : ByteArray := method_3_code
def yL_colour : MethodName := ⟨RL, "colour", "(LKnotBand;III[J)I"⟩
abbrev cL_row : ByteArray := method_4_code
def yL_row : MethodName := ⟨RL, "row", "(LKnotBand;II[J)I"⟩
abbrev cL_knot : ByteArray := method_5_code
def yL_knot : MethodName := ⟨RL, "knot", "(LKnotBand;IIII[J)I"⟩
abbrev cL_shows : ByteArray := method_6_code
def yL_shows : MethodName := ⟨RL, "shows", "(LKnotBand;III[J)I"⟩
abbrev cL_thread : ByteArray := method_7_code
def yL_thread : MethodName := ⟨RL, "thread", "(LKnotBand;III[J)I"⟩
abbrev cL_used : ByteArray := method_8_code
def yL_used : MethodName := ⟨RL, "used", "(LKnotBand;II[J)I"⟩
abbrev cL_home : ByteArray := method_9_code
def yL_home : MethodName := ⟨RL, "home", "(LKnotBand;II[J)I"⟩
abbrev cL_unlike : ByteArray := method_10_code
def yL_unlike : MethodName := ⟨RL, "unlike", "(LKnotBand;II[J)I"⟩
abbrev cL_see : ByteArray := method_11_code
def yL_see : MethodName := ⟨RL, "see", "(LKnotBand;IIII[J)I"⟩
abbrev cL_must : ByteArray := method_12_code
def yL_must : MethodName := ⟨RL, "must", "(LKnotBand;III[J)I"⟩
abbrev cL_copy : ByteArray := method_13_code
def yL_copy : MethodName := ⟨RL, "copy", "(LKnotBand;II[J)I"⟩
abbrev cL_starts : ByteArray := method_14_code
def yL_starts : MethodName := ⟨RL, "starts", "(LKnotBand;I[J)I"⟩
abbrev cL_start : ByteArray := method_15_code
def yL_start : MethodName := ⟨RL, "start", "(LKnotBand;II[J)I"⟩
abbrev cL_tie : ByteArray := method_16_code
def yL_tie : MethodName := ⟨RL, "tie", "(LKnotBand;I[J)I"⟩
abbrev cL_suspect : ByteArray := method_17_code
def yL_suspect : MethodName := ⟨RL, "suspect", "(LKnotBand;II[J)I"⟩
abbrev cL_count : ByteArray := method_18_code
def yL_count : MethodName := ⟨RL, "count", "(LKnotBand;I[J)I"⟩
abbrev cL_law : ByteArray := code
def yL_law : MethodName := ⟨RL, "law", "([I)Z"⟩
def wsX0_init : List Cond := .code yX0_init cX0_init 1 none :: ([.methodLink RX0 3 objectInit, .instanceMethod objectInit, .code objectInit ⟨#[0xb1]⟩ 1 none, .arrayClass .int, .fieldLink RX0 9 "KnotBand$Band" "colours" "[I", .fieldLink RX0 15 "KnotBand$Band" "kinds" "[I", .fieldLink RX0 18 "KnotBand$Band" "threads" "I", .fieldLink RX0 22 "KnotBand$Band" "rows" "I", .fieldLink RX0 25 "KnotBand$Band" "standing" "[I", .fieldLink RX0 28 "KnotBand$Band" "spent" "[I", .fieldLink RX0 31 "KnotBand$Band" "shown" "[I", .fieldLink RX0 34 "KnotBand$Band" "repeated" "[I"] ++ wsX00)
def wsX4_bitOf : List Cond := .code yX4_bitOf cX4_bitOf 1 (some .int) :: ([])
def wsX4_colourIn : List Cond := .code yX4_colourIn cX4_colourIn 2 (some .int) :: ([.methodLink RX4 154 yX4_bitOf, .static yX4_bitOf, .initialized RX4, .code yX4_bitOf cX4_bitOf 1 (some .int)])
def wsX0_become : List Cond := .code yX0_become cX0_become 3 none :: ([.fieldLink RX0 18 "KnotBand$Band" "threads" "I", .fieldLink RX0 22 "KnotBand$Band" "rows" "I", .fieldLink RX0 9 "KnotBand$Band" "colours" "[I", .fieldLink RX0 15 "KnotBand$Band" "kinds" "[I", .static yX4_colourIn, .initialized RX4, .code yX4_colourIn cX4_colourIn 2 (some .int), .methodLink RX4 154 yX4_bitOf, .static yX4_bitOf, .code yX4_bitOf cX4_bitOf 1 (some .int)] ++ wsX20 ++ wsX00)
def wsX4_knotsIn : List Cond := .code yX4_knotsIn cX4_knotsIn 2 (some .int) :: ([])
def wsX4_leftPlaceOf : List Cond := .code yX4_leftPlaceOf cX4_leftPlaceOf 2 (some .int) :: ([])
def wsX4_kindIn : List Cond := .code yX4_kindIn cX4_kindIn 2 (some .int) :: ([])
def wsX4_showingPlace : List Cond := .code yX4_showingPlace cX4_showingPlace 2 (some .int) :: ([])
def wsX4_spotOf : List Cond := .code yX4_spotOf cX4_spotOf 2 (some .int) :: ([])
def wsX0_walkKnot : List Cond := .code yX0_walkKnot cX0_walkKnot 9 none :: ([.fieldLink RX0 15 "KnotBand$Band" "kinds" "[I", .fieldLink RX0 25 "KnotBand$Band" "standing" "[I", .fieldLink RX0 31 "KnotBand$Band" "shown" "[I", .fieldLink RX0 9 "KnotBand$Band" "colours" "[I", .fieldLink RX0 28 "KnotBand$Band" "spent" "[I", .static yX4_leftPlaceOf, .initialized RX4, .code yX4_leftPlaceOf cX4_leftPlaceOf 2 (some .int), .static yX4_kindIn, .code yX4_kindIn cX4_kindIn 2 (some .int), .static yX4_showingPlace, .code yX4_showingPlace cX4_showingPlace 2 (some .int), .static yX4_spotOf, .code yX4_spotOf cX4_spotOf 2 (some .int)] ++ wsX00)
def wsX0_walk : List Cond := .code yX0_walk cX0_walk 5 none :: ([.fieldLink RX0 18 "KnotBand$Band" "threads" "I", .fieldLink RX0 25 "KnotBand$Band" "standing" "[I", .fieldLink RX0 28 "KnotBand$Band" "spent" "[I", .static yX4_knotsIn, .initialized RX4, .code yX4_knotsIn cX4_knotsIn 2 (some .int), .methodLink RX0 52 yX0_walkKnot, .instanceMethod yX0_walkKnot, .selects RX0 yX0_walkKnot yX0_walkKnot, .initialized RX0, .code yX0_walkKnot cX0_walkKnot 9 none, .fieldLink RX0 15 "KnotBand$Band" "kinds" "[I", .fieldLink RX0 31 "KnotBand$Band" "shown" "[I", .fieldLink RX0 9 "KnotBand$Band" "colours" "[I", .static yX4_leftPlaceOf, .code yX4_leftPlaceOf cX4_leftPlaceOf 2 (some .int), .static yX4_kindIn, .code yX4_kindIn cX4_kindIn 2 (some .int), .static yX4_showingPlace, .code yX4_showingPlace cX4_showingPlace 2 (some .int), .static yX4_spotOf, .code yX4_spotOf cX4_spotOf 2 (some .int)] ++ wsX00)
def wsX0_isHome : List Cond := .code yX0_isHome cX0_isHome 5 (some .boolean) :: ([.fieldLink RX0 18 "KnotBand$Band" "threads" "I", .fieldLink RX0 34 "KnotBand$Band" "repeated" "[I", .fieldLink RX0 9 "KnotBand$Band" "colours" "[I"] ++ wsX00)
def wsX0_timesToHome_r1 : List Cond := [Cond.fieldLink RX0 22 "KnotBand$Band" "rows" "I", Cond.fieldLink RX0 18 "KnotBand$Band" "threads" "I", Cond.fieldLink RX0 34 "KnotBand$Band" "repeated" "[I", Cond.fieldLink RX0 25 "KnotBand$Band" "standing" "[I", Cond.methodLink RX0 68 yX0_walk, Cond.instanceMethod yX0_walk, Cond.selects RX0 yX0_walk yX0_walk, Cond.initialized RX0, Cond.code yX0_walk cX0_walk 5 none, Cond.fieldLink RX0 28 "KnotBand$Band" "spent" "[I", Cond.static yX4_knotsIn, Cond.initialized RX4, Cond.code yX4_knotsIn cX4_knotsIn 2 (some .int), Cond.methodLink RX0 52 yX0_walkKnot, Cond.instanceMethod yX0_walkKnot, Cond.selects RX0 yX0_walkKnot yX0_walkKnot, Cond.code yX0_walkKnot cX0_walkKnot 9 none, Cond.fieldLink RX0 15 "KnotBand$Band" "kinds" "[I", Cond.fieldLink RX0 31 "KnotBand$Band" "shown" "[I", Cond.fieldLink RX0 9 "KnotBand$Band" "colours" "[I", Cond.static yX4_leftPlaceOf, Cond.code yX4_leftPlaceOf cX4_leftPlaceOf 2 (some .int), Cond.static yX4_kindIn, Cond.code yX4_kindIn cX4_kindIn 2 (some .int)]
def wsX0_timesToHome_r2 : List Cond := [Cond.static yX4_showingPlace, Cond.code yX4_showingPlace cX4_showingPlace 2 (some .int), Cond.static yX4_spotOf, Cond.code yX4_spotOf cX4_spotOf 2 (some .int), Cond.methodLink RX0 72 yX0_isHome, Cond.instanceMethod yX0_isHome, Cond.selects RX0 yX0_isHome yX0_isHome, Cond.code yX0_isHome cX0_isHome 5 (some .boolean)]
def wsX0_timesToHome : List Cond := .code yX0_timesToHome cX0_timesToHome 4 (some .int) :: ((wsX0_timesToHome_r1 ++ wsX0_timesToHome_r2) ++ wsX00)
def wsX3_init : List Cond := .code yX3_init cX3_init 1 none :: ([.methodLink RX3 5 objectInit, .instanceMethod objectInit, .code objectInit ⟨#[0xb1]⟩ 1 none, .arrayClass .long, .fieldLink RX3 11 "KnotBand$Standings" "words" "[J"] ++ wsX30)
def wsX1_init : List Cond := .code yX1_init cX1_init 2 none :: ([.methodLink RX1 3 objectInit, .instanceMethod objectInit, .code objectInit ⟨#[0xb1]⟩ 1 none, .arrayClass .int, .fieldLink RX1 9 "KnotBand$Loom" "names" "[I", .fieldLink RX1 15 "KnotBand$Loom" "lefts" "[I", .fieldLink RX1 18 "KnotBand$Loom" "wished" "[I", .fieldLink RX1 21 "KnotBand$Loom" "knotCount" "I", .classLink RX1 25 RX3, .fieldLink RX1 27 "KnotBand$Loom" "ahead" "[LKnotBand$Standings;", .instantiable RX3 1, .initialized RX3, .fieldLink RX1 32 "KnotBand$Loom" "now" "LKnotBand$Standings;", .instanceMethod yX3_init, .code yX3_init cX3_init 1 none, .methodLink RX3 5 objectInit, .arrayClass .long, .fieldLink RX3 11 "KnotBand$Standings" "words" "[J"] ++ wsX10 ++ wsX30)
def wsX1_listKnots : List Cond := .code yX1_listKnots cX1_listKnots 5 none :: ([.fieldLink RX1 21 "KnotBand$Loom" "knotCount" "I", .fieldLink RX1 9 "KnotBand$Loom" "names" "[I", .fieldLink RX1 15 "KnotBand$Loom" "lefts" "[I", .fieldLink RX1 18 "KnotBand$Loom" "wished" "[I", .static yX4_knotsIn, .initialized RX4, .code yX4_knotsIn cX4_knotsIn 2 (some .int), .static yX4_leftPlaceOf, .code yX4_leftPlaceOf cX4_leftPlaceOf 2 (some .int), .static yX4_spotOf, .code yX4_spotOf cX4_spotOf 2 (some .int)] ++ wsX10 ++ wsX20)
def wsX3_fill : List Cond := .code yX3_fill cX3_fill 2 none :: ([.fieldLink RX3 11 "KnotBand$Standings" "words" "[J", .constantLong RX3 15 (-1)] ++ wsX30)
def wsX3_spreadAcross : List Cond := .code yX3_spreadAcross cX3_spreadAcross 7 none :: ([.constantLong RX3 21 (65535), .fieldLink RX3 11 "KnotBand$Standings" "words" "[J"] ++ wsX30)
def wsX3_spreadInside : List Cond := .code yX3_spreadInside cX3_spreadInside 11 none :: ([.fieldLink RX3 11 "KnotBand$Standings" "words" "[J"] ++ wsX30)
def wsX4_exchanged : List Cond := .code yX4_exchanged cX4_exchanged 3 (some .int) :: ([])
def wsX3_spreadBetween : List Cond := .code yX3_spreadBetween cX3_spreadBetween 4 none :: ([.fieldLink RX3 11 "KnotBand$Standings" "words" "[J", .static yX4_exchanged, .initialized RX4, .code yX4_exchanged cX4_exchanged 3 (some .int)] ++ wsX30)
def wsX3_spread : List Cond := .code yX3_spread cX3_spread 3 none :: ([.fieldLink RX3 11 "KnotBand$Standings" "words" "[J", .fieldLink RX3 31 "KnotBand$Standings" "PLACE_3_LESS" "[J", .fieldLink RX3 38 "KnotBand$Standings" "PLACE_4_LESS" "[J", .methodLink RX3 27 yX3_spreadAcross, .instanceMethod yX3_spreadAcross, .selects RX3 yX3_spreadAcross yX3_spreadAcross, .initialized RX3, .code yX3_spreadAcross cX3_spreadAcross 7 none, .constantLong RX3 21 (65535), .methodLink RX3 34 yX3_spreadInside, .instanceMethod yX3_spreadInside, .selects RX3 yX3_spreadInside yX3_spreadInside, .code yX3_spreadInside cX3_spreadInside 11 none, .methodLink RX3 41 yX3_spreadBetween, .instanceMethod yX3_spreadBetween, .selects RX3 yX3_spreadBetween yX3_spreadBetween, .code yX3_spreadBetween cX3_spreadBetween 4 none, .static yX4_exchanged, .initialized RX4, .code yX4_exchanged cX4_exchanged 3 (some .int)] ++ wsX30)
def wsX3_having : List Cond := .code yX3_having cX3_having 3 (some .long) :: ([.constantLong RX3 21 (65535), .constantLong RX3 23 (4222189076152335), .constantLong RX3 25 (1229782938247303441), .constantLong RX3 15 (-1)])
def wsX3_keepEither : List Cond := .code yX3_keepEither cX3_keepEither 4 none :: ([.fieldLink RX3 11 "KnotBand$Standings" "words" "[J", .methodLink RX3 17 yX3_having, .static yX3_having, .initialized RX3, .code yX3_having cX3_having 3 (some .long), .constantLong RX3 21 (65535), .constantLong RX3 23 (4222189076152335), .constantLong RX3 25 (1229782938247303441), .constantLong RX3 15 (-1)] ++ wsX30)
def wsX1_workBackward_r1 : List Cond := [Cond.fieldLink RX1 27 "KnotBand$Loom" "ahead" "[LKnotBand$Standings;", Cond.fieldLink RX1 21 "KnotBand$Loom" "knotCount" "I", Cond.fieldLink RX1 15 "KnotBand$Loom" "lefts" "[I", Cond.fieldLink RX1 18 "KnotBand$Loom" "wished" "[I", Cond.methodLink RX1 43 yX3_fill, Cond.instanceMethod yX3_fill, Cond.selects RX3 yX3_fill yX3_fill, Cond.initialized RX3, Cond.code yX3_fill cX3_fill 2 none, Cond.fieldLink RX3 11 "KnotBand$Standings" "words" "[J", Cond.constantLong RX3 15 (-1), Cond.methodLink RX1 100 yX3_spread, Cond.instanceMethod yX3_spread, Cond.selects RX3 yX3_spread yX3_spread, Cond.code yX3_spread cX3_spread 3 none, Cond.fieldLink RX3 31 "KnotBand$Standings" "PLACE_3_LESS" "[J", Cond.fieldLink RX3 38 "KnotBand$Standings" "PLACE_4_LESS" "[J", Cond.methodLink RX3 27 yX3_spreadAcross, Cond.instanceMethod yX3_spreadAcross, Cond.selects RX3 yX3_spreadAcross yX3_spreadAcross, Cond.code yX3_spreadAcross cX3_spreadAcross 7 none, Cond.constantLong RX3 21 (65535), Cond.methodLink RX3 34 yX3_spreadInside, Cond.instanceMethod yX3_spreadInside]
def wsX1_workBackward_r2 : List Cond := [Cond.selects RX3 yX3_spreadInside yX3_spreadInside, Cond.code yX3_spreadInside cX3_spreadInside 11 none, Cond.methodLink RX3 41 yX3_spreadBetween, Cond.instanceMethod yX3_spreadBetween, Cond.selects RX3 yX3_spreadBetween yX3_spreadBetween, Cond.code yX3_spreadBetween cX3_spreadBetween 4 none, Cond.static yX4_exchanged, Cond.initialized RX4, Cond.code yX4_exchanged cX4_exchanged 3 (some .int), Cond.methodLink RX1 104 yX3_keepEither, Cond.instanceMethod yX3_keepEither, Cond.selects RX3 yX3_keepEither yX3_keepEither, Cond.code yX3_keepEither cX3_keepEither 4 none, Cond.methodLink RX3 17 yX3_having, Cond.static yX3_having, Cond.code yX3_having cX3_having 3 (some .long), Cond.constantLong RX3 23 (4222189076152335), Cond.constantLong RX3 25 (1229782938247303441)]
def wsX1_workBackward : List Cond := .code yX1_workBackward cX1_workBackward 2 none :: ((wsX1_workBackward_r1 ++ wsX1_workBackward_r2) ++ wsX10 ++ wsX30)
def wsX3_keep : List Cond := .code yX3_keep cX3_keep 4 none :: ([.fieldLink RX3 11 "KnotBand$Standings" "words" "[J", .methodLink RX3 17 yX3_having, .static yX3_having, .initialized RX3, .code yX3_having cX3_having 3 (some .long), .constantLong RX3 21 (65535), .constantLong RX3 23 (4222189076152335), .constantLong RX3 25 (1229782938247303441), .constantLong RX3 15 (-1)] ++ wsX30)
def wsJ13_bitCount_95d88 : List Cond := .code yJ13_bitCount_95d88 cJ13_bitCount_95d88 2 (some .int) :: ([.constantLong RJ13 314 (6148914691236517205), .constantLong RJ13 316 (3689348814741910323), .constantLong RJ13 318 (1085102592571150095)])
def wsX3_countShared : List Cond := .code yX3_countShared cX3_countShared 4 (some .int) :: ([.fieldLink RX3 11 "KnotBand$Standings" "words" "[J", .methodLink RX3 49 yJ13_bitCount_95d88, .static yJ13_bitCount_95d88, .initialized RJ13, .code yJ13_bitCount_95d88 cJ13_bitCount_95d88 2 (some .int), .constantLong RJ13 314 (6148914691236517205), .constantLong RJ13 316 (3689348814741910323), .constantLong RJ13 318 (1085102592571150095)] ++ wsX30)
def wsX3_firstShared : List Cond := .code yX3_firstShared cX3_firstShared 6 (some .int) :: ([.fieldLink RX3 11 "KnotBand$Standings" "words" "[J"] ++ wsX30)
def wsX1_standingBehind : List Cond := .code yX1_standingBehind cX1_standingBehind 4 (some .int) :: ([.fieldLink RX1 15 "KnotBand$Loom" "lefts" "[I", .static yX4_bitOf, .initialized RX4, .code yX4_bitOf cX4_bitOf 1 (some .int), .static yX4_exchanged, .code yX4_exchanged cX4_exchanged 3 (some .int)] ++ wsX10)
def wsX3_has : List Cond := .code yX3_has cX3_has 2 (some .boolean) :: ([.fieldLink RX3 11 "KnotBand$Standings" "words" "[J"] ++ wsX30)
def wsX1_leastKind : List Cond := .code yX1_leastKind cX1_leastKind 6 (some .int) :: ([.fieldLink RX1 15 "KnotBand$Loom" "lefts" "[I", .fieldLink RX1 18 "KnotBand$Loom" "wished" "[I", .fieldLink RX1 27 "KnotBand$Loom" "ahead" "[LKnotBand$Standings;", .static yX4_showingPlace, .initialized RX4, .code yX4_showingPlace cX4_showingPlace 2 (some .int), .static yX4_colourIn, .code yX4_colourIn cX4_colourIn 2 (some .int), .methodLink RX4 154 yX4_bitOf, .static yX4_bitOf, .code yX4_bitOf cX4_bitOf 1 (some .int), .methodLink RX1 117 yX1_standingBehind, .instanceMethod yX1_standingBehind, .selects RX1 yX1_standingBehind yX1_standingBehind, .initialized RX1, .code yX1_standingBehind cX1_standingBehind 4 (some .int), .static yX4_exchanged, .code yX4_exchanged cX4_exchanged 3 (some .int), .methodLink RX1 126 yX3_has, .instanceMethod yX3_has, .selects RX3 yX3_has yX3_has, .initialized RX3, .code yX3_has cX3_has 2 (some .boolean), .fieldLink RX3 11 "KnotBand$Standings" "words" "[J"] ++ wsX10 ++ wsX30)
def wsX4_withKind : List Cond := .code yX4_withKind cX4_withKind 3 (some .int) :: ([])
def wsX1_chooseKinds_r1 : List Cond := [Cond.fieldLink RX1 21 "KnotBand$Loom" "knotCount" "I", Cond.fieldLink RX1 9 "KnotBand$Loom" "names" "[I", Cond.methodLink RX1 107 yX1_leastKind, Cond.instanceMethod yX1_leastKind, Cond.selects RX1 yX1_leastKind yX1_leastKind, Cond.initialized RX1, Cond.code yX1_leastKind cX1_leastKind 6 (some .int), Cond.fieldLink RX1 15 "KnotBand$Loom" "lefts" "[I", Cond.fieldLink RX1 18 "KnotBand$Loom" "wished" "[I", Cond.fieldLink RX1 27 "KnotBand$Loom" "ahead" "[LKnotBand$Standings;", Cond.static yX4_showingPlace, Cond.initialized RX4, Cond.code yX4_showingPlace cX4_showingPlace 2 (some .int), Cond.static yX4_colourIn, Cond.code yX4_colourIn cX4_colourIn 2 (some .int), Cond.methodLink RX4 154 yX4_bitOf, Cond.static yX4_bitOf, Cond.code yX4_bitOf cX4_bitOf 1 (some .int), Cond.methodLink RX1 117 yX1_standingBehind, Cond.instanceMethod yX1_standingBehind, Cond.selects RX1 yX1_standingBehind yX1_standingBehind, Cond.code yX1_standingBehind cX1_standingBehind 4 (some .int), Cond.static yX4_exchanged, Cond.code yX4_exchanged cX4_exchanged 3 (some .int)]
def wsX1_chooseKinds_r2 : List Cond := [Cond.methodLink RX1 126 yX3_has, Cond.instanceMethod yX3_has, Cond.selects RX3 yX3_has yX3_has, Cond.initialized RX3, Cond.code yX3_has cX3_has 2 (some .boolean), Cond.fieldLink RX3 11 "KnotBand$Standings" "words" "[J", Cond.static yX4_withKind, Cond.code yX4_withKind cX4_withKind 3 (some .int)]
def wsX1_chooseKinds : List Cond := .code yX1_chooseKinds cX1_chooseKinds 6 none :: ((wsX1_chooseKinds_r1 ++ wsX1_chooseKinds_r2) ++ wsX20 ++ wsX10 ++ wsX30)
def wsX1_findSuspects_r1 : List Cond := [Cond.fieldLink RX1 21 "KnotBand$Loom" "knotCount" "I", Cond.fieldLink RX1 32 "KnotBand$Loom" "now" "LKnotBand$Standings;", Cond.fieldLink RX1 15 "KnotBand$Loom" "lefts" "[I", Cond.fieldLink RX1 18 "KnotBand$Loom" "wished" "[I", Cond.fieldLink RX1 27 "KnotBand$Loom" "ahead" "[LKnotBand$Standings;", Cond.fieldLink RX1 9 "KnotBand$Loom" "names" "[I", Cond.methodLink RX1 100 yX3_spread, Cond.instanceMethod yX3_spread, Cond.selects RX3 yX3_spread yX3_spread, Cond.initialized RX3, Cond.code yX3_spread cX3_spread 3 none, Cond.fieldLink RX3 11 "KnotBand$Standings" "words" "[J", Cond.fieldLink RX3 31 "KnotBand$Standings" "PLACE_3_LESS" "[J", Cond.fieldLink RX3 38 "KnotBand$Standings" "PLACE_4_LESS" "[J", Cond.methodLink RX3 27 yX3_spreadAcross, Cond.instanceMethod yX3_spreadAcross, Cond.selects RX3 yX3_spreadAcross yX3_spreadAcross, Cond.code yX3_spreadAcross cX3_spreadAcross 7 none, Cond.constantLong RX3 21 (65535), Cond.methodLink RX3 34 yX3_spreadInside, Cond.instanceMethod yX3_spreadInside, Cond.selects RX3 yX3_spreadInside yX3_spreadInside, Cond.code yX3_spreadInside cX3_spreadInside 11 none, Cond.methodLink RX3 41 yX3_spreadBetween]
def wsX1_findSuspects_r2 : List Cond := [Cond.instanceMethod yX3_spreadBetween, Cond.selects RX3 yX3_spreadBetween yX3_spreadBetween, Cond.code yX3_spreadBetween cX3_spreadBetween 4 none, Cond.static yX4_exchanged, Cond.initialized RX4, Cond.code yX4_exchanged cX4_exchanged 3 (some .int), Cond.methodLink RX1 65 yX3_firstShared, Cond.instanceMethod yX3_firstShared, Cond.selects RX3 yX3_firstShared yX3_firstShared, Cond.code yX3_firstShared cX3_firstShared 6 (some .int), Cond.methodLink RX1 104 yX3_keepEither, Cond.instanceMethod yX3_keepEither, Cond.selects RX3 yX3_keepEither yX3_keepEither, Cond.code yX3_keepEither cX3_keepEither 4 none, Cond.methodLink RX3 17 yX3_having, Cond.static yX3_having, Cond.code yX3_having cX3_having 3 (some .long), Cond.constantLong RX3 23 (4222189076152335), Cond.constantLong RX3 25 (1229782938247303441), Cond.constantLong RX3 15 (-1)]
def wsX1_findSuspects : List Cond := .code yX1_findSuspects cX1_findSuspects 3 none :: ((wsX1_findSuspects_r1 ++ wsX1_findSuspects_r2) ++ wsX10 ++ wsX20 ++ wsX30)
def wsX1_workOut_r1 : List Cond := [Cond.fieldLink RX1 32 "KnotBand$Loom" "now" "LKnotBand$Standings;", Cond.fieldLink RX1 27 "KnotBand$Loom" "ahead" "[LKnotBand$Standings;", Cond.methodLink RX1 36 yX1_listKnots, Cond.instanceMethod yX1_listKnots, Cond.selects RX1 yX1_listKnots yX1_listKnots, Cond.initialized RX1, Cond.code yX1_listKnots cX1_listKnots 5 none, Cond.fieldLink RX1 21 "KnotBand$Loom" "knotCount" "I", Cond.fieldLink RX1 9 "KnotBand$Loom" "names" "[I", Cond.fieldLink RX1 15 "KnotBand$Loom" "lefts" "[I", Cond.fieldLink RX1 18 "KnotBand$Loom" "wished" "[I", Cond.static yX4_knotsIn, Cond.initialized RX4, Cond.code yX4_knotsIn cX4_knotsIn 2 (some .int), Cond.static yX4_leftPlaceOf, Cond.code yX4_leftPlaceOf cX4_leftPlaceOf 2 (some .int), Cond.static yX4_spotOf, Cond.code yX4_spotOf cX4_spotOf 2 (some .int), Cond.methodLink RX1 40 yX1_workBackward, Cond.instanceMethod yX1_workBackward, Cond.selects RX1 yX1_workBackward yX1_workBackward, Cond.code yX1_workBackward cX1_workBackward 2 none, Cond.methodLink RX1 43 yX3_fill, Cond.instanceMethod yX3_fill]
def wsX1_workOut_r2 : List Cond := [Cond.selects RX3 yX3_fill yX3_fill, Cond.initialized RX3, Cond.code yX3_fill cX3_fill 2 none, Cond.fieldLink RX3 11 "KnotBand$Standings" "words" "[J", Cond.constantLong RX3 15 (-1), Cond.methodLink RX1 100 yX3_spread, Cond.instanceMethod yX3_spread, Cond.selects RX3 yX3_spread yX3_spread, Cond.code yX3_spread cX3_spread 3 none, Cond.fieldLink RX3 31 "KnotBand$Standings" "PLACE_3_LESS" "[J", Cond.fieldLink RX3 38 "KnotBand$Standings" "PLACE_4_LESS" "[J", Cond.methodLink RX3 27 yX3_spreadAcross, Cond.instanceMethod yX3_spreadAcross, Cond.selects RX3 yX3_spreadAcross yX3_spreadAcross, Cond.code yX3_spreadAcross cX3_spreadAcross 7 none, Cond.constantLong RX3 21 (65535), Cond.methodLink RX3 34 yX3_spreadInside, Cond.instanceMethod yX3_spreadInside, Cond.selects RX3 yX3_spreadInside yX3_spreadInside, Cond.code yX3_spreadInside cX3_spreadInside 11 none, Cond.methodLink RX3 41 yX3_spreadBetween, Cond.instanceMethod yX3_spreadBetween, Cond.selects RX3 yX3_spreadBetween yX3_spreadBetween, Cond.code yX3_spreadBetween cX3_spreadBetween 4 none]
def wsX1_workOut_r3 : List Cond := [Cond.static yX4_exchanged, Cond.code yX4_exchanged cX4_exchanged 3 (some .int), Cond.methodLink RX1 104 yX3_keepEither, Cond.instanceMethod yX3_keepEither, Cond.selects RX3 yX3_keepEither yX3_keepEither, Cond.code yX3_keepEither cX3_keepEither 4 none, Cond.methodLink RX3 17 yX3_having, Cond.static yX3_having, Cond.code yX3_having cX3_having 3 (some .long), Cond.constantLong RX3 23 (4222189076152335), Cond.constantLong RX3 25 (1229782938247303441), Cond.methodLink RX1 51 yX3_keep, Cond.instanceMethod yX3_keep, Cond.selects RX3 yX3_keep yX3_keep, Cond.code yX3_keep cX3_keep 4 none, Cond.methodLink RX1 58 yX3_countShared, Cond.instanceMethod yX3_countShared, Cond.selects RX3 yX3_countShared yX3_countShared, Cond.code yX3_countShared cX3_countShared 4 (some .int), Cond.methodLink RX3 49 yJ13_bitCount_95d88, Cond.static yJ13_bitCount_95d88, Cond.initialized RJ13, Cond.code yJ13_bitCount_95d88 cJ13_bitCount_95d88 2 (some .int), Cond.constantLong RJ13 314 (6148914691236517205)]
def wsX1_workOut_r4 : List Cond := [Cond.constantLong RJ13 316 (3689348814741910323), Cond.constantLong RJ13 318 (1085102592571150095), Cond.methodLink RX1 65 yX3_firstShared, Cond.instanceMethod yX3_firstShared, Cond.selects RX3 yX3_firstShared yX3_firstShared, Cond.code yX3_firstShared cX3_firstShared 6 (some .int), Cond.methodLink RX1 71 yX1_chooseKinds, Cond.instanceMethod yX1_chooseKinds, Cond.selects RX1 yX1_chooseKinds yX1_chooseKinds, Cond.code yX1_chooseKinds cX1_chooseKinds 6 none, Cond.methodLink RX1 107 yX1_leastKind, Cond.instanceMethod yX1_leastKind, Cond.selects RX1 yX1_leastKind yX1_leastKind, Cond.code yX1_leastKind cX1_leastKind 6 (some .int), Cond.static yX4_showingPlace, Cond.code yX4_showingPlace cX4_showingPlace 2 (some .int), Cond.static yX4_colourIn, Cond.code yX4_colourIn cX4_colourIn 2 (some .int), Cond.methodLink RX4 154 yX4_bitOf, Cond.static yX4_bitOf, Cond.code yX4_bitOf cX4_bitOf 1 (some .int), Cond.methodLink RX1 117 yX1_standingBehind, Cond.instanceMethod yX1_standingBehind, Cond.selects RX1 yX1_standingBehind yX1_standingBehind]
def wsX1_workOut_r5 : List Cond := [Cond.code yX1_standingBehind cX1_standingBehind 4 (some .int), Cond.methodLink RX1 126 yX3_has, Cond.instanceMethod yX3_has, Cond.selects RX3 yX3_has yX3_has, Cond.code yX3_has cX3_has 2 (some .boolean), Cond.static yX4_withKind, Cond.code yX4_withKind cX4_withKind 3 (some .int), Cond.methodLink RX1 74 yX1_findSuspects, Cond.instanceMethod yX1_findSuspects, Cond.selects RX1 yX1_findSuspects yX1_findSuspects, Cond.code yX1_findSuspects cX1_findSuspects 3 none]
def wsX1_workOut : List Cond := .code yX1_workOut cX1_workOut 3 none :: ((wsX1_workOut_r1 ++ (wsX1_workOut_r2 ++ (wsX1_workOut_r3 ++ (wsX1_workOut_r4 ++ wsX1_workOut_r5)))) ++ wsX10 ++ wsX20 ++ wsX30)
def wsX2_init : List Cond := .code yX2_init cX2_init 1 none :: ([.methodLink RX2 3 objectInit, .instanceMethod objectInit, .code objectInit ⟨#[0xb1]⟩ 1 none, .arrayClass .int, .fieldLink RX2 9 "KnotBand$Picture" "told" "[I", .fieldLink RX2 15 "KnotBand$Picture" "toldAtFirst" "[I", .fieldLink RX2 18 "KnotBand$Picture" "threads" "I", .fieldLink RX2 22 "KnotBand$Picture" "rows" "I", .fieldLink RX2 25 "KnotBand$Picture" "workedOut" "Z", .fieldLink RX2 29 "KnotBand$Picture" "startCount" "I", .fieldLink RX2 32 "KnotBand$Picture" "firstStart" "I", .fieldLink RX2 35 "KnotBand$Picture" "kinds" "[I", .fieldLink RX2 38 "KnotBand$Picture" "suspects" "[I", .fieldLink RX2 41 "KnotBand$Picture" "suspectCount" "I"] ++ wsX20)
def wsX2_begin : List Cond := .code yX2_begin cX2_begin 4 none :: ([.fieldLink RX2 18 "KnotBand$Picture" "threads" "I", .fieldLink RX2 22 "KnotBand$Picture" "rows" "I", .fieldLink RX2 9 "KnotBand$Picture" "told" "[I", .fieldLink RX2 15 "KnotBand$Picture" "toldAtFirst" "[I"] ++ wsX20)
def wsX4_init_r1 : List Cond := [Cond.methodLink RX4 3 objectInit, Cond.instanceMethod objectInit, Cond.code objectInit ⟨#[0xb1]⟩ 1 none, Cond.classLink RX4 9 RX0, Cond.fieldLink RX4 11 "KnotBand" "bands" "[LKnotBand$Band;", Cond.classLink RX4 15 RX2, Cond.fieldLink RX4 17 "KnotBand" "pictures" "[LKnotBand$Picture;", Cond.classLink RX4 21 RX1, Cond.instantiable RX1 6, Cond.initialized RX1, Cond.fieldLink RX4 24 "KnotBand" "loom" "LKnotBand$Loom;", Cond.fieldLink RX4 28 "KnotBand" "bandCount" "I", Cond.fieldLink RX4 32 "KnotBand" "pictureCount" "I", Cond.instantiable RX0 8, Cond.initialized RX0, Cond.instantiable RX2 10, Cond.initialized RX2, Cond.methodLink RX4 23 yX1_init, Cond.instanceMethod yX1_init, Cond.code yX1_init cX1_init 2 none, Cond.methodLink RX1 3 objectInit, Cond.arrayClass .int, Cond.fieldLink RX1 9 "KnotBand$Loom" "names" "[I", Cond.fieldLink RX1 15 "KnotBand$Loom" "lefts" "[I"]
def wsX4_init_r2 : List Cond := [Cond.fieldLink RX1 18 "KnotBand$Loom" "wished" "[I", Cond.fieldLink RX1 21 "KnotBand$Loom" "knotCount" "I", Cond.classLink RX1 25 RX3, Cond.fieldLink RX1 27 "KnotBand$Loom" "ahead" "[LKnotBand$Standings;", Cond.instantiable RX3 1, Cond.initialized RX3, Cond.fieldLink RX1 32 "KnotBand$Loom" "now" "LKnotBand$Standings;", Cond.instanceMethod yX3_init, Cond.code yX3_init cX3_init 1 none, Cond.methodLink RX3 5 objectInit, Cond.arrayClass .long, Cond.fieldLink RX3 11 "KnotBand$Standings" "words" "[J", Cond.instanceMethod yX0_init, Cond.code yX0_init cX0_init 1 none, Cond.methodLink RX0 3 objectInit, Cond.fieldLink RX0 9 "KnotBand$Band" "colours" "[I", Cond.fieldLink RX0 15 "KnotBand$Band" "kinds" "[I", Cond.fieldLink RX0 18 "KnotBand$Band" "threads" "I", Cond.fieldLink RX0 22 "KnotBand$Band" "rows" "I", Cond.fieldLink RX0 25 "KnotBand$Band" "standing" "[I", Cond.fieldLink RX0 28 "KnotBand$Band" "spent" "[I", Cond.fieldLink RX0 31 "KnotBand$Band" "shown" "[I", Cond.fieldLink RX0 34 "KnotBand$Band" "repeated" "[I", Cond.instanceMethod yX2_init]
def wsX4_init_r3 : List Cond := [Cond.code yX2_init cX2_init 1 none, Cond.methodLink RX2 3 objectInit, Cond.fieldLink RX2 9 "KnotBand$Picture" "told" "[I", Cond.fieldLink RX2 15 "KnotBand$Picture" "toldAtFirst" "[I", Cond.fieldLink RX2 18 "KnotBand$Picture" "threads" "I", Cond.fieldLink RX2 22 "KnotBand$Picture" "rows" "I", Cond.fieldLink RX2 25 "KnotBand$Picture" "workedOut" "Z", Cond.fieldLink RX2 29 "KnotBand$Picture" "startCount" "I", Cond.fieldLink RX2 32 "KnotBand$Picture" "firstStart" "I", Cond.fieldLink RX2 35 "KnotBand$Picture" "kinds" "[I", Cond.fieldLink RX2 38 "KnotBand$Picture" "suspects" "[I", Cond.fieldLink RX2 41 "KnotBand$Picture" "suspectCount" "I"]
def wsX4_init : List Cond := .code yX4_init cX4_init 2 none :: ((wsX4_init_r1 ++ (wsX4_init_r2 ++ wsX4_init_r3)) ++ wsX40 ++ wsX10 ++ wsX00 ++ wsX20 ++ wsX30)
def wsX4_mayBeThreads : List Cond := .code yX4_mayBeThreads cX4_mayBeThreads 1 (some .boolean) :: ([])
def wsX4_band : List Cond := .code yX4_band cX4_band 2 (some .int) :: ([.fieldLink RX4 28 "KnotBand" "bandCount" "I", .fieldLink RX4 11 "KnotBand" "bands" "[LKnotBand$Band;", .methodLink RX4 37 yX4_mayBeThreads, .static yX4_mayBeThreads, .initialized RX4, .code yX4_mayBeThreads cX4_mayBeThreads 1 (some .boolean)] ++ wsX40 ++ wsX00)
def wsX4_needElement : List Cond := .code yX4_needElement cX4_needElement 2 none :: ([.classLink RX4 147 "java/util/NoSuchElementException", .initialized "java/util/NoSuchElementException"] ++ (vx_atN RX4 151).filter goodWord)
def wsX4_bandAt : List Cond := .code yX4_bandAt cX4_bandAt 2 (some (.object "KnotBand$Band")) :: ([.fieldLink RX4 28 "KnotBand" "bandCount" "I", .fieldLink RX4 11 "KnotBand" "bands" "[LKnotBand$Band;", .methodLink RX4 48 yX4_needElement, .static yX4_needElement, .initialized RX4, .code yX4_needElement cX4_needElement 2 none, .classLink RX4 147 "java/util/NoSuchElementException", .initialized "java/util/NoSuchElementException"] ++ wsX40 ++ (vx_atN RX4 151).filter goodWord)
def wsX4_needArgument : List Cond := .code yX4_needArgument cX4_needArgument 2 none :: ([.classLink RX4 96 "java/lang/IllegalArgumentException", .initialized "java/lang/IllegalArgumentException"] ++ (vx_atS RX4 100 "java/lang/IllegalArgumentException" ["java/lang/RuntimeException", "java/lang/Exception"]).filter goodWord)
def wsX4_colour : List Cond := .code yX4_colour cX4_colour 6 (some .int) :: ([.methodLink RX4 44 yX4_bandAt, .instanceMethod yX4_bandAt, .selects RX4 yX4_bandAt yX4_bandAt, .initialized RX4, .code yX4_bandAt cX4_bandAt 2 (some (.object "KnotBand$Band")), .fieldLink RX4 28 "KnotBand" "bandCount" "I", .fieldLink RX4 11 "KnotBand" "bands" "[LKnotBand$Band;", .methodLink RX4 48 yX4_needElement, .static yX4_needElement, .code yX4_needElement cX4_needElement 2 none, .classLink RX4 147 "java/util/NoSuchElementException", .initialized "java/util/NoSuchElementException", .methodLink RX4 52 yX4_needArgument, .static yX4_needArgument, .code yX4_needArgument cX4_needArgument 2 none, .classLink RX4 96 "java/lang/IllegalArgumentException", .initialized "java/lang/IllegalArgumentException"] ++ wsX00 ++ wsX40 ++ (vx_atN RX4 151).filter goodWord ++ (vx_atS RX4 100 "java/lang/IllegalArgumentException" ["java/lang/RuntimeException", "java/lang/Exception"]).filter goodWord)
def wsX4_row : List Cond := .code yX4_row cX4_row 4 (some .int) :: ([.methodLink RX4 44 yX4_bandAt, .instanceMethod yX4_bandAt, .selects RX4 yX4_bandAt yX4_bandAt, .initialized RX4, .code yX4_bandAt cX4_bandAt 2 (some (.object "KnotBand$Band")), .fieldLink RX4 28 "KnotBand" "bandCount" "I", .fieldLink RX4 11 "KnotBand" "bands" "[LKnotBand$Band;", .methodLink RX4 48 yX4_needElement, .static yX4_needElement, .code yX4_needElement cX4_needElement 2 none, .classLink RX4 147 "java/util/NoSuchElementException", .initialized "java/util/NoSuchElementException"] ++ wsX00 ++ wsX40 ++ (vx_atN RX4 151).filter goodWord)
def wsX4_knot_r1 : List Cond := [Cond.methodLink RX4 44 yX4_bandAt, Cond.instanceMethod yX4_bandAt, Cond.selects RX4 yX4_bandAt yX4_bandAt, Cond.initialized RX4, Cond.code yX4_bandAt cX4_bandAt 2 (some (.object "KnotBand$Band")), Cond.fieldLink RX4 28 "KnotBand" "bandCount" "I", Cond.fieldLink RX4 11 "KnotBand" "bands" "[LKnotBand$Band;", Cond.methodLink RX4 48 yX4_needElement, Cond.static yX4_needElement, Cond.code yX4_needElement cX4_needElement 2 none, Cond.classLink RX4 147 "java/util/NoSuchElementException", Cond.initialized "java/util/NoSuchElementException", Cond.methodLink RX4 65 yX4_knotsIn, Cond.static yX4_knotsIn, Cond.code yX4_knotsIn cX4_knotsIn 2 (some .int), Cond.methodLink RX4 69 yX4_kindIn, Cond.static yX4_kindIn, Cond.code yX4_kindIn cX4_kindIn 2 (some .int), Cond.methodLink RX4 52 yX4_needArgument, Cond.static yX4_needArgument, Cond.code yX4_needArgument cX4_needArgument 2 none, Cond.classLink RX4 96 "java/lang/IllegalArgumentException", Cond.initialized "java/lang/IllegalArgumentException", Cond.methodLink RX4 72 yX4_withKind]
def wsX4_knot_r2 : List Cond := [Cond.static yX4_withKind, Cond.code yX4_withKind cX4_withKind 3 (some .int)]
def wsX4_knot : List Cond := .code yX4_knot cX4_knot 7 (some .int) :: ((wsX4_knot_r1 ++ wsX4_knot_r2) ++ wsX00 ++ wsX40 ++ (vx_atN RX4 151).filter goodWord ++ (vx_atS RX4 100 "java/lang/IllegalArgumentException" ["java/lang/RuntimeException", "java/lang/Exception"]).filter goodWord)
def wsX4_shows_r1 : List Cond := [Cond.methodLink RX4 44 yX4_bandAt, Cond.instanceMethod yX4_bandAt, Cond.selects RX4 yX4_bandAt yX4_bandAt, Cond.initialized RX4, Cond.code yX4_bandAt cX4_bandAt 2 (some (.object "KnotBand$Band")), Cond.fieldLink RX4 28 "KnotBand" "bandCount" "I", Cond.fieldLink RX4 11 "KnotBand" "bands" "[LKnotBand$Band;", Cond.methodLink RX4 48 yX4_needElement, Cond.static yX4_needElement, Cond.code yX4_needElement cX4_needElement 2 none, Cond.classLink RX4 147 "java/util/NoSuchElementException", Cond.initialized "java/util/NoSuchElementException", Cond.methodLink RX4 65 yX4_knotsIn, Cond.static yX4_knotsIn, Cond.code yX4_knotsIn cX4_knotsIn 2 (some .int), Cond.methodLink RX4 76 yX0_walk, Cond.instanceMethod yX0_walk, Cond.selects RX0 yX0_walk yX0_walk, Cond.initialized RX0, Cond.code yX0_walk cX0_walk 5 none, Cond.fieldLink RX0 18 "KnotBand$Band" "threads" "I", Cond.fieldLink RX0 25 "KnotBand$Band" "standing" "[I", Cond.fieldLink RX0 28 "KnotBand$Band" "spent" "[I", Cond.methodLink RX0 52 yX0_walkKnot]
def wsX4_shows_r2 : List Cond := [Cond.instanceMethod yX0_walkKnot, Cond.selects RX0 yX0_walkKnot yX0_walkKnot, Cond.code yX0_walkKnot cX0_walkKnot 9 none, Cond.fieldLink RX0 15 "KnotBand$Band" "kinds" "[I", Cond.fieldLink RX0 31 "KnotBand$Band" "shown" "[I", Cond.fieldLink RX0 9 "KnotBand$Band" "colours" "[I", Cond.static yX4_leftPlaceOf, Cond.code yX4_leftPlaceOf cX4_leftPlaceOf 2 (some .int), Cond.static yX4_kindIn, Cond.code yX4_kindIn cX4_kindIn 2 (some .int), Cond.static yX4_showingPlace, Cond.code yX4_showingPlace cX4_showingPlace 2 (some .int), Cond.static yX4_spotOf, Cond.code yX4_spotOf cX4_spotOf 2 (some .int), Cond.methodLink RX4 83 yX4_spotOf]
def wsX4_shows : List Cond := .code yX4_shows cX4_shows 5 (some .int) :: ((wsX4_shows_r1 ++ wsX4_shows_r2) ++ wsX00 ++ wsX40 ++ (vx_atN RX4 151).filter goodWord)
def wsX4_thread_r1 : List Cond := [Cond.methodLink RX4 44 yX4_bandAt, Cond.instanceMethod yX4_bandAt, Cond.selects RX4 yX4_bandAt yX4_bandAt, Cond.initialized RX4, Cond.code yX4_bandAt cX4_bandAt 2 (some (.object "KnotBand$Band")), Cond.fieldLink RX4 28 "KnotBand" "bandCount" "I", Cond.fieldLink RX4 11 "KnotBand" "bands" "[LKnotBand$Band;", Cond.methodLink RX4 48 yX4_needElement, Cond.static yX4_needElement, Cond.code yX4_needElement cX4_needElement 2 none, Cond.classLink RX4 147 "java/util/NoSuchElementException", Cond.initialized "java/util/NoSuchElementException", Cond.methodLink RX4 76 yX0_walk, Cond.instanceMethod yX0_walk, Cond.selects RX0 yX0_walk yX0_walk, Cond.initialized RX0, Cond.code yX0_walk cX0_walk 5 none, Cond.fieldLink RX0 18 "KnotBand$Band" "threads" "I", Cond.fieldLink RX0 25 "KnotBand$Band" "standing" "[I", Cond.fieldLink RX0 28 "KnotBand$Band" "spent" "[I", Cond.static yX4_knotsIn, Cond.code yX4_knotsIn cX4_knotsIn 2 (some .int), Cond.methodLink RX0 52 yX0_walkKnot, Cond.instanceMethod yX0_walkKnot]
def wsX4_thread_r2 : List Cond := [Cond.selects RX0 yX0_walkKnot yX0_walkKnot, Cond.code yX0_walkKnot cX0_walkKnot 9 none, Cond.fieldLink RX0 15 "KnotBand$Band" "kinds" "[I", Cond.fieldLink RX0 31 "KnotBand$Band" "shown" "[I", Cond.fieldLink RX0 9 "KnotBand$Band" "colours" "[I", Cond.static yX4_leftPlaceOf, Cond.code yX4_leftPlaceOf cX4_leftPlaceOf 2 (some .int), Cond.static yX4_kindIn, Cond.code yX4_kindIn cX4_kindIn 2 (some .int), Cond.static yX4_showingPlace, Cond.code yX4_showingPlace cX4_showingPlace 2 (some .int), Cond.static yX4_spotOf, Cond.code yX4_spotOf cX4_spotOf 2 (some .int)]
def wsX4_thread : List Cond := .code yX4_thread cX4_thread 5 (some .int) :: ((wsX4_thread_r1 ++ wsX4_thread_r2) ++ wsX00 ++ wsX40 ++ (vx_atN RX4 151).filter goodWord)
def wsX4_used_r1 : List Cond := [Cond.methodLink RX4 44 yX4_bandAt, Cond.instanceMethod yX4_bandAt, Cond.selects RX4 yX4_bandAt yX4_bandAt, Cond.initialized RX4, Cond.code yX4_bandAt cX4_bandAt 2 (some (.object "KnotBand$Band")), Cond.fieldLink RX4 28 "KnotBand" "bandCount" "I", Cond.fieldLink RX4 11 "KnotBand" "bands" "[LKnotBand$Band;", Cond.methodLink RX4 48 yX4_needElement, Cond.static yX4_needElement, Cond.code yX4_needElement cX4_needElement 2 none, Cond.classLink RX4 147 "java/util/NoSuchElementException", Cond.initialized "java/util/NoSuchElementException", Cond.methodLink RX4 76 yX0_walk, Cond.instanceMethod yX0_walk, Cond.selects RX0 yX0_walk yX0_walk, Cond.initialized RX0, Cond.code yX0_walk cX0_walk 5 none, Cond.fieldLink RX0 18 "KnotBand$Band" "threads" "I", Cond.fieldLink RX0 25 "KnotBand$Band" "standing" "[I", Cond.fieldLink RX0 28 "KnotBand$Band" "spent" "[I", Cond.static yX4_knotsIn, Cond.code yX4_knotsIn cX4_knotsIn 2 (some .int), Cond.methodLink RX0 52 yX0_walkKnot, Cond.instanceMethod yX0_walkKnot]
def wsX4_used_r2 : List Cond := [Cond.selects RX0 yX0_walkKnot yX0_walkKnot, Cond.code yX0_walkKnot cX0_walkKnot 9 none, Cond.fieldLink RX0 15 "KnotBand$Band" "kinds" "[I", Cond.fieldLink RX0 31 "KnotBand$Band" "shown" "[I", Cond.fieldLink RX0 9 "KnotBand$Band" "colours" "[I", Cond.static yX4_leftPlaceOf, Cond.code yX4_leftPlaceOf cX4_leftPlaceOf 2 (some .int), Cond.static yX4_kindIn, Cond.code yX4_kindIn cX4_kindIn 2 (some .int), Cond.static yX4_showingPlace, Cond.code yX4_showingPlace cX4_showingPlace 2 (some .int), Cond.static yX4_spotOf, Cond.code yX4_spotOf cX4_spotOf 2 (some .int)]
def wsX4_used : List Cond := .code yX4_used cX4_used 4 (some .int) :: ((wsX4_used_r1 ++ wsX4_used_r2) ++ wsX00 ++ wsX40 ++ (vx_atN RX4 151).filter goodWord)
def wsX4_home_r1 : List Cond := [Cond.methodLink RX4 44 yX4_bandAt, Cond.instanceMethod yX4_bandAt, Cond.selects RX4 yX4_bandAt yX4_bandAt, Cond.initialized RX4, Cond.code yX4_bandAt cX4_bandAt 2 (some (.object "KnotBand$Band")), Cond.fieldLink RX4 28 "KnotBand" "bandCount" "I", Cond.fieldLink RX4 11 "KnotBand" "bands" "[LKnotBand$Band;", Cond.methodLink RX4 48 yX4_needElement, Cond.static yX4_needElement, Cond.code yX4_needElement cX4_needElement 2 none, Cond.classLink RX4 147 "java/util/NoSuchElementException", Cond.initialized "java/util/NoSuchElementException", Cond.methodLink RX4 92 yX0_timesToHome, Cond.instanceMethod yX0_timesToHome, Cond.selects RX0 yX0_timesToHome yX0_timesToHome, Cond.initialized RX0, Cond.code yX0_timesToHome cX0_timesToHome 4 (some .int), Cond.fieldLink RX0 22 "KnotBand$Band" "rows" "I", Cond.fieldLink RX0 18 "KnotBand$Band" "threads" "I", Cond.fieldLink RX0 34 "KnotBand$Band" "repeated" "[I", Cond.fieldLink RX0 25 "KnotBand$Band" "standing" "[I", Cond.methodLink RX0 68 yX0_walk, Cond.instanceMethod yX0_walk, Cond.selects RX0 yX0_walk yX0_walk]
def wsX4_home_r2 : List Cond := [Cond.code yX0_walk cX0_walk 5 none, Cond.fieldLink RX0 28 "KnotBand$Band" "spent" "[I", Cond.static yX4_knotsIn, Cond.code yX4_knotsIn cX4_knotsIn 2 (some .int), Cond.methodLink RX0 52 yX0_walkKnot, Cond.instanceMethod yX0_walkKnot, Cond.selects RX0 yX0_walkKnot yX0_walkKnot, Cond.code yX0_walkKnot cX0_walkKnot 9 none, Cond.fieldLink RX0 15 "KnotBand$Band" "kinds" "[I", Cond.fieldLink RX0 31 "KnotBand$Band" "shown" "[I", Cond.fieldLink RX0 9 "KnotBand$Band" "colours" "[I", Cond.static yX4_leftPlaceOf, Cond.code yX4_leftPlaceOf cX4_leftPlaceOf 2 (some .int), Cond.static yX4_kindIn, Cond.code yX4_kindIn cX4_kindIn 2 (some .int), Cond.static yX4_showingPlace, Cond.code yX4_showingPlace cX4_showingPlace 2 (some .int), Cond.static yX4_spotOf, Cond.code yX4_spotOf cX4_spotOf 2 (some .int), Cond.methodLink RX0 72 yX0_isHome, Cond.instanceMethod yX0_isHome, Cond.selects RX0 yX0_isHome yX0_isHome, Cond.code yX0_isHome cX0_isHome 5 (some .boolean)]
def wsX4_home : List Cond := .code yX4_home cX4_home 4 (some .int) :: ((wsX4_home_r1 ++ wsX4_home_r2) ++ wsX00 ++ wsX40 ++ (vx_atN RX4 151).filter goodWord)
def wsX4_unlike_r1 : List Cond := [Cond.classLink RX4 96 "java/lang/IllegalArgumentException", Cond.initialized "java/lang/IllegalArgumentException", Cond.methodLink RX4 44 yX4_bandAt, Cond.instanceMethod yX4_bandAt, Cond.selects RX4 yX4_bandAt yX4_bandAt, Cond.initialized RX4, Cond.code yX4_bandAt cX4_bandAt 2 (some (.object "KnotBand$Band")), Cond.fieldLink RX4 28 "KnotBand" "bandCount" "I", Cond.fieldLink RX4 11 "KnotBand" "bands" "[LKnotBand$Band;", Cond.methodLink RX4 48 yX4_needElement, Cond.static yX4_needElement, Cond.code yX4_needElement cX4_needElement 2 none, Cond.classLink RX4 147 "java/util/NoSuchElementException", Cond.initialized "java/util/NoSuchElementException", Cond.methodLink RX4 76 yX0_walk, Cond.instanceMethod yX0_walk, Cond.selects RX0 yX0_walk yX0_walk, Cond.initialized RX0, Cond.code yX0_walk cX0_walk 5 none, Cond.fieldLink RX0 18 "KnotBand$Band" "threads" "I", Cond.fieldLink RX0 25 "KnotBand$Band" "standing" "[I", Cond.fieldLink RX0 28 "KnotBand$Band" "spent" "[I", Cond.static yX4_knotsIn, Cond.code yX4_knotsIn cX4_knotsIn 2 (some .int)]
def wsX4_unlike_r2 : List Cond := [Cond.methodLink RX0 52 yX0_walkKnot, Cond.instanceMethod yX0_walkKnot, Cond.selects RX0 yX0_walkKnot yX0_walkKnot, Cond.code yX0_walkKnot cX0_walkKnot 9 none, Cond.fieldLink RX0 15 "KnotBand$Band" "kinds" "[I", Cond.fieldLink RX0 31 "KnotBand$Band" "shown" "[I", Cond.fieldLink RX0 9 "KnotBand$Band" "colours" "[I", Cond.static yX4_leftPlaceOf, Cond.code yX4_leftPlaceOf cX4_leftPlaceOf 2 (some .int), Cond.static yX4_kindIn, Cond.code yX4_kindIn cX4_kindIn 2 (some .int), Cond.static yX4_showingPlace, Cond.code yX4_showingPlace cX4_showingPlace 2 (some .int), Cond.static yX4_spotOf, Cond.code yX4_spotOf cX4_spotOf 2 (some .int), Cond.methodLink RX4 65 yX4_knotsIn, Cond.methodLink RX4 83 yX4_spotOf]
def wsX4_unlike : List Cond := .code yX4_unlike cX4_unlike 10 (some .int) :: ((wsX4_unlike_r1 ++ wsX4_unlike_r2) ++ wsX00 ++ wsX40 ++ (vx_atS RX4 100 "java/lang/IllegalArgumentException" ["java/lang/RuntimeException", "java/lang/Exception"]).filter goodWord ++ (vx_atN RX4 151).filter goodWord)
def wsX4_picture : List Cond := .code yX4_picture cX4_picture 3 (some .int) :: ([.fieldLink RX4 32 "KnotBand" "pictureCount" "I", .fieldLink RX4 17 "KnotBand" "pictures" "[LKnotBand$Picture;", .methodLink RX4 37 yX4_mayBeThreads, .static yX4_mayBeThreads, .initialized RX4, .code yX4_mayBeThreads cX4_mayBeThreads 1 (some .boolean), .methodLink RX4 103 yX2_begin, .instanceMethod yX2_begin, .selects RX2 yX2_begin yX2_begin, .initialized RX2, .code yX2_begin cX2_begin 4 none, .fieldLink RX2 18 "KnotBand$Picture" "threads" "I", .fieldLink RX2 22 "KnotBand$Picture" "rows" "I", .fieldLink RX2 9 "KnotBand$Picture" "told" "[I", .fieldLink RX2 15 "KnotBand$Picture" "toldAtFirst" "[I"] ++ wsX40 ++ wsX20)
def wsX4_pictureAt : List Cond := .code yX4_pictureAt cX4_pictureAt 2 (some (.object "KnotBand$Picture")) :: ([.fieldLink RX4 32 "KnotBand" "pictureCount" "I", .fieldLink RX4 17 "KnotBand" "pictures" "[LKnotBand$Picture;", .methodLink RX4 48 yX4_needElement, .static yX4_needElement, .initialized RX4, .code yX4_needElement cX4_needElement 2 none, .classLink RX4 147 "java/util/NoSuchElementException", .initialized "java/util/NoSuchElementException"] ++ wsX40 ++ (vx_atN RX4 151).filter goodWord)
def wsX4_see : List Cond := .code yX4_see cX4_see 8 (some .int) :: ([.methodLink RX4 106 yX4_pictureAt, .instanceMethod yX4_pictureAt, .selects RX4 yX4_pictureAt yX4_pictureAt, .initialized RX4, .code yX4_pictureAt cX4_pictureAt 2 (some (.object "KnotBand$Picture")), .fieldLink RX4 32 "KnotBand" "pictureCount" "I", .fieldLink RX4 17 "KnotBand" "pictures" "[LKnotBand$Picture;", .methodLink RX4 48 yX4_needElement, .static yX4_needElement, .code yX4_needElement cX4_needElement 2 none, .classLink RX4 147 "java/util/NoSuchElementException", .initialized "java/util/NoSuchElementException", .methodLink RX4 65 yX4_knotsIn, .static yX4_knotsIn, .code yX4_knotsIn cX4_knotsIn 2 (some .int), .methodLink RX4 52 yX4_needArgument, .static yX4_needArgument, .code yX4_needArgument cX4_needArgument 2 none, .classLink RX4 96 "java/lang/IllegalArgumentException", .initialized "java/lang/IllegalArgumentException", .methodLink RX4 83 yX4_spotOf, .static yX4_spotOf, .code yX4_spotOf cX4_spotOf 2 (some .int)] ++ wsX20 ++ wsX40 ++ (vx_atN RX4 151).filter goodWord ++ (vx_atS RX4 100 "java/lang/IllegalArgumentException" ["java/lang/RuntimeException", "java/lang/Exception"]).filter goodWord)
def wsX4_must : List Cond := .code yX4_must cX4_must 6 (some .int) :: ([.methodLink RX4 106 yX4_pictureAt, .instanceMethod yX4_pictureAt, .selects RX4 yX4_pictureAt yX4_pictureAt, .initialized RX4, .code yX4_pictureAt cX4_pictureAt 2 (some (.object "KnotBand$Picture")), .fieldLink RX4 32 "KnotBand" "pictureCount" "I", .fieldLink RX4 17 "KnotBand" "pictures" "[LKnotBand$Picture;", .methodLink RX4 48 yX4_needElement, .static yX4_needElement, .code yX4_needElement cX4_needElement 2 none, .classLink RX4 147 "java/util/NoSuchElementException", .initialized "java/util/NoSuchElementException", .methodLink RX4 52 yX4_needArgument, .static yX4_needArgument, .code yX4_needArgument cX4_needArgument 2 none, .classLink RX4 96 "java/lang/IllegalArgumentException", .initialized "java/lang/IllegalArgumentException"] ++ wsX20 ++ wsX40 ++ (vx_atN RX4 151).filter goodWord ++ (vx_atS RX4 100 "java/lang/IllegalArgumentException" ["java/lang/RuntimeException", "java/lang/Exception"]).filter goodWord)
def wsX4_copy_r1 : List Cond := [Cond.methodLink RX4 106 yX4_pictureAt, Cond.instanceMethod yX4_pictureAt, Cond.selects RX4 yX4_pictureAt yX4_pictureAt, Cond.initialized RX4, Cond.code yX4_pictureAt cX4_pictureAt 2 (some (.object "KnotBand$Picture")), Cond.fieldLink RX4 32 "KnotBand" "pictureCount" "I", Cond.fieldLink RX4 17 "KnotBand" "pictures" "[LKnotBand$Picture;", Cond.methodLink RX4 48 yX4_needElement, Cond.static yX4_needElement, Cond.code yX4_needElement cX4_needElement 2 none, Cond.classLink RX4 147 "java/util/NoSuchElementException", Cond.initialized "java/util/NoSuchElementException", Cond.methodLink RX4 44 yX4_bandAt, Cond.instanceMethod yX4_bandAt, Cond.selects RX4 yX4_bandAt yX4_bandAt, Cond.code yX4_bandAt cX4_bandAt 2 (some (.object "KnotBand$Band")), Cond.fieldLink RX4 28 "KnotBand" "bandCount" "I", Cond.fieldLink RX4 11 "KnotBand" "bands" "[LKnotBand$Band;", Cond.methodLink RX4 76 yX0_walk, Cond.instanceMethod yX0_walk, Cond.selects RX0 yX0_walk yX0_walk, Cond.initialized RX0, Cond.code yX0_walk cX0_walk 5 none, Cond.fieldLink RX0 18 "KnotBand$Band" "threads" "I"]
def wsX4_copy_r2 : List Cond := [Cond.fieldLink RX0 25 "KnotBand$Band" "standing" "[I", Cond.fieldLink RX0 28 "KnotBand$Band" "spent" "[I", Cond.static yX4_knotsIn, Cond.code yX4_knotsIn cX4_knotsIn 2 (some .int), Cond.methodLink RX0 52 yX0_walkKnot, Cond.instanceMethod yX0_walkKnot, Cond.selects RX0 yX0_walkKnot yX0_walkKnot, Cond.code yX0_walkKnot cX0_walkKnot 9 none, Cond.fieldLink RX0 15 "KnotBand$Band" "kinds" "[I", Cond.fieldLink RX0 31 "KnotBand$Band" "shown" "[I", Cond.fieldLink RX0 9 "KnotBand$Band" "colours" "[I", Cond.static yX4_leftPlaceOf, Cond.code yX4_leftPlaceOf cX4_leftPlaceOf 2 (some .int), Cond.static yX4_kindIn, Cond.code yX4_kindIn cX4_kindIn 2 (some .int), Cond.static yX4_showingPlace, Cond.code yX4_showingPlace cX4_showingPlace 2 (some .int), Cond.static yX4_spotOf, Cond.code yX4_spotOf cX4_spotOf 2 (some .int)]
def wsX4_copy : List Cond := .code yX4_copy cX4_copy 6 (some .boolean) :: ((wsX4_copy_r1 ++ wsX4_copy_r2) ++ wsX20 ++ wsX00 ++ wsX40 ++ (vx_atN RX4 151).filter goodWord)
def wsX4_workedOutAt_r1 : List Cond := [Cond.fieldLink RX4 24 "KnotBand" "loom" "LKnotBand$Loom;", Cond.methodLink RX4 106 yX4_pictureAt, Cond.instanceMethod yX4_pictureAt, Cond.selects RX4 yX4_pictureAt yX4_pictureAt, Cond.initialized RX4, Cond.code yX4_pictureAt cX4_pictureAt 2 (some (.object "KnotBand$Picture")), Cond.fieldLink RX4 32 "KnotBand" "pictureCount" "I", Cond.fieldLink RX4 17 "KnotBand" "pictures" "[LKnotBand$Picture;", Cond.methodLink RX4 48 yX4_needElement, Cond.static yX4_needElement, Cond.code yX4_needElement cX4_needElement 2 none, Cond.classLink RX4 147 "java/util/NoSuchElementException", Cond.initialized "java/util/NoSuchElementException", Cond.methodLink RX4 144 yX1_workOut, Cond.instanceMethod yX1_workOut, Cond.selects RX1 yX1_workOut yX1_workOut, Cond.initialized RX1, Cond.code yX1_workOut cX1_workOut 3 none, Cond.fieldLink RX1 32 "KnotBand$Loom" "now" "LKnotBand$Standings;", Cond.fieldLink RX1 27 "KnotBand$Loom" "ahead" "[LKnotBand$Standings;", Cond.methodLink RX1 36 yX1_listKnots, Cond.instanceMethod yX1_listKnots, Cond.selects RX1 yX1_listKnots yX1_listKnots, Cond.code yX1_listKnots cX1_listKnots 5 none]
def wsX4_workedOutAt_r2 : List Cond := [Cond.fieldLink RX1 21 "KnotBand$Loom" "knotCount" "I", Cond.fieldLink RX1 9 "KnotBand$Loom" "names" "[I", Cond.fieldLink RX1 15 "KnotBand$Loom" "lefts" "[I", Cond.fieldLink RX1 18 "KnotBand$Loom" "wished" "[I", Cond.static yX4_knotsIn, Cond.code yX4_knotsIn cX4_knotsIn 2 (some .int), Cond.static yX4_leftPlaceOf, Cond.code yX4_leftPlaceOf cX4_leftPlaceOf 2 (some .int), Cond.static yX4_spotOf, Cond.code yX4_spotOf cX4_spotOf 2 (some .int), Cond.methodLink RX1 40 yX1_workBackward, Cond.instanceMethod yX1_workBackward, Cond.selects RX1 yX1_workBackward yX1_workBackward, Cond.code yX1_workBackward cX1_workBackward 2 none, Cond.methodLink RX1 43 yX3_fill, Cond.instanceMethod yX3_fill, Cond.selects RX3 yX3_fill yX3_fill, Cond.initialized RX3, Cond.code yX3_fill cX3_fill 2 none, Cond.fieldLink RX3 11 "KnotBand$Standings" "words" "[J", Cond.constantLong RX3 15 (-1), Cond.methodLink RX1 100 yX3_spread, Cond.instanceMethod yX3_spread, Cond.selects RX3 yX3_spread yX3_spread]
def wsX4_workedOutAt_r3 : List Cond := [Cond.code yX3_spread cX3_spread 3 none, Cond.fieldLink RX3 31 "KnotBand$Standings" "PLACE_3_LESS" "[J", Cond.fieldLink RX3 38 "KnotBand$Standings" "PLACE_4_LESS" "[J", Cond.methodLink RX3 27 yX3_spreadAcross, Cond.instanceMethod yX3_spreadAcross, Cond.selects RX3 yX3_spreadAcross yX3_spreadAcross, Cond.code yX3_spreadAcross cX3_spreadAcross 7 none, Cond.constantLong RX3 21 (65535), Cond.methodLink RX3 34 yX3_spreadInside, Cond.instanceMethod yX3_spreadInside, Cond.selects RX3 yX3_spreadInside yX3_spreadInside, Cond.code yX3_spreadInside cX3_spreadInside 11 none, Cond.methodLink RX3 41 yX3_spreadBetween, Cond.instanceMethod yX3_spreadBetween, Cond.selects RX3 yX3_spreadBetween yX3_spreadBetween, Cond.code yX3_spreadBetween cX3_spreadBetween 4 none, Cond.static yX4_exchanged, Cond.code yX4_exchanged cX4_exchanged 3 (some .int), Cond.methodLink RX1 104 yX3_keepEither, Cond.instanceMethod yX3_keepEither, Cond.selects RX3 yX3_keepEither yX3_keepEither, Cond.code yX3_keepEither cX3_keepEither 4 none, Cond.methodLink RX3 17 yX3_having, Cond.static yX3_having]
def wsX4_workedOutAt_r4 : List Cond := [Cond.code yX3_having cX3_having 3 (some .long), Cond.constantLong RX3 23 (4222189076152335), Cond.constantLong RX3 25 (1229782938247303441), Cond.methodLink RX1 51 yX3_keep, Cond.instanceMethod yX3_keep, Cond.selects RX3 yX3_keep yX3_keep, Cond.code yX3_keep cX3_keep 4 none, Cond.methodLink RX1 58 yX3_countShared, Cond.instanceMethod yX3_countShared, Cond.selects RX3 yX3_countShared yX3_countShared, Cond.code yX3_countShared cX3_countShared 4 (some .int), Cond.methodLink RX3 49 yJ13_bitCount_95d88, Cond.static yJ13_bitCount_95d88, Cond.initialized RJ13, Cond.code yJ13_bitCount_95d88 cJ13_bitCount_95d88 2 (some .int), Cond.constantLong RJ13 314 (6148914691236517205), Cond.constantLong RJ13 316 (3689348814741910323), Cond.constantLong RJ13 318 (1085102592571150095), Cond.methodLink RX1 65 yX3_firstShared, Cond.instanceMethod yX3_firstShared, Cond.selects RX3 yX3_firstShared yX3_firstShared, Cond.code yX3_firstShared cX3_firstShared 6 (some .int), Cond.methodLink RX1 71 yX1_chooseKinds, Cond.instanceMethod yX1_chooseKinds]
def wsX4_workedOutAt_r5 : List Cond := [Cond.selects RX1 yX1_chooseKinds yX1_chooseKinds, Cond.code yX1_chooseKinds cX1_chooseKinds 6 none, Cond.methodLink RX1 107 yX1_leastKind, Cond.instanceMethod yX1_leastKind, Cond.selects RX1 yX1_leastKind yX1_leastKind, Cond.code yX1_leastKind cX1_leastKind 6 (some .int), Cond.static yX4_showingPlace, Cond.code yX4_showingPlace cX4_showingPlace 2 (some .int), Cond.static yX4_colourIn, Cond.code yX4_colourIn cX4_colourIn 2 (some .int), Cond.methodLink RX4 154 yX4_bitOf, Cond.static yX4_bitOf, Cond.code yX4_bitOf cX4_bitOf 1 (some .int), Cond.methodLink RX1 117 yX1_standingBehind, Cond.instanceMethod yX1_standingBehind, Cond.selects RX1 yX1_standingBehind yX1_standingBehind, Cond.code yX1_standingBehind cX1_standingBehind 4 (some .int), Cond.methodLink RX1 126 yX3_has, Cond.instanceMethod yX3_has, Cond.selects RX3 yX3_has yX3_has, Cond.code yX3_has cX3_has 2 (some .boolean), Cond.static yX4_withKind, Cond.code yX4_withKind cX4_withKind 3 (some .int), Cond.methodLink RX1 74 yX1_findSuspects]
def wsX4_workedOutAt_r6 : List Cond := [Cond.instanceMethod yX1_findSuspects, Cond.selects RX1 yX1_findSuspects yX1_findSuspects, Cond.code yX1_findSuspects cX1_findSuspects 3 none]
def wsX4_workedOutAt : List Cond := .code yX4_workedOutAt cX4_workedOutAt 3 (some (.object "KnotBand$Picture")) :: ((wsX4_workedOutAt_r1 ++ (wsX4_workedOutAt_r2 ++ (wsX4_workedOutAt_r3 ++ (wsX4_workedOutAt_r4 ++ (wsX4_workedOutAt_r5 ++ wsX4_workedOutAt_r6))))) ++ wsX20 ++ wsX40 ++ wsX10 ++ wsX30 ++ (vx_atN RX4 151).filter goodWord)
def wsX4_starts_r1 : List Cond := [Cond.methodLink RX4 122 yX4_workedOutAt, Cond.instanceMethod yX4_workedOutAt, Cond.selects RX4 yX4_workedOutAt yX4_workedOutAt, Cond.initialized RX4, Cond.code yX4_workedOutAt cX4_workedOutAt 3 (some (.object "KnotBand$Picture")), Cond.fieldLink RX4 24 "KnotBand" "loom" "LKnotBand$Loom;", Cond.methodLink RX4 106 yX4_pictureAt, Cond.instanceMethod yX4_pictureAt, Cond.selects RX4 yX4_pictureAt yX4_pictureAt, Cond.code yX4_pictureAt cX4_pictureAt 2 (some (.object "KnotBand$Picture")), Cond.fieldLink RX4 32 "KnotBand" "pictureCount" "I", Cond.fieldLink RX4 17 "KnotBand" "pictures" "[LKnotBand$Picture;", Cond.methodLink RX4 48 yX4_needElement, Cond.static yX4_needElement, Cond.code yX4_needElement cX4_needElement 2 none, Cond.classLink RX4 147 "java/util/NoSuchElementException", Cond.initialized "java/util/NoSuchElementException", Cond.methodLink RX4 144 yX1_workOut, Cond.instanceMethod yX1_workOut, Cond.selects RX1 yX1_workOut yX1_workOut, Cond.initialized RX1, Cond.code yX1_workOut cX1_workOut 3 none, Cond.fieldLink RX1 32 "KnotBand$Loom" "now" "LKnotBand$Standings;", Cond.fieldLink RX1 27 "KnotBand$Loom" "ahead" "[LKnotBand$Standings;"]
def wsX4_starts_r2 : List Cond := [Cond.methodLink RX1 36 yX1_listKnots, Cond.instanceMethod yX1_listKnots, Cond.selects RX1 yX1_listKnots yX1_listKnots, Cond.code yX1_listKnots cX1_listKnots 5 none, Cond.fieldLink RX1 21 "KnotBand$Loom" "knotCount" "I", Cond.fieldLink RX1 9 "KnotBand$Loom" "names" "[I", Cond.fieldLink RX1 15 "KnotBand$Loom" "lefts" "[I", Cond.fieldLink RX1 18 "KnotBand$Loom" "wished" "[I", Cond.static yX4_knotsIn, Cond.code yX4_knotsIn cX4_knotsIn 2 (some .int), Cond.static yX4_leftPlaceOf, Cond.code yX4_leftPlaceOf cX4_leftPlaceOf 2 (some .int), Cond.static yX4_spotOf, Cond.code yX4_spotOf cX4_spotOf 2 (some .int), Cond.methodLink RX1 40 yX1_workBackward, Cond.instanceMethod yX1_workBackward, Cond.selects RX1 yX1_workBackward yX1_workBackward, Cond.code yX1_workBackward cX1_workBackward 2 none, Cond.methodLink RX1 43 yX3_fill, Cond.instanceMethod yX3_fill, Cond.selects RX3 yX3_fill yX3_fill, Cond.initialized RX3, Cond.code yX3_fill cX3_fill 2 none, Cond.fieldLink RX3 11 "KnotBand$Standings" "words" "[J"]
def wsX4_starts_r3 : List Cond := [Cond.constantLong RX3 15 (-1), Cond.methodLink RX1 100 yX3_spread, Cond.instanceMethod yX3_spread, Cond.selects RX3 yX3_spread yX3_spread, Cond.code yX3_spread cX3_spread 3 none, Cond.fieldLink RX3 31 "KnotBand$Standings" "PLACE_3_LESS" "[J", Cond.fieldLink RX3 38 "KnotBand$Standings" "PLACE_4_LESS" "[J", Cond.methodLink RX3 27 yX3_spreadAcross, Cond.instanceMethod yX3_spreadAcross, Cond.selects RX3 yX3_spreadAcross yX3_spreadAcross, Cond.code yX3_spreadAcross cX3_spreadAcross 7 none, Cond.constantLong RX3 21 (65535), Cond.methodLink RX3 34 yX3_spreadInside, Cond.instanceMethod yX3_spreadInside, Cond.selects RX3 yX3_spreadInside yX3_spreadInside, Cond.code yX3_spreadInside cX3_spreadInside 11 none, Cond.methodLink RX3 41 yX3_spreadBetween, Cond.instanceMethod yX3_spreadBetween, Cond.selects RX3 yX3_spreadBetween yX3_spreadBetween, Cond.code yX3_spreadBetween cX3_spreadBetween 4 none, Cond.static yX4_exchanged, Cond.code yX4_exchanged cX4_exchanged 3 (some .int), Cond.methodLink RX1 104 yX3_keepEither, Cond.instanceMethod yX3_keepEither]
def wsX4_starts_r4 : List Cond := [Cond.selects RX3 yX3_keepEither yX3_keepEither, Cond.code yX3_keepEither cX3_keepEither 4 none, Cond.methodLink RX3 17 yX3_having, Cond.static yX3_having, Cond.code yX3_having cX3_having 3 (some .long), Cond.constantLong RX3 23 (4222189076152335), Cond.constantLong RX3 25 (1229782938247303441), Cond.methodLink RX1 51 yX3_keep, Cond.instanceMethod yX3_keep, Cond.selects RX3 yX3_keep yX3_keep, Cond.code yX3_keep cX3_keep 4 none, Cond.methodLink RX1 58 yX3_countShared, Cond.instanceMethod yX3_countShared, Cond.selects RX3 yX3_countShared yX3_countShared, Cond.code yX3_countShared cX3_countShared 4 (some .int), Cond.methodLink RX3 49 yJ13_bitCount_95d88, Cond.static yJ13_bitCount_95d88, Cond.initialized RJ13, Cond.code yJ13_bitCount_95d88 cJ13_bitCount_95d88 2 (some .int), Cond.constantLong RJ13 314 (6148914691236517205), Cond.constantLong RJ13 316 (3689348814741910323), Cond.constantLong RJ13 318 (1085102592571150095), Cond.methodLink RX1 65 yX3_firstShared, Cond.instanceMethod yX3_firstShared]
def wsX4_starts_r5 : List Cond := [Cond.selects RX3 yX3_firstShared yX3_firstShared, Cond.code yX3_firstShared cX3_firstShared 6 (some .int), Cond.methodLink RX1 71 yX1_chooseKinds, Cond.instanceMethod yX1_chooseKinds, Cond.selects RX1 yX1_chooseKinds yX1_chooseKinds, Cond.code yX1_chooseKinds cX1_chooseKinds 6 none, Cond.methodLink RX1 107 yX1_leastKind, Cond.instanceMethod yX1_leastKind, Cond.selects RX1 yX1_leastKind yX1_leastKind, Cond.code yX1_leastKind cX1_leastKind 6 (some .int), Cond.static yX4_showingPlace, Cond.code yX4_showingPlace cX4_showingPlace 2 (some .int), Cond.static yX4_colourIn, Cond.code yX4_colourIn cX4_colourIn 2 (some .int), Cond.methodLink RX4 154 yX4_bitOf, Cond.static yX4_bitOf, Cond.code yX4_bitOf cX4_bitOf 1 (some .int), Cond.methodLink RX1 117 yX1_standingBehind, Cond.instanceMethod yX1_standingBehind, Cond.selects RX1 yX1_standingBehind yX1_standingBehind, Cond.code yX1_standingBehind cX1_standingBehind 4 (some .int), Cond.methodLink RX1 126 yX3_has, Cond.instanceMethod yX3_has, Cond.selects RX3 yX3_has yX3_has]
def wsX4_starts_r6 : List Cond := [Cond.code yX3_has cX3_has 2 (some .boolean), Cond.static yX4_withKind, Cond.code yX4_withKind cX4_withKind 3 (some .int), Cond.methodLink RX1 74 yX1_findSuspects, Cond.instanceMethod yX1_findSuspects, Cond.selects RX1 yX1_findSuspects yX1_findSuspects, Cond.code yX1_findSuspects cX1_findSuspects 3 none]
def wsX4_starts : List Cond := .code yX4_starts cX4_starts 2 (some .int) :: ((wsX4_starts_r1 ++ (wsX4_starts_r2 ++ (wsX4_starts_r3 ++ (wsX4_starts_r4 ++ (wsX4_starts_r5 ++ wsX4_starts_r6))))) ++ wsX20 ++ wsX40 ++ wsX10 ++ wsX30 ++ (vx_atN RX4 151).filter goodWord)
def wsX4_start_r1 : List Cond := [Cond.methodLink RX4 106 yX4_pictureAt, Cond.instanceMethod yX4_pictureAt, Cond.selects RX4 yX4_pictureAt yX4_pictureAt, Cond.initialized RX4, Cond.code yX4_pictureAt cX4_pictureAt 2 (some (.object "KnotBand$Picture")), Cond.fieldLink RX4 32 "KnotBand" "pictureCount" "I", Cond.fieldLink RX4 17 "KnotBand" "pictures" "[LKnotBand$Picture;", Cond.methodLink RX4 48 yX4_needElement, Cond.static yX4_needElement, Cond.code yX4_needElement cX4_needElement 2 none, Cond.classLink RX4 147 "java/util/NoSuchElementException", Cond.initialized "java/util/NoSuchElementException", Cond.methodLink RX4 122 yX4_workedOutAt, Cond.instanceMethod yX4_workedOutAt, Cond.selects RX4 yX4_workedOutAt yX4_workedOutAt, Cond.code yX4_workedOutAt cX4_workedOutAt 3 (some (.object "KnotBand$Picture")), Cond.fieldLink RX4 24 "KnotBand" "loom" "LKnotBand$Loom;", Cond.methodLink RX4 144 yX1_workOut, Cond.instanceMethod yX1_workOut, Cond.selects RX1 yX1_workOut yX1_workOut, Cond.initialized RX1, Cond.code yX1_workOut cX1_workOut 3 none, Cond.fieldLink RX1 32 "KnotBand$Loom" "now" "LKnotBand$Standings;", Cond.fieldLink RX1 27 "KnotBand$Loom" "ahead" "[LKnotBand$Standings;"]
def wsX4_start_r2 : List Cond := [Cond.methodLink RX1 36 yX1_listKnots, Cond.instanceMethod yX1_listKnots, Cond.selects RX1 yX1_listKnots yX1_listKnots, Cond.code yX1_listKnots cX1_listKnots 5 none, Cond.fieldLink RX1 21 "KnotBand$Loom" "knotCount" "I", Cond.fieldLink RX1 9 "KnotBand$Loom" "names" "[I", Cond.fieldLink RX1 15 "KnotBand$Loom" "lefts" "[I", Cond.fieldLink RX1 18 "KnotBand$Loom" "wished" "[I", Cond.static yX4_knotsIn, Cond.code yX4_knotsIn cX4_knotsIn 2 (some .int), Cond.static yX4_leftPlaceOf, Cond.code yX4_leftPlaceOf cX4_leftPlaceOf 2 (some .int), Cond.static yX4_spotOf, Cond.code yX4_spotOf cX4_spotOf 2 (some .int), Cond.methodLink RX1 40 yX1_workBackward, Cond.instanceMethod yX1_workBackward, Cond.selects RX1 yX1_workBackward yX1_workBackward, Cond.code yX1_workBackward cX1_workBackward 2 none, Cond.methodLink RX1 43 yX3_fill, Cond.instanceMethod yX3_fill, Cond.selects RX3 yX3_fill yX3_fill, Cond.initialized RX3, Cond.code yX3_fill cX3_fill 2 none, Cond.fieldLink RX3 11 "KnotBand$Standings" "words" "[J"]
def wsX4_start_r3 : List Cond := [Cond.constantLong RX3 15 (-1), Cond.methodLink RX1 100 yX3_spread, Cond.instanceMethod yX3_spread, Cond.selects RX3 yX3_spread yX3_spread, Cond.code yX3_spread cX3_spread 3 none, Cond.fieldLink RX3 31 "KnotBand$Standings" "PLACE_3_LESS" "[J", Cond.fieldLink RX3 38 "KnotBand$Standings" "PLACE_4_LESS" "[J", Cond.methodLink RX3 27 yX3_spreadAcross, Cond.instanceMethod yX3_spreadAcross, Cond.selects RX3 yX3_spreadAcross yX3_spreadAcross, Cond.code yX3_spreadAcross cX3_spreadAcross 7 none, Cond.constantLong RX3 21 (65535), Cond.methodLink RX3 34 yX3_spreadInside, Cond.instanceMethod yX3_spreadInside, Cond.selects RX3 yX3_spreadInside yX3_spreadInside, Cond.code yX3_spreadInside cX3_spreadInside 11 none, Cond.methodLink RX3 41 yX3_spreadBetween, Cond.instanceMethod yX3_spreadBetween, Cond.selects RX3 yX3_spreadBetween yX3_spreadBetween, Cond.code yX3_spreadBetween cX3_spreadBetween 4 none, Cond.static yX4_exchanged, Cond.code yX4_exchanged cX4_exchanged 3 (some .int), Cond.methodLink RX1 104 yX3_keepEither, Cond.instanceMethod yX3_keepEither]
def wsX4_start_r4 : List Cond := [Cond.selects RX3 yX3_keepEither yX3_keepEither, Cond.code yX3_keepEither cX3_keepEither 4 none, Cond.methodLink RX3 17 yX3_having, Cond.static yX3_having, Cond.code yX3_having cX3_having 3 (some .long), Cond.constantLong RX3 23 (4222189076152335), Cond.constantLong RX3 25 (1229782938247303441), Cond.methodLink RX1 51 yX3_keep, Cond.instanceMethod yX3_keep, Cond.selects RX3 yX3_keep yX3_keep, Cond.code yX3_keep cX3_keep 4 none, Cond.methodLink RX1 58 yX3_countShared, Cond.instanceMethod yX3_countShared, Cond.selects RX3 yX3_countShared yX3_countShared, Cond.code yX3_countShared cX3_countShared 4 (some .int), Cond.methodLink RX3 49 yJ13_bitCount_95d88, Cond.static yJ13_bitCount_95d88, Cond.initialized RJ13, Cond.code yJ13_bitCount_95d88 cJ13_bitCount_95d88 2 (some .int), Cond.constantLong RJ13 314 (6148914691236517205), Cond.constantLong RJ13 316 (3689348814741910323), Cond.constantLong RJ13 318 (1085102592571150095), Cond.methodLink RX1 65 yX3_firstShared, Cond.instanceMethod yX3_firstShared]
def wsX4_start_r5 : List Cond := [Cond.selects RX3 yX3_firstShared yX3_firstShared, Cond.code yX3_firstShared cX3_firstShared 6 (some .int), Cond.methodLink RX1 71 yX1_chooseKinds, Cond.instanceMethod yX1_chooseKinds, Cond.selects RX1 yX1_chooseKinds yX1_chooseKinds, Cond.code yX1_chooseKinds cX1_chooseKinds 6 none, Cond.methodLink RX1 107 yX1_leastKind, Cond.instanceMethod yX1_leastKind, Cond.selects RX1 yX1_leastKind yX1_leastKind, Cond.code yX1_leastKind cX1_leastKind 6 (some .int), Cond.static yX4_showingPlace, Cond.code yX4_showingPlace cX4_showingPlace 2 (some .int), Cond.static yX4_colourIn, Cond.code yX4_colourIn cX4_colourIn 2 (some .int), Cond.methodLink RX4 154 yX4_bitOf, Cond.static yX4_bitOf, Cond.code yX4_bitOf cX4_bitOf 1 (some .int), Cond.methodLink RX1 117 yX1_standingBehind, Cond.instanceMethod yX1_standingBehind, Cond.selects RX1 yX1_standingBehind yX1_standingBehind, Cond.code yX1_standingBehind cX1_standingBehind 4 (some .int), Cond.methodLink RX1 126 yX3_has, Cond.instanceMethod yX3_has, Cond.selects RX3 yX3_has yX3_has]
def wsX4_start_r6 : List Cond := [Cond.code yX3_has cX3_has 2 (some .boolean), Cond.static yX4_withKind, Cond.code yX4_withKind cX4_withKind 3 (some .int), Cond.methodLink RX1 74 yX1_findSuspects, Cond.instanceMethod yX1_findSuspects, Cond.selects RX1 yX1_findSuspects yX1_findSuspects, Cond.code yX1_findSuspects cX1_findSuspects 3 none, Cond.methodLink RX4 131 yX4_colourIn]
def wsX4_start : List Cond := .code yX4_start cX4_start 4 (some .int) :: ((wsX4_start_r1 ++ (wsX4_start_r2 ++ (wsX4_start_r3 ++ (wsX4_start_r4 ++ (wsX4_start_r5 ++ wsX4_start_r6))))) ++ wsX20 ++ wsX40 ++ wsX10 ++ wsX30 ++ (vx_atN RX4 151).filter goodWord)
def wsX4_tie_r1 : List Cond := [Cond.fieldLink RX4 28 "KnotBand" "bandCount" "I", Cond.fieldLink RX4 11 "KnotBand" "bands" "[LKnotBand$Band;", Cond.methodLink RX4 122 yX4_workedOutAt, Cond.instanceMethod yX4_workedOutAt, Cond.selects RX4 yX4_workedOutAt yX4_workedOutAt, Cond.initialized RX4, Cond.code yX4_workedOutAt cX4_workedOutAt 3 (some (.object "KnotBand$Picture")), Cond.fieldLink RX4 24 "KnotBand" "loom" "LKnotBand$Loom;", Cond.methodLink RX4 106 yX4_pictureAt, Cond.instanceMethod yX4_pictureAt, Cond.selects RX4 yX4_pictureAt yX4_pictureAt, Cond.code yX4_pictureAt cX4_pictureAt 2 (some (.object "KnotBand$Picture")), Cond.fieldLink RX4 32 "KnotBand" "pictureCount" "I", Cond.fieldLink RX4 17 "KnotBand" "pictures" "[LKnotBand$Picture;", Cond.methodLink RX4 48 yX4_needElement, Cond.static yX4_needElement, Cond.code yX4_needElement cX4_needElement 2 none, Cond.classLink RX4 147 "java/util/NoSuchElementException", Cond.initialized "java/util/NoSuchElementException", Cond.methodLink RX4 144 yX1_workOut, Cond.instanceMethod yX1_workOut, Cond.selects RX1 yX1_workOut yX1_workOut, Cond.initialized RX1, Cond.code yX1_workOut cX1_workOut 3 none]
def wsX4_tie_r2 : List Cond := [Cond.fieldLink RX1 32 "KnotBand$Loom" "now" "LKnotBand$Standings;", Cond.fieldLink RX1 27 "KnotBand$Loom" "ahead" "[LKnotBand$Standings;", Cond.methodLink RX1 36 yX1_listKnots, Cond.instanceMethod yX1_listKnots, Cond.selects RX1 yX1_listKnots yX1_listKnots, Cond.code yX1_listKnots cX1_listKnots 5 none, Cond.fieldLink RX1 21 "KnotBand$Loom" "knotCount" "I", Cond.fieldLink RX1 9 "KnotBand$Loom" "names" "[I", Cond.fieldLink RX1 15 "KnotBand$Loom" "lefts" "[I", Cond.fieldLink RX1 18 "KnotBand$Loom" "wished" "[I", Cond.static yX4_knotsIn, Cond.code yX4_knotsIn cX4_knotsIn 2 (some .int), Cond.static yX4_leftPlaceOf, Cond.code yX4_leftPlaceOf cX4_leftPlaceOf 2 (some .int), Cond.static yX4_spotOf, Cond.code yX4_spotOf cX4_spotOf 2 (some .int), Cond.methodLink RX1 40 yX1_workBackward, Cond.instanceMethod yX1_workBackward, Cond.selects RX1 yX1_workBackward yX1_workBackward, Cond.code yX1_workBackward cX1_workBackward 2 none, Cond.methodLink RX1 43 yX3_fill, Cond.instanceMethod yX3_fill, Cond.selects RX3 yX3_fill yX3_fill, Cond.initialized RX3]
def wsX4_tie_r3 : List Cond := [Cond.code yX3_fill cX3_fill 2 none, Cond.fieldLink RX3 11 "KnotBand$Standings" "words" "[J", Cond.constantLong RX3 15 (-1), Cond.methodLink RX1 100 yX3_spread, Cond.instanceMethod yX3_spread, Cond.selects RX3 yX3_spread yX3_spread, Cond.code yX3_spread cX3_spread 3 none, Cond.fieldLink RX3 31 "KnotBand$Standings" "PLACE_3_LESS" "[J", Cond.fieldLink RX3 38 "KnotBand$Standings" "PLACE_4_LESS" "[J", Cond.methodLink RX3 27 yX3_spreadAcross, Cond.instanceMethod yX3_spreadAcross, Cond.selects RX3 yX3_spreadAcross yX3_spreadAcross, Cond.code yX3_spreadAcross cX3_spreadAcross 7 none, Cond.constantLong RX3 21 (65535), Cond.methodLink RX3 34 yX3_spreadInside, Cond.instanceMethod yX3_spreadInside, Cond.selects RX3 yX3_spreadInside yX3_spreadInside, Cond.code yX3_spreadInside cX3_spreadInside 11 none, Cond.methodLink RX3 41 yX3_spreadBetween, Cond.instanceMethod yX3_spreadBetween, Cond.selects RX3 yX3_spreadBetween yX3_spreadBetween, Cond.code yX3_spreadBetween cX3_spreadBetween 4 none, Cond.static yX4_exchanged, Cond.code yX4_exchanged cX4_exchanged 3 (some .int)]
def wsX4_tie_r4 : List Cond := [Cond.methodLink RX1 104 yX3_keepEither, Cond.instanceMethod yX3_keepEither, Cond.selects RX3 yX3_keepEither yX3_keepEither, Cond.code yX3_keepEither cX3_keepEither 4 none, Cond.methodLink RX3 17 yX3_having, Cond.static yX3_having, Cond.code yX3_having cX3_having 3 (some .long), Cond.constantLong RX3 23 (4222189076152335), Cond.constantLong RX3 25 (1229782938247303441), Cond.methodLink RX1 51 yX3_keep, Cond.instanceMethod yX3_keep, Cond.selects RX3 yX3_keep yX3_keep, Cond.code yX3_keep cX3_keep 4 none, Cond.methodLink RX1 58 yX3_countShared, Cond.instanceMethod yX3_countShared, Cond.selects RX3 yX3_countShared yX3_countShared, Cond.code yX3_countShared cX3_countShared 4 (some .int), Cond.methodLink RX3 49 yJ13_bitCount_95d88, Cond.static yJ13_bitCount_95d88, Cond.initialized RJ13, Cond.code yJ13_bitCount_95d88 cJ13_bitCount_95d88 2 (some .int), Cond.constantLong RJ13 314 (6148914691236517205), Cond.constantLong RJ13 316 (3689348814741910323), Cond.constantLong RJ13 318 (1085102592571150095)]
def wsX4_tie_r5 : List Cond := [Cond.methodLink RX1 65 yX3_firstShared, Cond.instanceMethod yX3_firstShared, Cond.selects RX3 yX3_firstShared yX3_firstShared, Cond.code yX3_firstShared cX3_firstShared 6 (some .int), Cond.methodLink RX1 71 yX1_chooseKinds, Cond.instanceMethod yX1_chooseKinds, Cond.selects RX1 yX1_chooseKinds yX1_chooseKinds, Cond.code yX1_chooseKinds cX1_chooseKinds 6 none, Cond.methodLink RX1 107 yX1_leastKind, Cond.instanceMethod yX1_leastKind, Cond.selects RX1 yX1_leastKind yX1_leastKind, Cond.code yX1_leastKind cX1_leastKind 6 (some .int), Cond.static yX4_showingPlace, Cond.code yX4_showingPlace cX4_showingPlace 2 (some .int), Cond.static yX4_colourIn, Cond.code yX4_colourIn cX4_colourIn 2 (some .int), Cond.methodLink RX4 154 yX4_bitOf, Cond.static yX4_bitOf, Cond.code yX4_bitOf cX4_bitOf 1 (some .int), Cond.methodLink RX1 117 yX1_standingBehind, Cond.instanceMethod yX1_standingBehind, Cond.selects RX1 yX1_standingBehind yX1_standingBehind, Cond.code yX1_standingBehind cX1_standingBehind 4 (some .int), Cond.methodLink RX1 126 yX3_has]
def wsX4_tie_r6 : List Cond := [Cond.instanceMethod yX3_has, Cond.selects RX3 yX3_has yX3_has, Cond.code yX3_has cX3_has 2 (some .boolean), Cond.static yX4_withKind, Cond.code yX4_withKind cX4_withKind 3 (some .int), Cond.methodLink RX1 74 yX1_findSuspects, Cond.instanceMethod yX1_findSuspects, Cond.selects RX1 yX1_findSuspects yX1_findSuspects, Cond.code yX1_findSuspects cX1_findSuspects 3 none, Cond.methodLink RX4 134 yX0_become, Cond.instanceMethod yX0_become, Cond.selects RX0 yX0_become yX0_become, Cond.initialized RX0, Cond.code yX0_become cX0_become 3 none, Cond.fieldLink RX0 18 "KnotBand$Band" "threads" "I", Cond.fieldLink RX0 22 "KnotBand$Band" "rows" "I", Cond.fieldLink RX0 9 "KnotBand$Band" "colours" "[I", Cond.fieldLink RX0 15 "KnotBand$Band" "kinds" "[I"]
def wsX4_tie : List Cond := .code yX4_tie cX4_tie 3 (some .int) :: ((wsX4_tie_r1 ++ (wsX4_tie_r2 ++ (wsX4_tie_r3 ++ (wsX4_tie_r4 ++ (wsX4_tie_r5 ++ wsX4_tie_r6))))) ++ wsX20 ++ wsX40 ++ wsX10 ++ wsX30 ++ wsX00 ++ (vx_atN RX4 151).filter goodWord)
def wsX4_suspect_r1 : List Cond := [Cond.methodLink RX4 122 yX4_workedOutAt, Cond.instanceMethod yX4_workedOutAt, Cond.selects RX4 yX4_workedOutAt yX4_workedOutAt, Cond.initialized RX4, Cond.code yX4_workedOutAt cX4_workedOutAt 3 (some (.object "KnotBand$Picture")), Cond.fieldLink RX4 24 "KnotBand" "loom" "LKnotBand$Loom;", Cond.methodLink RX4 106 yX4_pictureAt, Cond.instanceMethod yX4_pictureAt, Cond.selects RX4 yX4_pictureAt yX4_pictureAt, Cond.code yX4_pictureAt cX4_pictureAt 2 (some (.object "KnotBand$Picture")), Cond.fieldLink RX4 32 "KnotBand" "pictureCount" "I", Cond.fieldLink RX4 17 "KnotBand" "pictures" "[LKnotBand$Picture;", Cond.methodLink RX4 48 yX4_needElement, Cond.static yX4_needElement, Cond.code yX4_needElement cX4_needElement 2 none, Cond.classLink RX4 147 "java/util/NoSuchElementException", Cond.initialized "java/util/NoSuchElementException", Cond.methodLink RX4 144 yX1_workOut, Cond.instanceMethod yX1_workOut, Cond.selects RX1 yX1_workOut yX1_workOut, Cond.initialized RX1, Cond.code yX1_workOut cX1_workOut 3 none, Cond.fieldLink RX1 32 "KnotBand$Loom" "now" "LKnotBand$Standings;", Cond.fieldLink RX1 27 "KnotBand$Loom" "ahead" "[LKnotBand$Standings;"]
def wsX4_suspect_r2 : List Cond := [Cond.methodLink RX1 36 yX1_listKnots, Cond.instanceMethod yX1_listKnots, Cond.selects RX1 yX1_listKnots yX1_listKnots, Cond.code yX1_listKnots cX1_listKnots 5 none, Cond.fieldLink RX1 21 "KnotBand$Loom" "knotCount" "I", Cond.fieldLink RX1 9 "KnotBand$Loom" "names" "[I", Cond.fieldLink RX1 15 "KnotBand$Loom" "lefts" "[I", Cond.fieldLink RX1 18 "KnotBand$Loom" "wished" "[I", Cond.static yX4_knotsIn, Cond.code yX4_knotsIn cX4_knotsIn 2 (some .int), Cond.static yX4_leftPlaceOf, Cond.code yX4_leftPlaceOf cX4_leftPlaceOf 2 (some .int), Cond.static yX4_spotOf, Cond.code yX4_spotOf cX4_spotOf 2 (some .int), Cond.methodLink RX1 40 yX1_workBackward, Cond.instanceMethod yX1_workBackward, Cond.selects RX1 yX1_workBackward yX1_workBackward, Cond.code yX1_workBackward cX1_workBackward 2 none, Cond.methodLink RX1 43 yX3_fill, Cond.instanceMethod yX3_fill, Cond.selects RX3 yX3_fill yX3_fill, Cond.initialized RX3, Cond.code yX3_fill cX3_fill 2 none, Cond.fieldLink RX3 11 "KnotBand$Standings" "words" "[J"]
def wsX4_suspect_r3 : List Cond := [Cond.constantLong RX3 15 (-1), Cond.methodLink RX1 100 yX3_spread, Cond.instanceMethod yX3_spread, Cond.selects RX3 yX3_spread yX3_spread, Cond.code yX3_spread cX3_spread 3 none, Cond.fieldLink RX3 31 "KnotBand$Standings" "PLACE_3_LESS" "[J", Cond.fieldLink RX3 38 "KnotBand$Standings" "PLACE_4_LESS" "[J", Cond.methodLink RX3 27 yX3_spreadAcross, Cond.instanceMethod yX3_spreadAcross, Cond.selects RX3 yX3_spreadAcross yX3_spreadAcross, Cond.code yX3_spreadAcross cX3_spreadAcross 7 none, Cond.constantLong RX3 21 (65535), Cond.methodLink RX3 34 yX3_spreadInside, Cond.instanceMethod yX3_spreadInside, Cond.selects RX3 yX3_spreadInside yX3_spreadInside, Cond.code yX3_spreadInside cX3_spreadInside 11 none, Cond.methodLink RX3 41 yX3_spreadBetween, Cond.instanceMethod yX3_spreadBetween, Cond.selects RX3 yX3_spreadBetween yX3_spreadBetween, Cond.code yX3_spreadBetween cX3_spreadBetween 4 none, Cond.static yX4_exchanged, Cond.code yX4_exchanged cX4_exchanged 3 (some .int), Cond.methodLink RX1 104 yX3_keepEither, Cond.instanceMethod yX3_keepEither]
def wsX4_suspect_r4 : List Cond := [Cond.selects RX3 yX3_keepEither yX3_keepEither, Cond.code yX3_keepEither cX3_keepEither 4 none, Cond.methodLink RX3 17 yX3_having, Cond.static yX3_having, Cond.code yX3_having cX3_having 3 (some .long), Cond.constantLong RX3 23 (4222189076152335), Cond.constantLong RX3 25 (1229782938247303441), Cond.methodLink RX1 51 yX3_keep, Cond.instanceMethod yX3_keep, Cond.selects RX3 yX3_keep yX3_keep, Cond.code yX3_keep cX3_keep 4 none, Cond.methodLink RX1 58 yX3_countShared, Cond.instanceMethod yX3_countShared, Cond.selects RX3 yX3_countShared yX3_countShared, Cond.code yX3_countShared cX3_countShared 4 (some .int), Cond.methodLink RX3 49 yJ13_bitCount_95d88, Cond.static yJ13_bitCount_95d88, Cond.initialized RJ13, Cond.code yJ13_bitCount_95d88 cJ13_bitCount_95d88 2 (some .int), Cond.constantLong RJ13 314 (6148914691236517205), Cond.constantLong RJ13 316 (3689348814741910323), Cond.constantLong RJ13 318 (1085102592571150095), Cond.methodLink RX1 65 yX3_firstShared, Cond.instanceMethod yX3_firstShared]
def wsX4_suspect_r5 : List Cond := [Cond.selects RX3 yX3_firstShared yX3_firstShared, Cond.code yX3_firstShared cX3_firstShared 6 (some .int), Cond.methodLink RX1 71 yX1_chooseKinds, Cond.instanceMethod yX1_chooseKinds, Cond.selects RX1 yX1_chooseKinds yX1_chooseKinds, Cond.code yX1_chooseKinds cX1_chooseKinds 6 none, Cond.methodLink RX1 107 yX1_leastKind, Cond.instanceMethod yX1_leastKind, Cond.selects RX1 yX1_leastKind yX1_leastKind, Cond.code yX1_leastKind cX1_leastKind 6 (some .int), Cond.static yX4_showingPlace, Cond.code yX4_showingPlace cX4_showingPlace 2 (some .int), Cond.static yX4_colourIn, Cond.code yX4_colourIn cX4_colourIn 2 (some .int), Cond.methodLink RX4 154 yX4_bitOf, Cond.static yX4_bitOf, Cond.code yX4_bitOf cX4_bitOf 1 (some .int), Cond.methodLink RX1 117 yX1_standingBehind, Cond.instanceMethod yX1_standingBehind, Cond.selects RX1 yX1_standingBehind yX1_standingBehind, Cond.code yX1_standingBehind cX1_standingBehind 4 (some .int), Cond.methodLink RX1 126 yX3_has, Cond.instanceMethod yX3_has, Cond.selects RX3 yX3_has yX3_has]
def wsX4_suspect_r6 : List Cond := [Cond.code yX3_has cX3_has 2 (some .boolean), Cond.static yX4_withKind, Cond.code yX4_withKind cX4_withKind 3 (some .int), Cond.methodLink RX1 74 yX1_findSuspects, Cond.instanceMethod yX1_findSuspects, Cond.selects RX1 yX1_findSuspects yX1_findSuspects, Cond.code yX1_findSuspects cX1_findSuspects 3 none]
def wsX4_suspect : List Cond := .code yX4_suspect cX4_suspect 4 (some .int) :: ((wsX4_suspect_r1 ++ (wsX4_suspect_r2 ++ (wsX4_suspect_r3 ++ (wsX4_suspect_r4 ++ (wsX4_suspect_r5 ++ wsX4_suspect_r6))))) ++ wsX20 ++ wsX40 ++ wsX10 ++ wsX30 ++ (vx_atN RX4 151).filter goodWord)
def wsX4_count : List Cond := .code yX4_count cX4_count 2 (some .int) :: ([.fieldLink RX4 28 "KnotBand" "bandCount" "I", .fieldLink RX4 32 "KnotBand" "pictureCount" "I", .methodLink RX4 48 yX4_needElement, .static yX4_needElement, .initialized RX4, .code yX4_needElement cX4_needElement 2 none, .classLink RX4 147 "java/util/NoSuchElementException", .initialized "java/util/NoSuchElementException"] ++ wsX40 ++ (vx_atN RX4 151).filter goodWord)
def wsX5_init : List Cond := .code yX5_init cX5_init 1 none :: ([.methodLink RX5 1 objectInit, .instanceMethod objectInit, .code objectInit ⟨#[0xb1]⟩ 1 none, .arrayClass .int, .fieldLink RX5 7 "KnotBandModel" "threads" "[I", .fieldLink RX5 13 "KnotBandModel" "rows" "[I", .fieldLink RX5 16 "KnotBandModel" "colours" "[I", .fieldLink RX5 19 "KnotBandModel" "kinds" "[I", .fieldLink RX5 22 "KnotBandModel" "width" "[I", .fieldLink RX5 25 "KnotBandModel" "high" "[I", .fieldLink RX5 28 "KnotBandModel" "seen" "[I", .fieldLink RX5 31 "KnotBandModel" "must" "[I", .fieldLink RX5 34 "KnotBandModel" "at" "[I", .fieldLink RX5 37 "KnotBandModel" "now" "[I", .fieldLink RX5 40 "KnotBandModel" "then" "[I", .constant RX5 43 (69632), .arrayClass .boolean, .fieldLink RX5 44 "KnotBandModel" "can" "[Z"] ++ wsX50)
def wsX5_thrown : List Cond := .code yX5_thrown cX5_thrown 1 (some .int) :: ([.fieldLink RX5 48 "KnotBandModel" "thrown" "I"] ++ wsX50)
def wsX5_right : List Cond := .code yX5_right cX5_right 3 (some .boolean) :: ([.fieldLink RX5 48 "KnotBandModel" "thrown" "I"] ++ wsX50)
def wsX5_knots : List Cond := .code yX5_knots cX5_knots 2 (some .int) :: ([])
def wsX5_left : List Cond := .code yX5_left cX5_left 2 (some .int) :: ([])
def wsX5_isBand : List Cond := .code yX5_isBand cX5_isBand 2 (some .boolean) :: ([.fieldLink RX5 48 "KnotBandModel" "thrown" "I", .fieldLink RX5 52 "KnotBandModel" "bands" "I", .methodLink RX5 55 yX5_right, .instanceMethod yX5_right, .selects RX5 yX5_right yX5_right, .initialized RX5, .code yX5_right cX5_right 3 (some .boolean)] ++ wsX50)
def wsX5_band : List Cond := .code yX5_band cX5_band 2 (some .int) :: ([.fieldLink RX5 48 "KnotBandModel" "thrown" "I", .fieldLink RX5 52 "KnotBandModel" "bands" "I", .fieldLink RX5 7 "KnotBandModel" "threads" "[I"] ++ wsX50)
def wsX5_colour : List Cond := .code yX5_colour cX5_colour 5 (some .int) :: ([.fieldLink RX5 7 "KnotBandModel" "threads" "[I", .fieldLink RX5 16 "KnotBandModel" "colours" "[I", .methodLink RX5 59 yX5_isBand, .instanceMethod yX5_isBand, .selects RX5 yX5_isBand yX5_isBand, .initialized RX5, .code yX5_isBand cX5_isBand 2 (some .boolean), .fieldLink RX5 48 "KnotBandModel" "thrown" "I", .fieldLink RX5 52 "KnotBandModel" "bands" "I", .methodLink RX5 55 yX5_right, .instanceMethod yX5_right, .selects RX5 yX5_right yX5_right, .code yX5_right cX5_right 3 (some .boolean)] ++ wsX50)
def wsX5_row : List Cond := .code yX5_row cX5_row 4 (some .int) :: ([.fieldLink RX5 13 "KnotBandModel" "rows" "[I", .fieldLink RX5 19 "KnotBandModel" "kinds" "[I", .methodLink RX5 59 yX5_isBand, .instanceMethod yX5_isBand, .selects RX5 yX5_isBand yX5_isBand, .initialized RX5, .code yX5_isBand cX5_isBand 2 (some .boolean), .fieldLink RX5 48 "KnotBandModel" "thrown" "I", .fieldLink RX5 52 "KnotBandModel" "bands" "I", .methodLink RX5 55 yX5_right, .instanceMethod yX5_right, .selects RX5 yX5_right yX5_right, .code yX5_right cX5_right 3 (some .boolean)] ++ wsX50)
def wsX5_isKnot : List Cond := .code yX5_isKnot cX5_isKnot 4 (some .boolean) :: ([.fieldLink RX5 13 "KnotBandModel" "rows" "[I", .fieldLink RX5 7 "KnotBandModel" "threads" "[I", .methodLink RX5 59 yX5_isBand, .instanceMethod yX5_isBand, .selects RX5 yX5_isBand yX5_isBand, .initialized RX5, .code yX5_isBand cX5_isBand 2 (some .boolean), .fieldLink RX5 48 "KnotBandModel" "thrown" "I", .fieldLink RX5 52 "KnotBandModel" "bands" "I", .methodLink RX5 55 yX5_right, .instanceMethod yX5_right, .selects RX5 yX5_right yX5_right, .code yX5_right cX5_right 3 (some .boolean), .methodLink RX5 63 yX5_knots, .static yX5_knots, .code yX5_knots cX5_knots 2 (some .int)] ++ wsX50)
def wsX5_knot : List Cond := .code yX5_knot cX5_knot 6 (some .int) :: ([.fieldLink RX5 19 "KnotBandModel" "kinds" "[I", .methodLink RX5 67 yX5_isKnot, .instanceMethod yX5_isKnot, .selects RX5 yX5_isKnot yX5_isKnot, .initialized RX5, .code yX5_isKnot cX5_isKnot 4 (some .boolean), .fieldLink RX5 13 "KnotBandModel" "rows" "[I", .fieldLink RX5 7 "KnotBandModel" "threads" "[I", .methodLink RX5 59 yX5_isBand, .instanceMethod yX5_isBand, .selects RX5 yX5_isBand yX5_isBand, .code yX5_isBand cX5_isBand 2 (some .boolean), .fieldLink RX5 48 "KnotBandModel" "thrown" "I", .fieldLink RX5 52 "KnotBandModel" "bands" "I", .methodLink RX5 55 yX5_right, .instanceMethod yX5_right, .selects RX5 yX5_right yX5_right, .code yX5_right cX5_right 3 (some .boolean), .methodLink RX5 63 yX5_knots, .static yX5_knots, .code yX5_knots cX5_knots 2 (some .int)] ++ wsX50)
def wsX5_stands : List Cond := .code yX5_stands cX5_stands 7 none :: ([.fieldLink RX5 34 "KnotBandModel" "at" "[I", .fieldLink RX5 7 "KnotBandModel" "threads" "[I", .fieldLink RX5 19 "KnotBandModel" "kinds" "[I", .methodLink RX5 63 yX5_knots, .static yX5_knots, .initialized RX5, .code yX5_knots cX5_knots 2 (some .int), .methodLink RX5 71 yX5_left, .static yX5_left, .code yX5_left cX5_left 2 (some .int)] ++ wsX50)
def wsX5_of : List Cond := .code yX5_of cX5_of 6 (some .int) :: ([.fieldLink RX5 19 "KnotBandModel" "kinds" "[I", .fieldLink RX5 34 "KnotBandModel" "at" "[I", .methodLink RX5 71 yX5_left, .static yX5_left, .initialized RX5, .code yX5_left cX5_left 2 (some .int)] ++ wsX50)
def wsX5_showsOf : List Cond := .code yX5_showsOf cX5_showsOf 4 (some .int) :: ([.fieldLink RX5 16 "KnotBandModel" "colours" "[I", .methodLink RX5 74 yX5_stands, .instanceMethod yX5_stands, .selects RX5 yX5_stands yX5_stands, .initialized RX5, .code yX5_stands cX5_stands 7 none, .fieldLink RX5 34 "KnotBandModel" "at" "[I", .fieldLink RX5 7 "KnotBandModel" "threads" "[I", .fieldLink RX5 19 "KnotBandModel" "kinds" "[I", .methodLink RX5 63 yX5_knots, .static yX5_knots, .code yX5_knots cX5_knots 2 (some .int), .methodLink RX5 71 yX5_left, .static yX5_left, .code yX5_left cX5_left 2 (some .int), .methodLink RX5 78 yX5_of, .instanceMethod yX5_of, .selects RX5 yX5_of yX5_of, .code yX5_of cX5_of 6 (some .int)] ++ wsX50)
def wsX5_shows_r1 : List Cond := [Cond.methodLink RX5 67 yX5_isKnot, Cond.instanceMethod yX5_isKnot, Cond.selects RX5 yX5_isKnot yX5_isKnot, Cond.initialized RX5, Cond.code yX5_isKnot cX5_isKnot 4 (some .boolean), Cond.fieldLink RX5 13 "KnotBandModel" "rows" "[I", Cond.fieldLink RX5 7 "KnotBandModel" "threads" "[I", Cond.methodLink RX5 59 yX5_isBand, Cond.instanceMethod yX5_isBand, Cond.selects RX5 yX5_isBand yX5_isBand, Cond.code yX5_isBand cX5_isBand 2 (some .boolean), Cond.fieldLink RX5 48 "KnotBandModel" "thrown" "I", Cond.fieldLink RX5 52 "KnotBandModel" "bands" "I", Cond.methodLink RX5 55 yX5_right, Cond.instanceMethod yX5_right, Cond.selects RX5 yX5_right yX5_right, Cond.code yX5_right cX5_right 3 (some .boolean), Cond.methodLink RX5 63 yX5_knots, Cond.static yX5_knots, Cond.code yX5_knots cX5_knots 2 (some .int), Cond.methodLink RX5 82 yX5_showsOf, Cond.instanceMethod yX5_showsOf, Cond.selects RX5 yX5_showsOf yX5_showsOf, Cond.code yX5_showsOf cX5_showsOf 4 (some .int)]
def wsX5_shows_r2 : List Cond := [Cond.fieldLink RX5 16 "KnotBandModel" "colours" "[I", Cond.methodLink RX5 74 yX5_stands, Cond.instanceMethod yX5_stands, Cond.selects RX5 yX5_stands yX5_stands, Cond.code yX5_stands cX5_stands 7 none, Cond.fieldLink RX5 34 "KnotBandModel" "at" "[I", Cond.fieldLink RX5 19 "KnotBandModel" "kinds" "[I", Cond.methodLink RX5 71 yX5_left, Cond.static yX5_left, Cond.code yX5_left cX5_left 2 (some .int), Cond.methodLink RX5 78 yX5_of, Cond.instanceMethod yX5_of, Cond.selects RX5 yX5_of yX5_of, Cond.code yX5_of cX5_of 6 (some .int)]
def wsX5_shows : List Cond := .code yX5_shows cX5_shows 4 (some .int) :: ((wsX5_shows_r1 ++ wsX5_shows_r2) ++ wsX50)
def wsX5_thread_r1 : List Cond := [Cond.fieldLink RX5 13 "KnotBandModel" "rows" "[I", Cond.fieldLink RX5 7 "KnotBandModel" "threads" "[I", Cond.fieldLink RX5 34 "KnotBandModel" "at" "[I", Cond.methodLink RX5 59 yX5_isBand, Cond.instanceMethod yX5_isBand, Cond.selects RX5 yX5_isBand yX5_isBand, Cond.initialized RX5, Cond.code yX5_isBand cX5_isBand 2 (some .boolean), Cond.fieldLink RX5 48 "KnotBandModel" "thrown" "I", Cond.fieldLink RX5 52 "KnotBandModel" "bands" "I", Cond.methodLink RX5 55 yX5_right, Cond.instanceMethod yX5_right, Cond.selects RX5 yX5_right yX5_right, Cond.code yX5_right cX5_right 3 (some .boolean), Cond.methodLink RX5 74 yX5_stands, Cond.instanceMethod yX5_stands, Cond.selects RX5 yX5_stands yX5_stands, Cond.code yX5_stands cX5_stands 7 none, Cond.fieldLink RX5 19 "KnotBandModel" "kinds" "[I", Cond.methodLink RX5 63 yX5_knots, Cond.static yX5_knots, Cond.code yX5_knots cX5_knots 2 (some .int), Cond.methodLink RX5 71 yX5_left, Cond.static yX5_left]
def wsX5_thread_r2 : List Cond := [Cond.code yX5_left cX5_left 2 (some .int)]
def wsX5_thread : List Cond := .code yX5_thread cX5_thread 4 (some .int) :: ((wsX5_thread_r1 ++ wsX5_thread_r2) ++ wsX50)
def wsX5_used_r1 : List Cond := [Cond.fieldLink RX5 7 "KnotBandModel" "threads" "[I", Cond.fieldLink RX5 13 "KnotBandModel" "rows" "[I", Cond.methodLink RX5 59 yX5_isBand, Cond.instanceMethod yX5_isBand, Cond.selects RX5 yX5_isBand yX5_isBand, Cond.initialized RX5, Cond.code yX5_isBand cX5_isBand 2 (some .boolean), Cond.fieldLink RX5 48 "KnotBandModel" "thrown" "I", Cond.fieldLink RX5 52 "KnotBandModel" "bands" "I", Cond.methodLink RX5 55 yX5_right, Cond.instanceMethod yX5_right, Cond.selects RX5 yX5_right yX5_right, Cond.code yX5_right cX5_right 3 (some .boolean), Cond.methodLink RX5 74 yX5_stands, Cond.instanceMethod yX5_stands, Cond.selects RX5 yX5_stands yX5_stands, Cond.code yX5_stands cX5_stands 7 none, Cond.fieldLink RX5 34 "KnotBandModel" "at" "[I", Cond.fieldLink RX5 19 "KnotBandModel" "kinds" "[I", Cond.methodLink RX5 63 yX5_knots, Cond.static yX5_knots, Cond.code yX5_knots cX5_knots 2 (some .int), Cond.methodLink RX5 71 yX5_left, Cond.static yX5_left]
def wsX5_used_r2 : List Cond := [Cond.code yX5_left cX5_left 2 (some .int), Cond.methodLink RX5 78 yX5_of, Cond.instanceMethod yX5_of, Cond.selects RX5 yX5_of yX5_of, Cond.code yX5_of cX5_of 6 (some .int)]
def wsX5_used : List Cond := .code yX5_used cX5_used 6 (some .int) :: ((wsX5_used_r1 ++ wsX5_used_r2) ++ wsX50)
def wsX5_home_r1 : List Cond := [Cond.fieldLink RX5 13 "KnotBandModel" "rows" "[I", Cond.fieldLink RX5 37 "KnotBandModel" "now" "[I", Cond.fieldLink RX5 40 "KnotBandModel" "then" "[I", Cond.fieldLink RX5 34 "KnotBandModel" "at" "[I", Cond.fieldLink RX5 7 "KnotBandModel" "threads" "[I", Cond.fieldLink RX5 16 "KnotBandModel" "colours" "[I", Cond.methodLink RX5 59 yX5_isBand, Cond.instanceMethod yX5_isBand, Cond.selects RX5 yX5_isBand yX5_isBand, Cond.initialized RX5, Cond.code yX5_isBand cX5_isBand 2 (some .boolean), Cond.fieldLink RX5 48 "KnotBandModel" "thrown" "I", Cond.fieldLink RX5 52 "KnotBandModel" "bands" "I", Cond.methodLink RX5 55 yX5_right, Cond.instanceMethod yX5_right, Cond.selects RX5 yX5_right yX5_right, Cond.code yX5_right cX5_right 3 (some .boolean), Cond.methodLink RX5 74 yX5_stands, Cond.instanceMethod yX5_stands, Cond.selects RX5 yX5_stands yX5_stands, Cond.code yX5_stands cX5_stands 7 none, Cond.fieldLink RX5 19 "KnotBandModel" "kinds" "[I", Cond.methodLink RX5 63 yX5_knots, Cond.static yX5_knots]
def wsX5_home_r2 : List Cond := [Cond.code yX5_knots cX5_knots 2 (some .int), Cond.methodLink RX5 71 yX5_left, Cond.static yX5_left, Cond.code yX5_left cX5_left 2 (some .int)]
def wsX5_home : List Cond := .code yX5_home cX5_home 6 (some .int) :: ((wsX5_home_r1 ++ wsX5_home_r2) ++ wsX50)
def wsX5_unlike_r1 : List Cond := [Cond.fieldLink RX5 52 "KnotBandModel" "bands" "I", Cond.fieldLink RX5 7 "KnotBandModel" "threads" "[I", Cond.fieldLink RX5 13 "KnotBandModel" "rows" "[I", Cond.methodLink RX5 59 yX5_isBand, Cond.instanceMethod yX5_isBand, Cond.selects RX5 yX5_isBand yX5_isBand, Cond.initialized RX5, Cond.code yX5_isBand cX5_isBand 2 (some .boolean), Cond.fieldLink RX5 48 "KnotBandModel" "thrown" "I", Cond.methodLink RX5 55 yX5_right, Cond.instanceMethod yX5_right, Cond.selects RX5 yX5_right yX5_right, Cond.code yX5_right cX5_right 3 (some .boolean), Cond.methodLink RX5 63 yX5_knots, Cond.static yX5_knots, Cond.code yX5_knots cX5_knots 2 (some .int), Cond.methodLink RX5 82 yX5_showsOf, Cond.instanceMethod yX5_showsOf, Cond.selects RX5 yX5_showsOf yX5_showsOf, Cond.code yX5_showsOf cX5_showsOf 4 (some .int), Cond.fieldLink RX5 16 "KnotBandModel" "colours" "[I", Cond.methodLink RX5 74 yX5_stands, Cond.instanceMethod yX5_stands, Cond.selects RX5 yX5_stands yX5_stands]
def wsX5_unlike_r2 : List Cond := [Cond.code yX5_stands cX5_stands 7 none, Cond.fieldLink RX5 34 "KnotBandModel" "at" "[I", Cond.fieldLink RX5 19 "KnotBandModel" "kinds" "[I", Cond.methodLink RX5 71 yX5_left, Cond.static yX5_left, Cond.code yX5_left cX5_left 2 (some .int), Cond.methodLink RX5 78 yX5_of, Cond.instanceMethod yX5_of, Cond.selects RX5 yX5_of yX5_of, Cond.code yX5_of cX5_of 6 (some .int)]
def wsX5_unlike : List Cond := .code yX5_unlike cX5_unlike 6 (some .int) :: ((wsX5_unlike_r1 ++ wsX5_unlike_r2) ++ wsX50)
def wsX5_isPicture : List Cond := .code yX5_isPicture cX5_isPicture 2 (some .boolean) :: ([.fieldLink RX5 48 "KnotBandModel" "thrown" "I", .fieldLink RX5 86 "KnotBandModel" "pictures" "I", .methodLink RX5 55 yX5_right, .instanceMethod yX5_right, .selects RX5 yX5_right yX5_right, .initialized RX5, .code yX5_right cX5_right 3 (some .boolean)] ++ wsX50)
def wsX5_picture : List Cond := .code yX5_picture cX5_picture 4 (some .int) :: ([.fieldLink RX5 48 "KnotBandModel" "thrown" "I", .fieldLink RX5 86 "KnotBandModel" "pictures" "I", .fieldLink RX5 22 "KnotBandModel" "width" "[I", .fieldLink RX5 25 "KnotBandModel" "high" "[I", .fieldLink RX5 28 "KnotBandModel" "seen" "[I", .fieldLink RX5 31 "KnotBandModel" "must" "[I"] ++ wsX50)
def wsX5_see : List Cond := .code yX5_see cX5_see 6 (some .int) :: ([.fieldLink RX5 25 "KnotBandModel" "high" "[I", .fieldLink RX5 22 "KnotBandModel" "width" "[I", .fieldLink RX5 28 "KnotBandModel" "seen" "[I", .methodLink RX5 89 yX5_isPicture, .instanceMethod yX5_isPicture, .selects RX5 yX5_isPicture yX5_isPicture, .initialized RX5, .code yX5_isPicture cX5_isPicture 2 (some .boolean), .fieldLink RX5 48 "KnotBandModel" "thrown" "I", .fieldLink RX5 86 "KnotBandModel" "pictures" "I", .methodLink RX5 55 yX5_right, .instanceMethod yX5_right, .selects RX5 yX5_right yX5_right, .code yX5_right cX5_right 3 (some .boolean), .methodLink RX5 63 yX5_knots, .static yX5_knots, .code yX5_knots cX5_knots 2 (some .int)] ++ wsX50)
def wsX5_must : List Cond := .code yX5_must cX5_must 5 (some .int) :: ([.fieldLink RX5 22 "KnotBandModel" "width" "[I", .fieldLink RX5 31 "KnotBandModel" "must" "[I", .methodLink RX5 89 yX5_isPicture, .instanceMethod yX5_isPicture, .selects RX5 yX5_isPicture yX5_isPicture, .initialized RX5, .code yX5_isPicture cX5_isPicture 2 (some .boolean), .fieldLink RX5 48 "KnotBandModel" "thrown" "I", .fieldLink RX5 86 "KnotBandModel" "pictures" "I", .methodLink RX5 55 yX5_right, .instanceMethod yX5_right, .selects RX5 yX5_right yX5_right, .code yX5_right cX5_right 3 (some .boolean)] ++ wsX50)
def wsX5_copy_r1 : List Cond := [Cond.fieldLink RX5 52 "KnotBandModel" "bands" "I", Cond.fieldLink RX5 22 "KnotBandModel" "width" "[I", Cond.fieldLink RX5 7 "KnotBandModel" "threads" "[I", Cond.fieldLink RX5 25 "KnotBandModel" "high" "[I", Cond.fieldLink RX5 13 "KnotBandModel" "rows" "[I", Cond.fieldLink RX5 28 "KnotBandModel" "seen" "[I", Cond.methodLink RX5 89 yX5_isPicture, Cond.instanceMethod yX5_isPicture, Cond.selects RX5 yX5_isPicture yX5_isPicture, Cond.initialized RX5, Cond.code yX5_isPicture cX5_isPicture 2 (some .boolean), Cond.fieldLink RX5 48 "KnotBandModel" "thrown" "I", Cond.fieldLink RX5 86 "KnotBandModel" "pictures" "I", Cond.methodLink RX5 55 yX5_right, Cond.instanceMethod yX5_right, Cond.selects RX5 yX5_right yX5_right, Cond.code yX5_right cX5_right 3 (some .boolean), Cond.methodLink RX5 63 yX5_knots, Cond.static yX5_knots, Cond.code yX5_knots cX5_knots 2 (some .int), Cond.methodLink RX5 82 yX5_showsOf, Cond.instanceMethod yX5_showsOf, Cond.selects RX5 yX5_showsOf yX5_showsOf, Cond.code yX5_showsOf cX5_showsOf 4 (some .int)]
def wsX5_copy_r2 : List Cond := [Cond.fieldLink RX5 16 "KnotBandModel" "colours" "[I", Cond.methodLink RX5 74 yX5_stands, Cond.instanceMethod yX5_stands, Cond.selects RX5 yX5_stands yX5_stands, Cond.code yX5_stands cX5_stands 7 none, Cond.fieldLink RX5 34 "KnotBandModel" "at" "[I", Cond.fieldLink RX5 19 "KnotBandModel" "kinds" "[I", Cond.methodLink RX5 71 yX5_left, Cond.static yX5_left, Cond.code yX5_left cX5_left 2 (some .int), Cond.methodLink RX5 78 yX5_of, Cond.instanceMethod yX5_of, Cond.selects RX5 yX5_of yX5_of, Cond.code yX5_of cX5_of 6 (some .int)]
def wsX5_copy : List Cond := .code yX5_copy cX5_copy 5 (some .boolean) :: ((wsX5_copy_r1 ++ wsX5_copy_r2) ++ wsX50)
def wsX5_digit : List Cond := .code yX5_digit cX5_digit 3 (some .int) :: ([])
def wsX5_swapped : List Cond := .code yX5_swapped cX5_swapped 6 (some .int) :: ([])
def wsX5_changed : List Cond := .code yX5_changed cX5_changed 6 (some .int) :: ([.methodLink RX5 63 yX5_knots, .static yX5_knots, .initialized RX5, .code yX5_knots cX5_knots 2 (some .int), .methodLink RX5 71 yX5_left, .static yX5_left, .code yX5_left cX5_left 2 (some .int), .methodLink RX5 92 yX5_swapped, .static yX5_swapped, .code yX5_swapped cX5_swapped 6 (some .int)])
def wsX5_fits : List Cond := .code yX5_fits cX5_fits 7 (some .boolean) :: ([.fieldLink RX5 22 "KnotBandModel" "width" "[I", .fieldLink RX5 28 "KnotBandModel" "seen" "[I", .methodLink RX5 63 yX5_knots, .static yX5_knots, .initialized RX5, .code yX5_knots cX5_knots 2 (some .int), .methodLink RX5 71 yX5_left, .static yX5_left, .code yX5_left cX5_left 2 (some .int), .methodLink RX5 95 yX5_digit, .static yX5_digit, .code yX5_digit cX5_digit 3 (some .int)] ++ wsX50)
def wsX5_states : List Cond := .code yX5_states cX5_states 2 (some .int) :: ([.fieldLink RX5 22 "KnotBandModel" "width" "[I"] ++ wsX50)
def wsX5_leadsBack_r1 : List Cond := [Cond.fieldLink RX5 22 "KnotBandModel" "width" "[I", Cond.fieldLink RX5 44 "KnotBandModel" "can" "[Z", Cond.fieldLink RX5 25 "KnotBandModel" "high" "[I", Cond.methodLink RX5 98 yX5_states, Cond.instanceMethod yX5_states, Cond.selects RX5 yX5_states yX5_states, Cond.initialized RX5, Cond.code yX5_states cX5_states 2 (some .int), Cond.methodLink RX5 102 yX5_fits, Cond.instanceMethod yX5_fits, Cond.selects RX5 yX5_fits yX5_fits, Cond.code yX5_fits cX5_fits 7 (some .boolean), Cond.fieldLink RX5 28 "KnotBandModel" "seen" "[I", Cond.methodLink RX5 63 yX5_knots, Cond.static yX5_knots, Cond.code yX5_knots cX5_knots 2 (some .int), Cond.methodLink RX5 71 yX5_left, Cond.static yX5_left, Cond.code yX5_left cX5_left 2 (some .int), Cond.methodLink RX5 95 yX5_digit, Cond.static yX5_digit, Cond.code yX5_digit cX5_digit 3 (some .int), Cond.methodLink RX5 105 yX5_changed, Cond.static yX5_changed]
def wsX5_leadsBack_r2 : List Cond := [Cond.code yX5_changed cX5_changed 6 (some .int), Cond.methodLink RX5 92 yX5_swapped, Cond.static yX5_swapped, Cond.code yX5_swapped cX5_swapped 6 (some .int)]
def wsX5_leadsBack : List Cond := .code yX5_leadsBack cX5_leadsBack 6 none :: ((wsX5_leadsBack_r1 ++ wsX5_leadsBack_r2) ++ wsX50)
def wsX5_isStart : List Cond := .code yX5_isStart cX5_isStart 5 (some .boolean) :: ([.fieldLink RX5 44 "KnotBandModel" "can" "[Z", .fieldLink RX5 22 "KnotBandModel" "width" "[I", .fieldLink RX5 31 "KnotBandModel" "must" "[I", .methodLink RX5 95 yX5_digit, .static yX5_digit, .initialized RX5, .code yX5_digit cX5_digit 3 (some .int)] ++ wsX50)
def wsX5_first_r1 : List Cond := [Cond.methodLink RX5 109 yX5_leadsBack, Cond.instanceMethod yX5_leadsBack, Cond.selects RX5 yX5_leadsBack yX5_leadsBack, Cond.initialized RX5, Cond.code yX5_leadsBack cX5_leadsBack 6 none, Cond.fieldLink RX5 22 "KnotBandModel" "width" "[I", Cond.fieldLink RX5 44 "KnotBandModel" "can" "[Z", Cond.fieldLink RX5 25 "KnotBandModel" "high" "[I", Cond.methodLink RX5 98 yX5_states, Cond.instanceMethod yX5_states, Cond.selects RX5 yX5_states yX5_states, Cond.code yX5_states cX5_states 2 (some .int), Cond.methodLink RX5 102 yX5_fits, Cond.instanceMethod yX5_fits, Cond.selects RX5 yX5_fits yX5_fits, Cond.code yX5_fits cX5_fits 7 (some .boolean), Cond.fieldLink RX5 28 "KnotBandModel" "seen" "[I", Cond.methodLink RX5 63 yX5_knots, Cond.static yX5_knots, Cond.code yX5_knots cX5_knots 2 (some .int), Cond.methodLink RX5 71 yX5_left, Cond.static yX5_left, Cond.code yX5_left cX5_left 2 (some .int), Cond.methodLink RX5 95 yX5_digit]
def wsX5_first_r2 : List Cond := [Cond.static yX5_digit, Cond.code yX5_digit cX5_digit 3 (some .int), Cond.methodLink RX5 105 yX5_changed, Cond.static yX5_changed, Cond.code yX5_changed cX5_changed 6 (some .int), Cond.methodLink RX5 92 yX5_swapped, Cond.static yX5_swapped, Cond.code yX5_swapped cX5_swapped 6 (some .int), Cond.methodLink RX5 113 yX5_isStart, Cond.instanceMethod yX5_isStart, Cond.selects RX5 yX5_isStart yX5_isStart, Cond.code yX5_isStart cX5_isStart 5 (some .boolean), Cond.fieldLink RX5 31 "KnotBandModel" "must" "[I"]
def wsX5_first : List Cond := .code yX5_first cX5_first 3 (some .int) :: ((wsX5_first_r1 ++ wsX5_first_r2) ++ wsX50)
def wsX5_starts_r1 : List Cond := [Cond.methodLink RX5 89 yX5_isPicture, Cond.instanceMethod yX5_isPicture, Cond.selects RX5 yX5_isPicture yX5_isPicture, Cond.initialized RX5, Cond.code yX5_isPicture cX5_isPicture 2 (some .boolean), Cond.fieldLink RX5 48 "KnotBandModel" "thrown" "I", Cond.fieldLink RX5 86 "KnotBandModel" "pictures" "I", Cond.methodLink RX5 55 yX5_right, Cond.instanceMethod yX5_right, Cond.selects RX5 yX5_right yX5_right, Cond.code yX5_right cX5_right 3 (some .boolean), Cond.methodLink RX5 109 yX5_leadsBack, Cond.instanceMethod yX5_leadsBack, Cond.selects RX5 yX5_leadsBack yX5_leadsBack, Cond.code yX5_leadsBack cX5_leadsBack 6 none, Cond.fieldLink RX5 22 "KnotBandModel" "width" "[I", Cond.fieldLink RX5 44 "KnotBandModel" "can" "[Z", Cond.fieldLink RX5 25 "KnotBandModel" "high" "[I", Cond.methodLink RX5 98 yX5_states, Cond.instanceMethod yX5_states, Cond.selects RX5 yX5_states yX5_states, Cond.code yX5_states cX5_states 2 (some .int), Cond.methodLink RX5 102 yX5_fits, Cond.instanceMethod yX5_fits]
def wsX5_starts_r2 : List Cond := [Cond.selects RX5 yX5_fits yX5_fits, Cond.code yX5_fits cX5_fits 7 (some .boolean), Cond.fieldLink RX5 28 "KnotBandModel" "seen" "[I", Cond.methodLink RX5 63 yX5_knots, Cond.static yX5_knots, Cond.code yX5_knots cX5_knots 2 (some .int), Cond.methodLink RX5 71 yX5_left, Cond.static yX5_left, Cond.code yX5_left cX5_left 2 (some .int), Cond.methodLink RX5 95 yX5_digit, Cond.static yX5_digit, Cond.code yX5_digit cX5_digit 3 (some .int), Cond.methodLink RX5 105 yX5_changed, Cond.static yX5_changed, Cond.code yX5_changed cX5_changed 6 (some .int), Cond.methodLink RX5 92 yX5_swapped, Cond.static yX5_swapped, Cond.code yX5_swapped cX5_swapped 6 (some .int), Cond.methodLink RX5 113 yX5_isStart, Cond.instanceMethod yX5_isStart, Cond.selects RX5 yX5_isStart yX5_isStart, Cond.code yX5_isStart cX5_isStart 5 (some .boolean), Cond.fieldLink RX5 31 "KnotBandModel" "must" "[I"]
def wsX5_starts : List Cond := .code yX5_starts cX5_starts 4 (some .int) :: ((wsX5_starts_r1 ++ wsX5_starts_r2) ++ wsX50)
def wsX5_start_r1 : List Cond := [Cond.fieldLink RX5 22 "KnotBandModel" "width" "[I", Cond.methodLink RX5 89 yX5_isPicture, Cond.instanceMethod yX5_isPicture, Cond.selects RX5 yX5_isPicture yX5_isPicture, Cond.initialized RX5, Cond.code yX5_isPicture cX5_isPicture 2 (some .boolean), Cond.fieldLink RX5 48 "KnotBandModel" "thrown" "I", Cond.fieldLink RX5 86 "KnotBandModel" "pictures" "I", Cond.methodLink RX5 55 yX5_right, Cond.instanceMethod yX5_right, Cond.selects RX5 yX5_right yX5_right, Cond.code yX5_right cX5_right 3 (some .boolean), Cond.methodLink RX5 117 yX5_first, Cond.instanceMethod yX5_first, Cond.selects RX5 yX5_first yX5_first, Cond.code yX5_first cX5_first 3 (some .int), Cond.methodLink RX5 109 yX5_leadsBack, Cond.instanceMethod yX5_leadsBack, Cond.selects RX5 yX5_leadsBack yX5_leadsBack, Cond.code yX5_leadsBack cX5_leadsBack 6 none, Cond.fieldLink RX5 44 "KnotBandModel" "can" "[Z", Cond.fieldLink RX5 25 "KnotBandModel" "high" "[I", Cond.methodLink RX5 98 yX5_states, Cond.instanceMethod yX5_states]
def wsX5_start_r2 : List Cond := [Cond.selects RX5 yX5_states yX5_states, Cond.code yX5_states cX5_states 2 (some .int), Cond.methodLink RX5 102 yX5_fits, Cond.instanceMethod yX5_fits, Cond.selects RX5 yX5_fits yX5_fits, Cond.code yX5_fits cX5_fits 7 (some .boolean), Cond.fieldLink RX5 28 "KnotBandModel" "seen" "[I", Cond.methodLink RX5 63 yX5_knots, Cond.static yX5_knots, Cond.code yX5_knots cX5_knots 2 (some .int), Cond.methodLink RX5 71 yX5_left, Cond.static yX5_left, Cond.code yX5_left cX5_left 2 (some .int), Cond.methodLink RX5 95 yX5_digit, Cond.static yX5_digit, Cond.code yX5_digit cX5_digit 3 (some .int), Cond.methodLink RX5 105 yX5_changed, Cond.static yX5_changed, Cond.code yX5_changed cX5_changed 6 (some .int), Cond.methodLink RX5 92 yX5_swapped, Cond.static yX5_swapped, Cond.code yX5_swapped cX5_swapped 6 (some .int), Cond.methodLink RX5 113 yX5_isStart, Cond.instanceMethod yX5_isStart]
def wsX5_start_r3 : List Cond := [Cond.selects RX5 yX5_isStart yX5_isStart, Cond.code yX5_isStart cX5_isStart 5 (some .boolean), Cond.fieldLink RX5 31 "KnotBandModel" "must" "[I"]
def wsX5_start : List Cond := .code yX5_start cX5_start 4 (some .int) :: ((wsX5_start_r1 ++ (wsX5_start_r2 ++ wsX5_start_r3)) ++ wsX50)
def wsX5_isOpen : List Cond := .code yX5_isOpen cX5_isOpen 7 (some .boolean) :: ([.fieldLink RX5 22 "KnotBandModel" "width" "[I", .fieldLink RX5 44 "KnotBandModel" "can" "[Z", .methodLink RX5 63 yX5_knots, .static yX5_knots, .initialized RX5, .code yX5_knots cX5_knots 2 (some .int), .methodLink RX5 105 yX5_changed, .static yX5_changed, .code yX5_changed cX5_changed 6 (some .int), .methodLink RX5 71 yX5_left, .static yX5_left, .code yX5_left cX5_left 2 (some .int), .methodLink RX5 92 yX5_swapped, .static yX5_swapped, .code yX5_swapped cX5_swapped 6 (some .int)] ++ wsX50)
def wsX5_isKind : List Cond := .code yX5_isKind cX5_isKind 7 (some .boolean) :: ([.methodLink RX5 71 yX5_left, .static yX5_left, .initialized RX5, .code yX5_left cX5_left 2 (some .int), .methodLink RX5 95 yX5_digit, .static yX5_digit, .code yX5_digit cX5_digit 3 (some .int)])
def wsX5_tie_r1 : List Cond := [Cond.fieldLink RX5 52 "KnotBandModel" "bands" "I", Cond.fieldLink RX5 22 "KnotBandModel" "width" "[I", Cond.fieldLink RX5 7 "KnotBandModel" "threads" "[I", Cond.fieldLink RX5 13 "KnotBandModel" "rows" "[I", Cond.fieldLink RX5 25 "KnotBandModel" "high" "[I", Cond.fieldLink RX5 16 "KnotBandModel" "colours" "[I", Cond.fieldLink RX5 28 "KnotBandModel" "seen" "[I", Cond.fieldLink RX5 19 "KnotBandModel" "kinds" "[I", Cond.methodLink RX5 89 yX5_isPicture, Cond.instanceMethod yX5_isPicture, Cond.selects RX5 yX5_isPicture yX5_isPicture, Cond.initialized RX5, Cond.code yX5_isPicture cX5_isPicture 2 (some .boolean), Cond.fieldLink RX5 48 "KnotBandModel" "thrown" "I", Cond.fieldLink RX5 86 "KnotBandModel" "pictures" "I", Cond.methodLink RX5 55 yX5_right, Cond.instanceMethod yX5_right, Cond.selects RX5 yX5_right yX5_right, Cond.code yX5_right cX5_right 3 (some .boolean), Cond.methodLink RX5 117 yX5_first, Cond.instanceMethod yX5_first, Cond.selects RX5 yX5_first yX5_first, Cond.code yX5_first cX5_first 3 (some .int), Cond.methodLink RX5 109 yX5_leadsBack]
def wsX5_tie_r2 : List Cond := [Cond.instanceMethod yX5_leadsBack, Cond.selects RX5 yX5_leadsBack yX5_leadsBack, Cond.code yX5_leadsBack cX5_leadsBack 6 none, Cond.fieldLink RX5 44 "KnotBandModel" "can" "[Z", Cond.methodLink RX5 98 yX5_states, Cond.instanceMethod yX5_states, Cond.selects RX5 yX5_states yX5_states, Cond.code yX5_states cX5_states 2 (some .int), Cond.methodLink RX5 102 yX5_fits, Cond.instanceMethod yX5_fits, Cond.selects RX5 yX5_fits yX5_fits, Cond.code yX5_fits cX5_fits 7 (some .boolean), Cond.methodLink RX5 63 yX5_knots, Cond.static yX5_knots, Cond.code yX5_knots cX5_knots 2 (some .int), Cond.methodLink RX5 71 yX5_left, Cond.static yX5_left, Cond.code yX5_left cX5_left 2 (some .int), Cond.methodLink RX5 95 yX5_digit, Cond.static yX5_digit, Cond.code yX5_digit cX5_digit 3 (some .int), Cond.methodLink RX5 105 yX5_changed, Cond.static yX5_changed, Cond.code yX5_changed cX5_changed 6 (some .int)]
def wsX5_tie_r3 : List Cond := [Cond.methodLink RX5 92 yX5_swapped, Cond.static yX5_swapped, Cond.code yX5_swapped cX5_swapped 6 (some .int), Cond.methodLink RX5 113 yX5_isStart, Cond.instanceMethod yX5_isStart, Cond.selects RX5 yX5_isStart yX5_isStart, Cond.code yX5_isStart cX5_isStart 5 (some .boolean), Cond.fieldLink RX5 31 "KnotBandModel" "must" "[I", Cond.methodLink RX5 120 yX5_isKind, Cond.instanceMethod yX5_isKind, Cond.selects RX5 yX5_isKind yX5_isKind, Cond.code yX5_isKind cX5_isKind 7 (some .boolean), Cond.methodLink RX5 124 yX5_isOpen, Cond.instanceMethod yX5_isOpen, Cond.selects RX5 yX5_isOpen yX5_isOpen, Cond.code yX5_isOpen cX5_isOpen 7 (some .boolean)]
def wsX5_tie : List Cond := .code yX5_tie cX5_tie 10 (some .int) :: ((wsX5_tie_r1 ++ (wsX5_tie_r2 ++ wsX5_tie_r3)) ++ wsX50)
def wsX5_suspect_r1 : List Cond := [Cond.fieldLink RX5 25 "KnotBandModel" "high" "[I", Cond.fieldLink RX5 22 "KnotBandModel" "width" "[I", Cond.fieldLink RX5 28 "KnotBandModel" "seen" "[I", Cond.methodLink RX5 89 yX5_isPicture, Cond.instanceMethod yX5_isPicture, Cond.selects RX5 yX5_isPicture yX5_isPicture, Cond.initialized RX5, Cond.code yX5_isPicture cX5_isPicture 2 (some .boolean), Cond.fieldLink RX5 48 "KnotBandModel" "thrown" "I", Cond.fieldLink RX5 86 "KnotBandModel" "pictures" "I", Cond.methodLink RX5 55 yX5_right, Cond.instanceMethod yX5_right, Cond.selects RX5 yX5_right yX5_right, Cond.code yX5_right cX5_right 3 (some .boolean), Cond.methodLink RX5 117 yX5_first, Cond.instanceMethod yX5_first, Cond.selects RX5 yX5_first yX5_first, Cond.code yX5_first cX5_first 3 (some .int), Cond.methodLink RX5 109 yX5_leadsBack, Cond.instanceMethod yX5_leadsBack, Cond.selects RX5 yX5_leadsBack yX5_leadsBack, Cond.code yX5_leadsBack cX5_leadsBack 6 none, Cond.fieldLink RX5 44 "KnotBandModel" "can" "[Z", Cond.methodLink RX5 98 yX5_states]
def wsX5_suspect_r2 : List Cond := [Cond.instanceMethod yX5_states, Cond.selects RX5 yX5_states yX5_states, Cond.code yX5_states cX5_states 2 (some .int), Cond.methodLink RX5 102 yX5_fits, Cond.instanceMethod yX5_fits, Cond.selects RX5 yX5_fits yX5_fits, Cond.code yX5_fits cX5_fits 7 (some .boolean), Cond.methodLink RX5 63 yX5_knots, Cond.static yX5_knots, Cond.code yX5_knots cX5_knots 2 (some .int), Cond.methodLink RX5 71 yX5_left, Cond.static yX5_left, Cond.code yX5_left cX5_left 2 (some .int), Cond.methodLink RX5 95 yX5_digit, Cond.static yX5_digit, Cond.code yX5_digit cX5_digit 3 (some .int), Cond.methodLink RX5 105 yX5_changed, Cond.static yX5_changed, Cond.code yX5_changed cX5_changed 6 (some .int), Cond.methodLink RX5 92 yX5_swapped, Cond.static yX5_swapped, Cond.code yX5_swapped cX5_swapped 6 (some .int), Cond.methodLink RX5 113 yX5_isStart, Cond.instanceMethod yX5_isStart]
def wsX5_suspect_r3 : List Cond := [Cond.selects RX5 yX5_isStart yX5_isStart, Cond.code yX5_isStart cX5_isStart 5 (some .boolean), Cond.fieldLink RX5 31 "KnotBandModel" "must" "[I"]
def wsX5_suspect : List Cond := .code yX5_suspect cX5_suspect 10 (some .int) :: ((wsX5_suspect_r1 ++ (wsX5_suspect_r2 ++ wsX5_suspect_r3)) ++ wsX50)
def wsX5_count : List Cond := .code yX5_count cX5_count 2 (some .int) :: ([.fieldLink RX5 48 "KnotBandModel" "thrown" "I", .fieldLink RX5 52 "KnotBandModel" "bands" "I", .fieldLink RX5 86 "KnotBandModel" "pictures" "I", .methodLink RX5 55 yX5_right, .instanceMethod yX5_right, .selects RX5 yX5_right yX5_right, .initialized RX5, .code yX5_right cX5_right 3 (some .boolean)] ++ wsX50)
def wsL_colour : List Cond := .codeWith yL_colour cL_colour 6 (some .int) [(0, 12, 15, 13), (0, 12, 19, 15)] :: ([.classLink RL 13 "java/util/NoSuchElementException", .classLink RL 15 "java/lang/IllegalArgumentException", .methodLink RL 7 yX4_colour, .instanceMethod yX4_colour, .selects RX4 yX4_colour yX4_colour, .initialized RX4, .code yX4_colour cX4_colour 6 (some .int), .methodLink RX4 44 yX4_bandAt, .instanceMethod yX4_bandAt, .selects RX4 yX4_bandAt yX4_bandAt, .code yX4_bandAt cX4_bandAt 2 (some (.object "KnotBand$Band")), .fieldLink RX4 28 "KnotBand" "bandCount" "I", .fieldLink RX4 11 "KnotBand" "bands" "[LKnotBand$Band;", .methodLink RX4 48 yX4_needElement, .static yX4_needElement, .code yX4_needElement cX4_needElement 2 none, .classLink RX4 147 "java/util/NoSuchElementException", .initialized "java/util/NoSuchElementException", .methodLink RX4 52 yX4_needArgument, .static yX4_needArgument, .code yX4_needArgument cX4_needArgument 2 none, .classLink RX4 96 "java/lang/IllegalArgumentException", .initialized "java/lang/IllegalArgumentException"] ++ wsX00 ++ wsX40 ++ (vx_atN RX4 151).filter goodWord ++ (vx_atS RX4 100 "java/lang/IllegalArgumentException" ["java/lang/RuntimeException", "java/lang/Exception"]).filter goodWord)
def wsL_row : List Cond := .codeWith yL_row cL_row 5 (some .int) [(0, 10, 13, 13)] :: ([.classLink RL 13 "java/util/NoSuchElementException", .methodLink RL 17 yX4_row, .instanceMethod yX4_row, .selects RX4 yX4_row yX4_row, .initialized RX4, .code yX4_row cX4_row 4 (some .int), .methodLink RX4 44 yX4_bandAt, .instanceMethod yX4_bandAt, .selects RX4 yX4_bandAt yX4_bandAt, .code yX4_bandAt cX4_bandAt 2 (some (.object "KnotBand$Band")), .fieldLink RX4 28 "KnotBand" "bandCount" "I", .fieldLink RX4 11 "KnotBand" "bands" "[LKnotBand$Band;", .methodLink RX4 48 yX4_needElement, .static yX4_needElement, .code yX4_needElement cX4_needElement 2 none, .classLink RX4 147 "java/util/NoSuchElementException", .initialized "java/util/NoSuchElementException"] ++ wsX00 ++ wsX40 ++ (vx_atN RX4 151).filter goodWord)
def wsL_knot_r1 : List Cond := [Cond.classLink RL 13 "java/util/NoSuchElementException", Cond.classLink RL 15 "java/lang/IllegalArgumentException", Cond.methodLink RL 21 yX4_knot, Cond.instanceMethod yX4_knot, Cond.selects RX4 yX4_knot yX4_knot, Cond.initialized RX4, Cond.code yX4_knot cX4_knot 7 (some .int), Cond.methodLink RX4 44 yX4_bandAt, Cond.instanceMethod yX4_bandAt, Cond.selects RX4 yX4_bandAt yX4_bandAt, Cond.code yX4_bandAt cX4_bandAt 2 (some (.object "KnotBand$Band")), Cond.fieldLink RX4 28 "KnotBand" "bandCount" "I", Cond.fieldLink RX4 11 "KnotBand" "bands" "[LKnotBand$Band;", Cond.methodLink RX4 48 yX4_needElement, Cond.static yX4_needElement, Cond.code yX4_needElement cX4_needElement 2 none, Cond.classLink RX4 147 "java/util/NoSuchElementException", Cond.initialized "java/util/NoSuchElementException", Cond.methodLink RX4 65 yX4_knotsIn, Cond.static yX4_knotsIn, Cond.code yX4_knotsIn cX4_knotsIn 2 (some .int), Cond.methodLink RX4 69 yX4_kindIn, Cond.static yX4_kindIn, Cond.code yX4_kindIn cX4_kindIn 2 (some .int)]
def wsL_knot_r2 : List Cond := [Cond.methodLink RX4 52 yX4_needArgument, Cond.static yX4_needArgument, Cond.code yX4_needArgument cX4_needArgument 2 none, Cond.classLink RX4 96 "java/lang/IllegalArgumentException", Cond.initialized "java/lang/IllegalArgumentException", Cond.methodLink RX4 72 yX4_withKind, Cond.static yX4_withKind, Cond.code yX4_withKind cX4_withKind 3 (some .int)]
def wsL_knot : List Cond := .codeWith yL_knot cL_knot 7 (some .int) [(0, 14, 17, 13), (0, 14, 21, 15)] :: ((wsL_knot_r1 ++ wsL_knot_r2) ++ wsX00 ++ wsX40 ++ (vx_atN RX4 151).filter goodWord ++ (vx_atS RX4 100 "java/lang/IllegalArgumentException" ["java/lang/RuntimeException", "java/lang/Exception"]).filter goodWord)
def wsL_shows_r1 : List Cond := [Cond.classLink RL 13 "java/util/NoSuchElementException", Cond.methodLink RL 25 yX4_shows, Cond.instanceMethod yX4_shows, Cond.selects RX4 yX4_shows yX4_shows, Cond.initialized RX4, Cond.code yX4_shows cX4_shows 5 (some .int), Cond.methodLink RX4 44 yX4_bandAt, Cond.instanceMethod yX4_bandAt, Cond.selects RX4 yX4_bandAt yX4_bandAt, Cond.code yX4_bandAt cX4_bandAt 2 (some (.object "KnotBand$Band")), Cond.fieldLink RX4 28 "KnotBand" "bandCount" "I", Cond.fieldLink RX4 11 "KnotBand" "bands" "[LKnotBand$Band;", Cond.methodLink RX4 48 yX4_needElement, Cond.static yX4_needElement, Cond.code yX4_needElement cX4_needElement 2 none, Cond.classLink RX4 147 "java/util/NoSuchElementException", Cond.initialized "java/util/NoSuchElementException", Cond.methodLink RX4 65 yX4_knotsIn, Cond.static yX4_knotsIn, Cond.code yX4_knotsIn cX4_knotsIn 2 (some .int), Cond.methodLink RX4 76 yX0_walk, Cond.instanceMethod yX0_walk, Cond.selects RX0 yX0_walk yX0_walk, Cond.initialized RX0]
def wsL_shows_r2 : List Cond := [Cond.code yX0_walk cX0_walk 5 none, Cond.fieldLink RX0 18 "KnotBand$Band" "threads" "I", Cond.fieldLink RX0 25 "KnotBand$Band" "standing" "[I", Cond.fieldLink RX0 28 "KnotBand$Band" "spent" "[I", Cond.methodLink RX0 52 yX0_walkKnot, Cond.instanceMethod yX0_walkKnot, Cond.selects RX0 yX0_walkKnot yX0_walkKnot, Cond.code yX0_walkKnot cX0_walkKnot 9 none, Cond.fieldLink RX0 15 "KnotBand$Band" "kinds" "[I", Cond.fieldLink RX0 31 "KnotBand$Band" "shown" "[I", Cond.fieldLink RX0 9 "KnotBand$Band" "colours" "[I", Cond.static yX4_leftPlaceOf, Cond.code yX4_leftPlaceOf cX4_leftPlaceOf 2 (some .int), Cond.static yX4_kindIn, Cond.code yX4_kindIn cX4_kindIn 2 (some .int), Cond.static yX4_showingPlace, Cond.code yX4_showingPlace cX4_showingPlace 2 (some .int), Cond.static yX4_spotOf, Cond.code yX4_spotOf cX4_spotOf 2 (some .int), Cond.methodLink RX4 83 yX4_spotOf]
def wsL_shows : List Cond := .codeWith yL_shows cL_shows 6 (some .int) [(0, 12, 15, 13)] :: ((wsL_shows_r1 ++ wsL_shows_r2) ++ wsX00 ++ wsX40 ++ (vx_atN RX4 151).filter goodWord)
def wsL_thread_r1 : List Cond := [Cond.classLink RL 13 "java/util/NoSuchElementException", Cond.methodLink RL 28 yX4_thread, Cond.instanceMethod yX4_thread, Cond.selects RX4 yX4_thread yX4_thread, Cond.initialized RX4, Cond.code yX4_thread cX4_thread 5 (some .int), Cond.methodLink RX4 44 yX4_bandAt, Cond.instanceMethod yX4_bandAt, Cond.selects RX4 yX4_bandAt yX4_bandAt, Cond.code yX4_bandAt cX4_bandAt 2 (some (.object "KnotBand$Band")), Cond.fieldLink RX4 28 "KnotBand" "bandCount" "I", Cond.fieldLink RX4 11 "KnotBand" "bands" "[LKnotBand$Band;", Cond.methodLink RX4 48 yX4_needElement, Cond.static yX4_needElement, Cond.code yX4_needElement cX4_needElement 2 none, Cond.classLink RX4 147 "java/util/NoSuchElementException", Cond.initialized "java/util/NoSuchElementException", Cond.methodLink RX4 76 yX0_walk, Cond.instanceMethod yX0_walk, Cond.selects RX0 yX0_walk yX0_walk, Cond.initialized RX0, Cond.code yX0_walk cX0_walk 5 none, Cond.fieldLink RX0 18 "KnotBand$Band" "threads" "I", Cond.fieldLink RX0 25 "KnotBand$Band" "standing" "[I"]
def wsL_thread_r2 : List Cond := [Cond.fieldLink RX0 28 "KnotBand$Band" "spent" "[I", Cond.static yX4_knotsIn, Cond.code yX4_knotsIn cX4_knotsIn 2 (some .int), Cond.methodLink RX0 52 yX0_walkKnot, Cond.instanceMethod yX0_walkKnot, Cond.selects RX0 yX0_walkKnot yX0_walkKnot, Cond.code yX0_walkKnot cX0_walkKnot 9 none, Cond.fieldLink RX0 15 "KnotBand$Band" "kinds" "[I", Cond.fieldLink RX0 31 "KnotBand$Band" "shown" "[I", Cond.fieldLink RX0 9 "KnotBand$Band" "colours" "[I", Cond.static yX4_leftPlaceOf, Cond.code yX4_leftPlaceOf cX4_leftPlaceOf 2 (some .int), Cond.static yX4_kindIn, Cond.code yX4_kindIn cX4_kindIn 2 (some .int), Cond.static yX4_showingPlace, Cond.code yX4_showingPlace cX4_showingPlace 2 (some .int), Cond.static yX4_spotOf, Cond.code yX4_spotOf cX4_spotOf 2 (some .int)]
def wsL_thread : List Cond := .codeWith yL_thread cL_thread 6 (some .int) [(0, 12, 15, 13)] :: ((wsL_thread_r1 ++ wsL_thread_r2) ++ wsX00 ++ wsX40 ++ (vx_atN RX4 151).filter goodWord)
def wsL_used_r1 : List Cond := [Cond.classLink RL 13 "java/util/NoSuchElementException", Cond.methodLink RL 31 yX4_used, Cond.instanceMethod yX4_used, Cond.selects RX4 yX4_used yX4_used, Cond.initialized RX4, Cond.code yX4_used cX4_used 4 (some .int), Cond.methodLink RX4 44 yX4_bandAt, Cond.instanceMethod yX4_bandAt, Cond.selects RX4 yX4_bandAt yX4_bandAt, Cond.code yX4_bandAt cX4_bandAt 2 (some (.object "KnotBand$Band")), Cond.fieldLink RX4 28 "KnotBand" "bandCount" "I", Cond.fieldLink RX4 11 "KnotBand" "bands" "[LKnotBand$Band;", Cond.methodLink RX4 48 yX4_needElement, Cond.static yX4_needElement, Cond.code yX4_needElement cX4_needElement 2 none, Cond.classLink RX4 147 "java/util/NoSuchElementException", Cond.initialized "java/util/NoSuchElementException", Cond.methodLink RX4 76 yX0_walk, Cond.instanceMethod yX0_walk, Cond.selects RX0 yX0_walk yX0_walk, Cond.initialized RX0, Cond.code yX0_walk cX0_walk 5 none, Cond.fieldLink RX0 18 "KnotBand$Band" "threads" "I", Cond.fieldLink RX0 25 "KnotBand$Band" "standing" "[I"]
def wsL_used_r2 : List Cond := [Cond.fieldLink RX0 28 "KnotBand$Band" "spent" "[I", Cond.static yX4_knotsIn, Cond.code yX4_knotsIn cX4_knotsIn 2 (some .int), Cond.methodLink RX0 52 yX0_walkKnot, Cond.instanceMethod yX0_walkKnot, Cond.selects RX0 yX0_walkKnot yX0_walkKnot, Cond.code yX0_walkKnot cX0_walkKnot 9 none, Cond.fieldLink RX0 15 "KnotBand$Band" "kinds" "[I", Cond.fieldLink RX0 31 "KnotBand$Band" "shown" "[I", Cond.fieldLink RX0 9 "KnotBand$Band" "colours" "[I", Cond.static yX4_leftPlaceOf, Cond.code yX4_leftPlaceOf cX4_leftPlaceOf 2 (some .int), Cond.static yX4_kindIn, Cond.code yX4_kindIn cX4_kindIn 2 (some .int), Cond.static yX4_showingPlace, Cond.code yX4_showingPlace cX4_showingPlace 2 (some .int), Cond.static yX4_spotOf, Cond.code yX4_spotOf cX4_spotOf 2 (some .int)]
def wsL_used : List Cond := .codeWith yL_used cL_used 5 (some .int) [(0, 10, 13, 13)] :: ((wsL_used_r1 ++ wsL_used_r2) ++ wsX00 ++ wsX40 ++ (vx_atN RX4 151).filter goodWord)
def wsL_home_r1 : List Cond := [Cond.classLink RL 13 "java/util/NoSuchElementException", Cond.methodLink RL 34 yX4_home, Cond.instanceMethod yX4_home, Cond.selects RX4 yX4_home yX4_home, Cond.initialized RX4, Cond.code yX4_home cX4_home 4 (some .int), Cond.methodLink RX4 44 yX4_bandAt, Cond.instanceMethod yX4_bandAt, Cond.selects RX4 yX4_bandAt yX4_bandAt, Cond.code yX4_bandAt cX4_bandAt 2 (some (.object "KnotBand$Band")), Cond.fieldLink RX4 28 "KnotBand" "bandCount" "I", Cond.fieldLink RX4 11 "KnotBand" "bands" "[LKnotBand$Band;", Cond.methodLink RX4 48 yX4_needElement, Cond.static yX4_needElement, Cond.code yX4_needElement cX4_needElement 2 none, Cond.classLink RX4 147 "java/util/NoSuchElementException", Cond.initialized "java/util/NoSuchElementException", Cond.methodLink RX4 92 yX0_timesToHome, Cond.instanceMethod yX0_timesToHome, Cond.selects RX0 yX0_timesToHome yX0_timesToHome, Cond.initialized RX0, Cond.code yX0_timesToHome cX0_timesToHome 4 (some .int), Cond.fieldLink RX0 22 "KnotBand$Band" "rows" "I", Cond.fieldLink RX0 18 "KnotBand$Band" "threads" "I"]
def wsL_home_r2 : List Cond := [Cond.fieldLink RX0 34 "KnotBand$Band" "repeated" "[I", Cond.fieldLink RX0 25 "KnotBand$Band" "standing" "[I", Cond.methodLink RX0 68 yX0_walk, Cond.instanceMethod yX0_walk, Cond.selects RX0 yX0_walk yX0_walk, Cond.code yX0_walk cX0_walk 5 none, Cond.fieldLink RX0 28 "KnotBand$Band" "spent" "[I", Cond.static yX4_knotsIn, Cond.code yX4_knotsIn cX4_knotsIn 2 (some .int), Cond.methodLink RX0 52 yX0_walkKnot, Cond.instanceMethod yX0_walkKnot, Cond.selects RX0 yX0_walkKnot yX0_walkKnot, Cond.code yX0_walkKnot cX0_walkKnot 9 none, Cond.fieldLink RX0 15 "KnotBand$Band" "kinds" "[I", Cond.fieldLink RX0 31 "KnotBand$Band" "shown" "[I", Cond.fieldLink RX0 9 "KnotBand$Band" "colours" "[I", Cond.static yX4_leftPlaceOf, Cond.code yX4_leftPlaceOf cX4_leftPlaceOf 2 (some .int), Cond.static yX4_kindIn, Cond.code yX4_kindIn cX4_kindIn 2 (some .int), Cond.static yX4_showingPlace, Cond.code yX4_showingPlace cX4_showingPlace 2 (some .int), Cond.static yX4_spotOf, Cond.code yX4_spotOf cX4_spotOf 2 (some .int)]
def wsL_home_r3 : List Cond := [Cond.methodLink RX0 72 yX0_isHome, Cond.instanceMethod yX0_isHome, Cond.selects RX0 yX0_isHome yX0_isHome, Cond.code yX0_isHome cX0_isHome 5 (some .boolean)]
def wsL_home : List Cond := .codeWith yL_home cL_home 5 (some .int) [(0, 10, 13, 13)] :: ((wsL_home_r1 ++ (wsL_home_r2 ++ wsL_home_r3)) ++ wsX00 ++ wsX40 ++ (vx_atN RX4 151).filter goodWord)
def wsL_unlike_r1 : List Cond := [Cond.classLink RL 13 "java/util/NoSuchElementException", Cond.classLink RL 15 "java/lang/IllegalArgumentException", Cond.methodLink RL 37 yX4_unlike, Cond.instanceMethod yX4_unlike, Cond.selects RX4 yX4_unlike yX4_unlike, Cond.initialized RX4, Cond.code yX4_unlike cX4_unlike 10 (some .int), Cond.classLink RX4 96 "java/lang/IllegalArgumentException", Cond.initialized "java/lang/IllegalArgumentException", Cond.methodLink RX4 44 yX4_bandAt, Cond.instanceMethod yX4_bandAt, Cond.selects RX4 yX4_bandAt yX4_bandAt, Cond.code yX4_bandAt cX4_bandAt 2 (some (.object "KnotBand$Band")), Cond.fieldLink RX4 28 "KnotBand" "bandCount" "I", Cond.fieldLink RX4 11 "KnotBand" "bands" "[LKnotBand$Band;", Cond.methodLink RX4 48 yX4_needElement, Cond.static yX4_needElement, Cond.code yX4_needElement cX4_needElement 2 none, Cond.classLink RX4 147 "java/util/NoSuchElementException", Cond.initialized "java/util/NoSuchElementException", Cond.methodLink RX4 76 yX0_walk, Cond.instanceMethod yX0_walk, Cond.selects RX0 yX0_walk yX0_walk, Cond.initialized RX0]
def wsL_unlike_r2 : List Cond := [Cond.code yX0_walk cX0_walk 5 none, Cond.fieldLink RX0 18 "KnotBand$Band" "threads" "I", Cond.fieldLink RX0 25 "KnotBand$Band" "standing" "[I", Cond.fieldLink RX0 28 "KnotBand$Band" "spent" "[I", Cond.static yX4_knotsIn, Cond.code yX4_knotsIn cX4_knotsIn 2 (some .int), Cond.methodLink RX0 52 yX0_walkKnot, Cond.instanceMethod yX0_walkKnot, Cond.selects RX0 yX0_walkKnot yX0_walkKnot, Cond.code yX0_walkKnot cX0_walkKnot 9 none, Cond.fieldLink RX0 15 "KnotBand$Band" "kinds" "[I", Cond.fieldLink RX0 31 "KnotBand$Band" "shown" "[I", Cond.fieldLink RX0 9 "KnotBand$Band" "colours" "[I", Cond.static yX4_leftPlaceOf, Cond.code yX4_leftPlaceOf cX4_leftPlaceOf 2 (some .int), Cond.static yX4_kindIn, Cond.code yX4_kindIn cX4_kindIn 2 (some .int), Cond.static yX4_showingPlace, Cond.code yX4_showingPlace cX4_showingPlace 2 (some .int), Cond.static yX4_spotOf, Cond.code yX4_spotOf cX4_spotOf 2 (some .int), Cond.methodLink RX4 65 yX4_knotsIn, Cond.methodLink RX4 83 yX4_spotOf]
def wsL_unlike : List Cond := .codeWith yL_unlike cL_unlike 5 (some .int) [(0, 10, 13, 13), (0, 10, 17, 15)] :: ((wsL_unlike_r1 ++ wsL_unlike_r2) ++ wsX00 ++ wsX40 ++ (vx_atS RX4 100 "java/lang/IllegalArgumentException" ["java/lang/RuntimeException", "java/lang/Exception"]).filter goodWord ++ (vx_atN RX4 151).filter goodWord)
def wsL_see_r1 : List Cond := [Cond.classLink RL 13 "java/util/NoSuchElementException", Cond.classLink RL 15 "java/lang/IllegalArgumentException", Cond.methodLink RL 40 yX4_see, Cond.instanceMethod yX4_see, Cond.selects RX4 yX4_see yX4_see, Cond.initialized RX4, Cond.code yX4_see cX4_see 8 (some .int), Cond.methodLink RX4 106 yX4_pictureAt, Cond.instanceMethod yX4_pictureAt, Cond.selects RX4 yX4_pictureAt yX4_pictureAt, Cond.code yX4_pictureAt cX4_pictureAt 2 (some (.object "KnotBand$Picture")), Cond.fieldLink RX4 32 "KnotBand" "pictureCount" "I", Cond.fieldLink RX4 17 "KnotBand" "pictures" "[LKnotBand$Picture;", Cond.methodLink RX4 48 yX4_needElement, Cond.static yX4_needElement, Cond.code yX4_needElement cX4_needElement 2 none, Cond.classLink RX4 147 "java/util/NoSuchElementException", Cond.initialized "java/util/NoSuchElementException", Cond.methodLink RX4 65 yX4_knotsIn, Cond.static yX4_knotsIn, Cond.code yX4_knotsIn cX4_knotsIn 2 (some .int), Cond.methodLink RX4 52 yX4_needArgument, Cond.static yX4_needArgument, Cond.code yX4_needArgument cX4_needArgument 2 none]
def wsL_see_r2 : List Cond := [Cond.classLink RX4 96 "java/lang/IllegalArgumentException", Cond.initialized "java/lang/IllegalArgumentException", Cond.methodLink RX4 83 yX4_spotOf, Cond.static yX4_spotOf, Cond.code yX4_spotOf cX4_spotOf 2 (some .int)]
def wsL_see : List Cond := .codeWith yL_see cL_see 7 (some .int) [(0, 14, 17, 13), (0, 14, 21, 15)] :: ((wsL_see_r1 ++ wsL_see_r2) ++ wsX20 ++ wsX40 ++ (vx_atN RX4 151).filter goodWord ++ (vx_atS RX4 100 "java/lang/IllegalArgumentException" ["java/lang/RuntimeException", "java/lang/Exception"]).filter goodWord)
def wsL_must : List Cond := .codeWith yL_must cL_must 6 (some .int) [(0, 12, 15, 13), (0, 12, 19, 15)] :: ([.classLink RL 13 "java/util/NoSuchElementException", .classLink RL 15 "java/lang/IllegalArgumentException", .methodLink RL 43 yX4_must, .instanceMethod yX4_must, .selects RX4 yX4_must yX4_must, .initialized RX4, .code yX4_must cX4_must 6 (some .int), .methodLink RX4 106 yX4_pictureAt, .instanceMethod yX4_pictureAt, .selects RX4 yX4_pictureAt yX4_pictureAt, .code yX4_pictureAt cX4_pictureAt 2 (some (.object "KnotBand$Picture")), .fieldLink RX4 32 "KnotBand" "pictureCount" "I", .fieldLink RX4 17 "KnotBand" "pictures" "[LKnotBand$Picture;", .methodLink RX4 48 yX4_needElement, .static yX4_needElement, .code yX4_needElement cX4_needElement 2 none, .classLink RX4 147 "java/util/NoSuchElementException", .initialized "java/util/NoSuchElementException", .methodLink RX4 52 yX4_needArgument, .static yX4_needArgument, .code yX4_needArgument cX4_needArgument 2 none, .classLink RX4 96 "java/lang/IllegalArgumentException", .initialized "java/lang/IllegalArgumentException"] ++ wsX20 ++ wsX40 ++ (vx_atN RX4 151).filter goodWord ++ (vx_atS RX4 100 "java/lang/IllegalArgumentException" ["java/lang/RuntimeException", "java/lang/Exception"]).filter goodWord)
def wsL_copy_r1 : List Cond := [Cond.classLink RL 13 "java/util/NoSuchElementException", Cond.methodLink RL 46 yX4_copy, Cond.instanceMethod yX4_copy, Cond.selects RX4 yX4_copy yX4_copy, Cond.initialized RX4, Cond.code yX4_copy cX4_copy 6 (some .boolean), Cond.methodLink RX4 106 yX4_pictureAt, Cond.instanceMethod yX4_pictureAt, Cond.selects RX4 yX4_pictureAt yX4_pictureAt, Cond.code yX4_pictureAt cX4_pictureAt 2 (some (.object "KnotBand$Picture")), Cond.fieldLink RX4 32 "KnotBand" "pictureCount" "I", Cond.fieldLink RX4 17 "KnotBand" "pictures" "[LKnotBand$Picture;", Cond.methodLink RX4 48 yX4_needElement, Cond.static yX4_needElement, Cond.code yX4_needElement cX4_needElement 2 none, Cond.classLink RX4 147 "java/util/NoSuchElementException", Cond.initialized "java/util/NoSuchElementException", Cond.methodLink RX4 44 yX4_bandAt, Cond.instanceMethod yX4_bandAt, Cond.selects RX4 yX4_bandAt yX4_bandAt, Cond.code yX4_bandAt cX4_bandAt 2 (some (.object "KnotBand$Band")), Cond.fieldLink RX4 28 "KnotBand" "bandCount" "I", Cond.fieldLink RX4 11 "KnotBand" "bands" "[LKnotBand$Band;", Cond.methodLink RX4 76 yX0_walk]
def wsL_copy_r2 : List Cond := [Cond.instanceMethod yX0_walk, Cond.selects RX0 yX0_walk yX0_walk, Cond.initialized RX0, Cond.code yX0_walk cX0_walk 5 none, Cond.fieldLink RX0 18 "KnotBand$Band" "threads" "I", Cond.fieldLink RX0 25 "KnotBand$Band" "standing" "[I", Cond.fieldLink RX0 28 "KnotBand$Band" "spent" "[I", Cond.static yX4_knotsIn, Cond.code yX4_knotsIn cX4_knotsIn 2 (some .int), Cond.methodLink RX0 52 yX0_walkKnot, Cond.instanceMethod yX0_walkKnot, Cond.selects RX0 yX0_walkKnot yX0_walkKnot, Cond.code yX0_walkKnot cX0_walkKnot 9 none, Cond.fieldLink RX0 15 "KnotBand$Band" "kinds" "[I", Cond.fieldLink RX0 31 "KnotBand$Band" "shown" "[I", Cond.fieldLink RX0 9 "KnotBand$Band" "colours" "[I", Cond.static yX4_leftPlaceOf, Cond.code yX4_leftPlaceOf cX4_leftPlaceOf 2 (some .int), Cond.static yX4_kindIn, Cond.code yX4_kindIn cX4_kindIn 2 (some .int), Cond.static yX4_showingPlace, Cond.code yX4_showingPlace cX4_showingPlace 2 (some .int), Cond.static yX4_spotOf, Cond.code yX4_spotOf cX4_spotOf 2 (some .int)]
def wsL_copy : List Cond := .codeWith yL_copy cL_copy 5 (some .int) [(0, 17, 20, 13)] :: ((wsL_copy_r1 ++ wsL_copy_r2) ++ wsX20 ++ wsX00 ++ wsX40 ++ (vx_atN RX4 151).filter goodWord)
def wsL_starts_r1 : List Cond := [Cond.classLink RL 13 "java/util/NoSuchElementException", Cond.methodLink RL 50 yX4_starts, Cond.instanceMethod yX4_starts, Cond.selects RX4 yX4_starts yX4_starts, Cond.initialized RX4, Cond.code yX4_starts cX4_starts 2 (some .int), Cond.methodLink RX4 122 yX4_workedOutAt, Cond.instanceMethod yX4_workedOutAt, Cond.selects RX4 yX4_workedOutAt yX4_workedOutAt, Cond.code yX4_workedOutAt cX4_workedOutAt 3 (some (.object "KnotBand$Picture")), Cond.fieldLink RX4 24 "KnotBand" "loom" "LKnotBand$Loom;", Cond.methodLink RX4 106 yX4_pictureAt, Cond.instanceMethod yX4_pictureAt, Cond.selects RX4 yX4_pictureAt yX4_pictureAt, Cond.code yX4_pictureAt cX4_pictureAt 2 (some (.object "KnotBand$Picture")), Cond.fieldLink RX4 32 "KnotBand" "pictureCount" "I", Cond.fieldLink RX4 17 "KnotBand" "pictures" "[LKnotBand$Picture;", Cond.methodLink RX4 48 yX4_needElement, Cond.static yX4_needElement, Cond.code yX4_needElement cX4_needElement 2 none, Cond.classLink RX4 147 "java/util/NoSuchElementException", Cond.initialized "java/util/NoSuchElementException", Cond.methodLink RX4 144 yX1_workOut, Cond.instanceMethod yX1_workOut]
def wsL_starts_r2 : List Cond := [Cond.selects RX1 yX1_workOut yX1_workOut, Cond.initialized RX1, Cond.code yX1_workOut cX1_workOut 3 none, Cond.fieldLink RX1 32 "KnotBand$Loom" "now" "LKnotBand$Standings;", Cond.fieldLink RX1 27 "KnotBand$Loom" "ahead" "[LKnotBand$Standings;", Cond.methodLink RX1 36 yX1_listKnots, Cond.instanceMethod yX1_listKnots, Cond.selects RX1 yX1_listKnots yX1_listKnots, Cond.code yX1_listKnots cX1_listKnots 5 none, Cond.fieldLink RX1 21 "KnotBand$Loom" "knotCount" "I", Cond.fieldLink RX1 9 "KnotBand$Loom" "names" "[I", Cond.fieldLink RX1 15 "KnotBand$Loom" "lefts" "[I", Cond.fieldLink RX1 18 "KnotBand$Loom" "wished" "[I", Cond.static yX4_knotsIn, Cond.code yX4_knotsIn cX4_knotsIn 2 (some .int), Cond.static yX4_leftPlaceOf, Cond.code yX4_leftPlaceOf cX4_leftPlaceOf 2 (some .int), Cond.static yX4_spotOf, Cond.code yX4_spotOf cX4_spotOf 2 (some .int), Cond.methodLink RX1 40 yX1_workBackward, Cond.instanceMethod yX1_workBackward, Cond.selects RX1 yX1_workBackward yX1_workBackward, Cond.code yX1_workBackward cX1_workBackward 2 none, Cond.methodLink RX1 43 yX3_fill]
def wsL_starts_r3 : List Cond := [Cond.instanceMethod yX3_fill, Cond.selects RX3 yX3_fill yX3_fill, Cond.initialized RX3, Cond.code yX3_fill cX3_fill 2 none, Cond.fieldLink RX3 11 "KnotBand$Standings" "words" "[J", Cond.constantLong RX3 15 (-1), Cond.methodLink RX1 100 yX3_spread, Cond.instanceMethod yX3_spread, Cond.selects RX3 yX3_spread yX3_spread, Cond.code yX3_spread cX3_spread 3 none, Cond.fieldLink RX3 31 "KnotBand$Standings" "PLACE_3_LESS" "[J", Cond.fieldLink RX3 38 "KnotBand$Standings" "PLACE_4_LESS" "[J", Cond.methodLink RX3 27 yX3_spreadAcross, Cond.instanceMethod yX3_spreadAcross, Cond.selects RX3 yX3_spreadAcross yX3_spreadAcross, Cond.code yX3_spreadAcross cX3_spreadAcross 7 none, Cond.constantLong RX3 21 (65535), Cond.methodLink RX3 34 yX3_spreadInside, Cond.instanceMethod yX3_spreadInside, Cond.selects RX3 yX3_spreadInside yX3_spreadInside, Cond.code yX3_spreadInside cX3_spreadInside 11 none, Cond.methodLink RX3 41 yX3_spreadBetween, Cond.instanceMethod yX3_spreadBetween, Cond.selects RX3 yX3_spreadBetween yX3_spreadBetween]
def wsL_starts_r4 : List Cond := [Cond.code yX3_spreadBetween cX3_spreadBetween 4 none, Cond.static yX4_exchanged, Cond.code yX4_exchanged cX4_exchanged 3 (some .int), Cond.methodLink RX1 104 yX3_keepEither, Cond.instanceMethod yX3_keepEither, Cond.selects RX3 yX3_keepEither yX3_keepEither, Cond.code yX3_keepEither cX3_keepEither 4 none, Cond.methodLink RX3 17 yX3_having, Cond.static yX3_having, Cond.code yX3_having cX3_having 3 (some .long), Cond.constantLong RX3 23 (4222189076152335), Cond.constantLong RX3 25 (1229782938247303441), Cond.methodLink RX1 51 yX3_keep, Cond.instanceMethod yX3_keep, Cond.selects RX3 yX3_keep yX3_keep, Cond.code yX3_keep cX3_keep 4 none, Cond.methodLink RX1 58 yX3_countShared, Cond.instanceMethod yX3_countShared, Cond.selects RX3 yX3_countShared yX3_countShared, Cond.code yX3_countShared cX3_countShared 4 (some .int), Cond.methodLink RX3 49 yJ13_bitCount_95d88, Cond.static yJ13_bitCount_95d88, Cond.initialized RJ13, Cond.code yJ13_bitCount_95d88 cJ13_bitCount_95d88 2 (some .int)]
def wsL_starts_r5 : List Cond := [Cond.constantLong RJ13 314 (6148914691236517205), Cond.constantLong RJ13 316 (3689348814741910323), Cond.constantLong RJ13 318 (1085102592571150095), Cond.methodLink RX1 65 yX3_firstShared, Cond.instanceMethod yX3_firstShared, Cond.selects RX3 yX3_firstShared yX3_firstShared, Cond.code yX3_firstShared cX3_firstShared 6 (some .int), Cond.methodLink RX1 71 yX1_chooseKinds, Cond.instanceMethod yX1_chooseKinds, Cond.selects RX1 yX1_chooseKinds yX1_chooseKinds, Cond.code yX1_chooseKinds cX1_chooseKinds 6 none, Cond.methodLink RX1 107 yX1_leastKind, Cond.instanceMethod yX1_leastKind, Cond.selects RX1 yX1_leastKind yX1_leastKind, Cond.code yX1_leastKind cX1_leastKind 6 (some .int), Cond.static yX4_showingPlace, Cond.code yX4_showingPlace cX4_showingPlace 2 (some .int), Cond.static yX4_colourIn, Cond.code yX4_colourIn cX4_colourIn 2 (some .int), Cond.methodLink RX4 154 yX4_bitOf, Cond.static yX4_bitOf, Cond.code yX4_bitOf cX4_bitOf 1 (some .int), Cond.methodLink RX1 117 yX1_standingBehind, Cond.instanceMethod yX1_standingBehind]
def wsL_starts_r6 : List Cond := [Cond.selects RX1 yX1_standingBehind yX1_standingBehind, Cond.code yX1_standingBehind cX1_standingBehind 4 (some .int), Cond.methodLink RX1 126 yX3_has, Cond.instanceMethod yX3_has, Cond.selects RX3 yX3_has yX3_has, Cond.code yX3_has cX3_has 2 (some .boolean), Cond.static yX4_withKind, Cond.code yX4_withKind cX4_withKind 3 (some .int), Cond.methodLink RX1 74 yX1_findSuspects, Cond.instanceMethod yX1_findSuspects, Cond.selects RX1 yX1_findSuspects yX1_findSuspects, Cond.code yX1_findSuspects cX1_findSuspects 3 none]
def wsL_starts : List Cond := .codeWith yL_starts cL_starts 4 (some .int) [(0, 9, 12, 13)] :: ((wsL_starts_r1 ++ (wsL_starts_r2 ++ (wsL_starts_r3 ++ (wsL_starts_r4 ++ (wsL_starts_r5 ++ wsL_starts_r6))))) ++ wsX20 ++ wsX40 ++ wsX10 ++ wsX30 ++ (vx_atN RX4 151).filter goodWord)
def wsL_start_r1 : List Cond := [Cond.classLink RL 13 "java/util/NoSuchElementException", Cond.methodLink RL 54 yX4_start, Cond.instanceMethod yX4_start, Cond.selects RX4 yX4_start yX4_start, Cond.initialized RX4, Cond.code yX4_start cX4_start 4 (some .int), Cond.methodLink RX4 106 yX4_pictureAt, Cond.instanceMethod yX4_pictureAt, Cond.selects RX4 yX4_pictureAt yX4_pictureAt, Cond.code yX4_pictureAt cX4_pictureAt 2 (some (.object "KnotBand$Picture")), Cond.fieldLink RX4 32 "KnotBand" "pictureCount" "I", Cond.fieldLink RX4 17 "KnotBand" "pictures" "[LKnotBand$Picture;", Cond.methodLink RX4 48 yX4_needElement, Cond.static yX4_needElement, Cond.code yX4_needElement cX4_needElement 2 none, Cond.classLink RX4 147 "java/util/NoSuchElementException", Cond.initialized "java/util/NoSuchElementException", Cond.methodLink RX4 122 yX4_workedOutAt, Cond.instanceMethod yX4_workedOutAt, Cond.selects RX4 yX4_workedOutAt yX4_workedOutAt, Cond.code yX4_workedOutAt cX4_workedOutAt 3 (some (.object "KnotBand$Picture")), Cond.fieldLink RX4 24 "KnotBand" "loom" "LKnotBand$Loom;", Cond.methodLink RX4 144 yX1_workOut, Cond.instanceMethod yX1_workOut]
def wsL_start_r2 : List Cond := [Cond.selects RX1 yX1_workOut yX1_workOut, Cond.initialized RX1, Cond.code yX1_workOut cX1_workOut 3 none, Cond.fieldLink RX1 32 "KnotBand$Loom" "now" "LKnotBand$Standings;", Cond.fieldLink RX1 27 "KnotBand$Loom" "ahead" "[LKnotBand$Standings;", Cond.methodLink RX1 36 yX1_listKnots, Cond.instanceMethod yX1_listKnots, Cond.selects RX1 yX1_listKnots yX1_listKnots, Cond.code yX1_listKnots cX1_listKnots 5 none, Cond.fieldLink RX1 21 "KnotBand$Loom" "knotCount" "I", Cond.fieldLink RX1 9 "KnotBand$Loom" "names" "[I", Cond.fieldLink RX1 15 "KnotBand$Loom" "lefts" "[I", Cond.fieldLink RX1 18 "KnotBand$Loom" "wished" "[I", Cond.static yX4_knotsIn, Cond.code yX4_knotsIn cX4_knotsIn 2 (some .int), Cond.static yX4_leftPlaceOf, Cond.code yX4_leftPlaceOf cX4_leftPlaceOf 2 (some .int), Cond.static yX4_spotOf, Cond.code yX4_spotOf cX4_spotOf 2 (some .int), Cond.methodLink RX1 40 yX1_workBackward, Cond.instanceMethod yX1_workBackward, Cond.selects RX1 yX1_workBackward yX1_workBackward, Cond.code yX1_workBackward cX1_workBackward 2 none, Cond.methodLink RX1 43 yX3_fill]
def wsL_start_r3 : List Cond := [Cond.instanceMethod yX3_fill, Cond.selects RX3 yX3_fill yX3_fill, Cond.initialized RX3, Cond.code yX3_fill cX3_fill 2 none, Cond.fieldLink RX3 11 "KnotBand$Standings" "words" "[J", Cond.constantLong RX3 15 (-1), Cond.methodLink RX1 100 yX3_spread, Cond.instanceMethod yX3_spread, Cond.selects RX3 yX3_spread yX3_spread, Cond.code yX3_spread cX3_spread 3 none, Cond.fieldLink RX3 31 "KnotBand$Standings" "PLACE_3_LESS" "[J", Cond.fieldLink RX3 38 "KnotBand$Standings" "PLACE_4_LESS" "[J", Cond.methodLink RX3 27 yX3_spreadAcross, Cond.instanceMethod yX3_spreadAcross, Cond.selects RX3 yX3_spreadAcross yX3_spreadAcross, Cond.code yX3_spreadAcross cX3_spreadAcross 7 none, Cond.constantLong RX3 21 (65535), Cond.methodLink RX3 34 yX3_spreadInside, Cond.instanceMethod yX3_spreadInside, Cond.selects RX3 yX3_spreadInside yX3_spreadInside, Cond.code yX3_spreadInside cX3_spreadInside 11 none, Cond.methodLink RX3 41 yX3_spreadBetween, Cond.instanceMethod yX3_spreadBetween, Cond.selects RX3 yX3_spreadBetween yX3_spreadBetween]
def wsL_start_r4 : List Cond := [Cond.code yX3_spreadBetween cX3_spreadBetween 4 none, Cond.static yX4_exchanged, Cond.code yX4_exchanged cX4_exchanged 3 (some .int), Cond.methodLink RX1 104 yX3_keepEither, Cond.instanceMethod yX3_keepEither, Cond.selects RX3 yX3_keepEither yX3_keepEither, Cond.code yX3_keepEither cX3_keepEither 4 none, Cond.methodLink RX3 17 yX3_having, Cond.static yX3_having, Cond.code yX3_having cX3_having 3 (some .long), Cond.constantLong RX3 23 (4222189076152335), Cond.constantLong RX3 25 (1229782938247303441), Cond.methodLink RX1 51 yX3_keep, Cond.instanceMethod yX3_keep, Cond.selects RX3 yX3_keep yX3_keep, Cond.code yX3_keep cX3_keep 4 none, Cond.methodLink RX1 58 yX3_countShared, Cond.instanceMethod yX3_countShared, Cond.selects RX3 yX3_countShared yX3_countShared, Cond.code yX3_countShared cX3_countShared 4 (some .int), Cond.methodLink RX3 49 yJ13_bitCount_95d88, Cond.static yJ13_bitCount_95d88, Cond.initialized RJ13, Cond.code yJ13_bitCount_95d88 cJ13_bitCount_95d88 2 (some .int)]
def wsL_start_r5 : List Cond := [Cond.constantLong RJ13 314 (6148914691236517205), Cond.constantLong RJ13 316 (3689348814741910323), Cond.constantLong RJ13 318 (1085102592571150095), Cond.methodLink RX1 65 yX3_firstShared, Cond.instanceMethod yX3_firstShared, Cond.selects RX3 yX3_firstShared yX3_firstShared, Cond.code yX3_firstShared cX3_firstShared 6 (some .int), Cond.methodLink RX1 71 yX1_chooseKinds, Cond.instanceMethod yX1_chooseKinds, Cond.selects RX1 yX1_chooseKinds yX1_chooseKinds, Cond.code yX1_chooseKinds cX1_chooseKinds 6 none, Cond.methodLink RX1 107 yX1_leastKind, Cond.instanceMethod yX1_leastKind, Cond.selects RX1 yX1_leastKind yX1_leastKind, Cond.code yX1_leastKind cX1_leastKind 6 (some .int), Cond.static yX4_showingPlace, Cond.code yX4_showingPlace cX4_showingPlace 2 (some .int), Cond.static yX4_colourIn, Cond.code yX4_colourIn cX4_colourIn 2 (some .int), Cond.methodLink RX4 154 yX4_bitOf, Cond.static yX4_bitOf, Cond.code yX4_bitOf cX4_bitOf 1 (some .int), Cond.methodLink RX1 117 yX1_standingBehind, Cond.instanceMethod yX1_standingBehind]
def wsL_start_r6 : List Cond := [Cond.selects RX1 yX1_standingBehind yX1_standingBehind, Cond.code yX1_standingBehind cX1_standingBehind 4 (some .int), Cond.methodLink RX1 126 yX3_has, Cond.instanceMethod yX3_has, Cond.selects RX3 yX3_has yX3_has, Cond.code yX3_has cX3_has 2 (some .boolean), Cond.static yX4_withKind, Cond.code yX4_withKind cX4_withKind 3 (some .int), Cond.methodLink RX1 74 yX1_findSuspects, Cond.instanceMethod yX1_findSuspects, Cond.selects RX1 yX1_findSuspects yX1_findSuspects, Cond.code yX1_findSuspects cX1_findSuspects 3 none, Cond.methodLink RX4 131 yX4_colourIn]
def wsL_start : List Cond := .codeWith yL_start cL_start 5 (some .int) [(0, 10, 13, 13)] :: ((wsL_start_r1 ++ (wsL_start_r2 ++ (wsL_start_r3 ++ (wsL_start_r4 ++ (wsL_start_r5 ++ wsL_start_r6))))) ++ wsX20 ++ wsX40 ++ wsX10 ++ wsX30 ++ (vx_atN RX4 151).filter goodWord)
def wsL_tie_r1 : List Cond := [Cond.classLink RL 13 "java/util/NoSuchElementException", Cond.methodLink RL 57 yX4_tie, Cond.instanceMethod yX4_tie, Cond.selects RX4 yX4_tie yX4_tie, Cond.initialized RX4, Cond.code yX4_tie cX4_tie 3 (some .int), Cond.fieldLink RX4 28 "KnotBand" "bandCount" "I", Cond.fieldLink RX4 11 "KnotBand" "bands" "[LKnotBand$Band;", Cond.methodLink RX4 122 yX4_workedOutAt, Cond.instanceMethod yX4_workedOutAt, Cond.selects RX4 yX4_workedOutAt yX4_workedOutAt, Cond.code yX4_workedOutAt cX4_workedOutAt 3 (some (.object "KnotBand$Picture")), Cond.fieldLink RX4 24 "KnotBand" "loom" "LKnotBand$Loom;", Cond.methodLink RX4 106 yX4_pictureAt, Cond.instanceMethod yX4_pictureAt, Cond.selects RX4 yX4_pictureAt yX4_pictureAt, Cond.code yX4_pictureAt cX4_pictureAt 2 (some (.object "KnotBand$Picture")), Cond.fieldLink RX4 32 "KnotBand" "pictureCount" "I", Cond.fieldLink RX4 17 "KnotBand" "pictures" "[LKnotBand$Picture;", Cond.methodLink RX4 48 yX4_needElement, Cond.static yX4_needElement, Cond.code yX4_needElement cX4_needElement 2 none, Cond.classLink RX4 147 "java/util/NoSuchElementException", Cond.initialized "java/util/NoSuchElementException"]
def wsL_tie_r2 : List Cond := [Cond.methodLink RX4 144 yX1_workOut, Cond.instanceMethod yX1_workOut, Cond.selects RX1 yX1_workOut yX1_workOut, Cond.initialized RX1, Cond.code yX1_workOut cX1_workOut 3 none, Cond.fieldLink RX1 32 "KnotBand$Loom" "now" "LKnotBand$Standings;", Cond.fieldLink RX1 27 "KnotBand$Loom" "ahead" "[LKnotBand$Standings;", Cond.methodLink RX1 36 yX1_listKnots, Cond.instanceMethod yX1_listKnots, Cond.selects RX1 yX1_listKnots yX1_listKnots, Cond.code yX1_listKnots cX1_listKnots 5 none, Cond.fieldLink RX1 21 "KnotBand$Loom" "knotCount" "I", Cond.fieldLink RX1 9 "KnotBand$Loom" "names" "[I", Cond.fieldLink RX1 15 "KnotBand$Loom" "lefts" "[I", Cond.fieldLink RX1 18 "KnotBand$Loom" "wished" "[I", Cond.static yX4_knotsIn, Cond.code yX4_knotsIn cX4_knotsIn 2 (some .int), Cond.static yX4_leftPlaceOf, Cond.code yX4_leftPlaceOf cX4_leftPlaceOf 2 (some .int), Cond.static yX4_spotOf, Cond.code yX4_spotOf cX4_spotOf 2 (some .int), Cond.methodLink RX1 40 yX1_workBackward, Cond.instanceMethod yX1_workBackward, Cond.selects RX1 yX1_workBackward yX1_workBackward]
def wsL_tie_r3 : List Cond := [Cond.code yX1_workBackward cX1_workBackward 2 none, Cond.methodLink RX1 43 yX3_fill, Cond.instanceMethod yX3_fill, Cond.selects RX3 yX3_fill yX3_fill, Cond.initialized RX3, Cond.code yX3_fill cX3_fill 2 none, Cond.fieldLink RX3 11 "KnotBand$Standings" "words" "[J", Cond.constantLong RX3 15 (-1), Cond.methodLink RX1 100 yX3_spread, Cond.instanceMethod yX3_spread, Cond.selects RX3 yX3_spread yX3_spread, Cond.code yX3_spread cX3_spread 3 none, Cond.fieldLink RX3 31 "KnotBand$Standings" "PLACE_3_LESS" "[J", Cond.fieldLink RX3 38 "KnotBand$Standings" "PLACE_4_LESS" "[J", Cond.methodLink RX3 27 yX3_spreadAcross, Cond.instanceMethod yX3_spreadAcross, Cond.selects RX3 yX3_spreadAcross yX3_spreadAcross, Cond.code yX3_spreadAcross cX3_spreadAcross 7 none, Cond.constantLong RX3 21 (65535), Cond.methodLink RX3 34 yX3_spreadInside, Cond.instanceMethod yX3_spreadInside, Cond.selects RX3 yX3_spreadInside yX3_spreadInside, Cond.code yX3_spreadInside cX3_spreadInside 11 none, Cond.methodLink RX3 41 yX3_spreadBetween]
def wsL_tie_r4 : List Cond := [Cond.instanceMethod yX3_spreadBetween, Cond.selects RX3 yX3_spreadBetween yX3_spreadBetween, Cond.code yX3_spreadBetween cX3_spreadBetween 4 none, Cond.static yX4_exchanged, Cond.code yX4_exchanged cX4_exchanged 3 (some .int), Cond.methodLink RX1 104 yX3_keepEither, Cond.instanceMethod yX3_keepEither, Cond.selects RX3 yX3_keepEither yX3_keepEither, Cond.code yX3_keepEither cX3_keepEither 4 none, Cond.methodLink RX3 17 yX3_having, Cond.static yX3_having, Cond.code yX3_having cX3_having 3 (some .long), Cond.constantLong RX3 23 (4222189076152335), Cond.constantLong RX3 25 (1229782938247303441), Cond.methodLink RX1 51 yX3_keep, Cond.instanceMethod yX3_keep, Cond.selects RX3 yX3_keep yX3_keep, Cond.code yX3_keep cX3_keep 4 none, Cond.methodLink RX1 58 yX3_countShared, Cond.instanceMethod yX3_countShared, Cond.selects RX3 yX3_countShared yX3_countShared, Cond.code yX3_countShared cX3_countShared 4 (some .int), Cond.methodLink RX3 49 yJ13_bitCount_95d88, Cond.static yJ13_bitCount_95d88]
def wsL_tie_r5 : List Cond := [Cond.initialized RJ13, Cond.code yJ13_bitCount_95d88 cJ13_bitCount_95d88 2 (some .int), Cond.constantLong RJ13 314 (6148914691236517205), Cond.constantLong RJ13 316 (3689348814741910323), Cond.constantLong RJ13 318 (1085102592571150095), Cond.methodLink RX1 65 yX3_firstShared, Cond.instanceMethod yX3_firstShared, Cond.selects RX3 yX3_firstShared yX3_firstShared, Cond.code yX3_firstShared cX3_firstShared 6 (some .int), Cond.methodLink RX1 71 yX1_chooseKinds, Cond.instanceMethod yX1_chooseKinds, Cond.selects RX1 yX1_chooseKinds yX1_chooseKinds, Cond.code yX1_chooseKinds cX1_chooseKinds 6 none, Cond.methodLink RX1 107 yX1_leastKind, Cond.instanceMethod yX1_leastKind, Cond.selects RX1 yX1_leastKind yX1_leastKind, Cond.code yX1_leastKind cX1_leastKind 6 (some .int), Cond.static yX4_showingPlace, Cond.code yX4_showingPlace cX4_showingPlace 2 (some .int), Cond.static yX4_colourIn, Cond.code yX4_colourIn cX4_colourIn 2 (some .int), Cond.methodLink RX4 154 yX4_bitOf, Cond.static yX4_bitOf, Cond.code yX4_bitOf cX4_bitOf 1 (some .int)]
def wsL_tie_r6 : List Cond := [Cond.methodLink RX1 117 yX1_standingBehind, Cond.instanceMethod yX1_standingBehind, Cond.selects RX1 yX1_standingBehind yX1_standingBehind, Cond.code yX1_standingBehind cX1_standingBehind 4 (some .int), Cond.methodLink RX1 126 yX3_has, Cond.instanceMethod yX3_has, Cond.selects RX3 yX3_has yX3_has, Cond.code yX3_has cX3_has 2 (some .boolean), Cond.static yX4_withKind, Cond.code yX4_withKind cX4_withKind 3 (some .int), Cond.methodLink RX1 74 yX1_findSuspects, Cond.instanceMethod yX1_findSuspects, Cond.selects RX1 yX1_findSuspects yX1_findSuspects, Cond.code yX1_findSuspects cX1_findSuspects 3 none, Cond.methodLink RX4 134 yX0_become, Cond.instanceMethod yX0_become, Cond.selects RX0 yX0_become yX0_become, Cond.initialized RX0, Cond.code yX0_become cX0_become 3 none, Cond.fieldLink RX0 18 "KnotBand$Band" "threads" "I", Cond.fieldLink RX0 22 "KnotBand$Band" "rows" "I", Cond.fieldLink RX0 9 "KnotBand$Band" "colours" "[I", Cond.fieldLink RX0 15 "KnotBand$Band" "kinds" "[I"]
def wsL_tie : List Cond := .codeWith yL_tie cL_tie 4 (some .int) [(0, 9, 12, 13)] :: ((wsL_tie_r1 ++ (wsL_tie_r2 ++ (wsL_tie_r3 ++ (wsL_tie_r4 ++ (wsL_tie_r5 ++ wsL_tie_r6))))) ++ wsX20 ++ wsX40 ++ wsX10 ++ wsX30 ++ wsX00 ++ (vx_atN RX4 151).filter goodWord)
def wsL_suspect_r1 : List Cond := [Cond.classLink RL 13 "java/util/NoSuchElementException", Cond.methodLink RL 60 yX4_suspect, Cond.instanceMethod yX4_suspect, Cond.selects RX4 yX4_suspect yX4_suspect, Cond.initialized RX4, Cond.code yX4_suspect cX4_suspect 4 (some .int), Cond.methodLink RX4 122 yX4_workedOutAt, Cond.instanceMethod yX4_workedOutAt, Cond.selects RX4 yX4_workedOutAt yX4_workedOutAt, Cond.code yX4_workedOutAt cX4_workedOutAt 3 (some (.object "KnotBand$Picture")), Cond.fieldLink RX4 24 "KnotBand" "loom" "LKnotBand$Loom;", Cond.methodLink RX4 106 yX4_pictureAt, Cond.instanceMethod yX4_pictureAt, Cond.selects RX4 yX4_pictureAt yX4_pictureAt, Cond.code yX4_pictureAt cX4_pictureAt 2 (some (.object "KnotBand$Picture")), Cond.fieldLink RX4 32 "KnotBand" "pictureCount" "I", Cond.fieldLink RX4 17 "KnotBand" "pictures" "[LKnotBand$Picture;", Cond.methodLink RX4 48 yX4_needElement, Cond.static yX4_needElement, Cond.code yX4_needElement cX4_needElement 2 none, Cond.classLink RX4 147 "java/util/NoSuchElementException", Cond.initialized "java/util/NoSuchElementException", Cond.methodLink RX4 144 yX1_workOut, Cond.instanceMethod yX1_workOut]
def wsL_suspect_r2 : List Cond := [Cond.selects RX1 yX1_workOut yX1_workOut, Cond.initialized RX1, Cond.code yX1_workOut cX1_workOut 3 none, Cond.fieldLink RX1 32 "KnotBand$Loom" "now" "LKnotBand$Standings;", Cond.fieldLink RX1 27 "KnotBand$Loom" "ahead" "[LKnotBand$Standings;", Cond.methodLink RX1 36 yX1_listKnots, Cond.instanceMethod yX1_listKnots, Cond.selects RX1 yX1_listKnots yX1_listKnots, Cond.code yX1_listKnots cX1_listKnots 5 none, Cond.fieldLink RX1 21 "KnotBand$Loom" "knotCount" "I", Cond.fieldLink RX1 9 "KnotBand$Loom" "names" "[I", Cond.fieldLink RX1 15 "KnotBand$Loom" "lefts" "[I", Cond.fieldLink RX1 18 "KnotBand$Loom" "wished" "[I", Cond.static yX4_knotsIn, Cond.code yX4_knotsIn cX4_knotsIn 2 (some .int), Cond.static yX4_leftPlaceOf, Cond.code yX4_leftPlaceOf cX4_leftPlaceOf 2 (some .int), Cond.static yX4_spotOf, Cond.code yX4_spotOf cX4_spotOf 2 (some .int), Cond.methodLink RX1 40 yX1_workBackward, Cond.instanceMethod yX1_workBackward, Cond.selects RX1 yX1_workBackward yX1_workBackward, Cond.code yX1_workBackward cX1_workBackward 2 none, Cond.methodLink RX1 43 yX3_fill]
def wsL_suspect_r3 : List Cond := [Cond.instanceMethod yX3_fill, Cond.selects RX3 yX3_fill yX3_fill, Cond.initialized RX3, Cond.code yX3_fill cX3_fill 2 none, Cond.fieldLink RX3 11 "KnotBand$Standings" "words" "[J", Cond.constantLong RX3 15 (-1), Cond.methodLink RX1 100 yX3_spread, Cond.instanceMethod yX3_spread, Cond.selects RX3 yX3_spread yX3_spread, Cond.code yX3_spread cX3_spread 3 none, Cond.fieldLink RX3 31 "KnotBand$Standings" "PLACE_3_LESS" "[J", Cond.fieldLink RX3 38 "KnotBand$Standings" "PLACE_4_LESS" "[J", Cond.methodLink RX3 27 yX3_spreadAcross, Cond.instanceMethod yX3_spreadAcross, Cond.selects RX3 yX3_spreadAcross yX3_spreadAcross, Cond.code yX3_spreadAcross cX3_spreadAcross 7 none, Cond.constantLong RX3 21 (65535), Cond.methodLink RX3 34 yX3_spreadInside, Cond.instanceMethod yX3_spreadInside, Cond.selects RX3 yX3_spreadInside yX3_spreadInside, Cond.code yX3_spreadInside cX3_spreadInside 11 none, Cond.methodLink RX3 41 yX3_spreadBetween, Cond.instanceMethod yX3_spreadBetween, Cond.selects RX3 yX3_spreadBetween yX3_spreadBetween]
def wsL_suspect_r4 : List Cond := [Cond.code yX3_spreadBetween cX3_spreadBetween 4 none, Cond.static yX4_exchanged, Cond.code yX4_exchanged cX4_exchanged 3 (some .int), Cond.methodLink RX1 104 yX3_keepEither, Cond.instanceMethod yX3_keepEither, Cond.selects RX3 yX3_keepEither yX3_keepEither, Cond.code yX3_keepEither cX3_keepEither 4 none, Cond.methodLink RX3 17 yX3_having, Cond.static yX3_having, Cond.code yX3_having cX3_having 3 (some .long), Cond.constantLong RX3 23 (4222189076152335), Cond.constantLong RX3 25 (1229782938247303441), Cond.methodLink RX1 51 yX3_keep, Cond.instanceMethod yX3_keep, Cond.selects RX3 yX3_keep yX3_keep, Cond.code yX3_keep cX3_keep 4 none, Cond.methodLink RX1 58 yX3_countShared, Cond.instanceMethod yX3_countShared, Cond.selects RX3 yX3_countShared yX3_countShared, Cond.code yX3_countShared cX3_countShared 4 (some .int), Cond.methodLink RX3 49 yJ13_bitCount_95d88, Cond.static yJ13_bitCount_95d88, Cond.initialized RJ13, Cond.code yJ13_bitCount_95d88 cJ13_bitCount_95d88 2 (some .int)]
def wsL_suspect_r5 : List Cond := [Cond.constantLong RJ13 314 (6148914691236517205), Cond.constantLong RJ13 316 (3689348814741910323), Cond.constantLong RJ13 318 (1085102592571150095), Cond.methodLink RX1 65 yX3_firstShared, Cond.instanceMethod yX3_firstShared, Cond.selects RX3 yX3_firstShared yX3_firstShared, Cond.code yX3_firstShared cX3_firstShared 6 (some .int), Cond.methodLink RX1 71 yX1_chooseKinds, Cond.instanceMethod yX1_chooseKinds, Cond.selects RX1 yX1_chooseKinds yX1_chooseKinds, Cond.code yX1_chooseKinds cX1_chooseKinds 6 none, Cond.methodLink RX1 107 yX1_leastKind, Cond.instanceMethod yX1_leastKind, Cond.selects RX1 yX1_leastKind yX1_leastKind, Cond.code yX1_leastKind cX1_leastKind 6 (some .int), Cond.static yX4_showingPlace, Cond.code yX4_showingPlace cX4_showingPlace 2 (some .int), Cond.static yX4_colourIn, Cond.code yX4_colourIn cX4_colourIn 2 (some .int), Cond.methodLink RX4 154 yX4_bitOf, Cond.static yX4_bitOf, Cond.code yX4_bitOf cX4_bitOf 1 (some .int), Cond.methodLink RX1 117 yX1_standingBehind, Cond.instanceMethod yX1_standingBehind]
def wsL_suspect_r6 : List Cond := [Cond.selects RX1 yX1_standingBehind yX1_standingBehind, Cond.code yX1_standingBehind cX1_standingBehind 4 (some .int), Cond.methodLink RX1 126 yX3_has, Cond.instanceMethod yX3_has, Cond.selects RX3 yX3_has yX3_has, Cond.code yX3_has cX3_has 2 (some .boolean), Cond.static yX4_withKind, Cond.code yX4_withKind cX4_withKind 3 (some .int), Cond.methodLink RX1 74 yX1_findSuspects, Cond.instanceMethod yX1_findSuspects, Cond.selects RX1 yX1_findSuspects yX1_findSuspects, Cond.code yX1_findSuspects cX1_findSuspects 3 none]
def wsL_suspect : List Cond := .codeWith yL_suspect cL_suspect 5 (some .int) [(0, 10, 13, 13)] :: ((wsL_suspect_r1 ++ (wsL_suspect_r2 ++ (wsL_suspect_r3 ++ (wsL_suspect_r4 ++ (wsL_suspect_r5 ++ wsL_suspect_r6))))) ++ wsX20 ++ wsX40 ++ wsX10 ++ wsX30 ++ (vx_atN RX4 151).filter goodWord)
def wsL_count : List Cond := .codeWith yL_count cL_count 4 (some .int) [(0, 9, 12, 13)] :: ([.classLink RL 13 "java/util/NoSuchElementException", .methodLink RL 63 yX4_count, .instanceMethod yX4_count, .selects RX4 yX4_count yX4_count, .initialized RX4, .code yX4_count cX4_count 2 (some .int), .fieldLink RX4 28 "KnotBand" "bandCount" "I", .fieldLink RX4 32 "KnotBand" "pictureCount" "I", .methodLink RX4 48 yX4_needElement, .static yX4_needElement, .code yX4_needElement cX4_needElement 2 none, .classLink RX4 147 "java/util/NoSuchElementException", .initialized "java/util/NoSuchElementException"] ++ wsX40 ++ (vx_atN RX4 151).filter goodWord)
def wsL_law0_r1 : List Cond := [Cond.classLink RL 8 RX4, Cond.instantiable RX4 5, Cond.initialized RX4, Cond.classLink RL 67 RX5, Cond.instantiable RX5 15, Cond.initialized RX5, Cond.arrayClass .long, Cond.methodLink RL 66 yX4_init, Cond.instanceMethod yX4_init, Cond.code yX4_init cX4_init 2 none, Cond.methodLink RX4 3 objectInit, Cond.instanceMethod objectInit, Cond.code objectInit ⟨#[0xb1]⟩ 1 none, Cond.classLink RX4 9 RX0, Cond.fieldLink RX4 11 "KnotBand" "bands" "[LKnotBand$Band;", Cond.classLink RX4 15 RX2, Cond.fieldLink RX4 17 "KnotBand" "pictures" "[LKnotBand$Picture;", Cond.classLink RX4 21 RX1, Cond.instantiable RX1 6, Cond.initialized RX1, Cond.fieldLink RX4 24 "KnotBand" "loom" "LKnotBand$Loom;", Cond.fieldLink RX4 28 "KnotBand" "bandCount" "I", Cond.fieldLink RX4 32 "KnotBand" "pictureCount" "I", Cond.instantiable RX0 8]
def wsL_law0_r2 : List Cond := [Cond.initialized RX0, Cond.instantiable RX2 10, Cond.initialized RX2, Cond.methodLink RX4 23 yX1_init, Cond.instanceMethod yX1_init, Cond.code yX1_init cX1_init 2 none, Cond.methodLink RX1 3 objectInit, Cond.arrayClass .int, Cond.fieldLink RX1 9 "KnotBand$Loom" "names" "[I", Cond.fieldLink RX1 15 "KnotBand$Loom" "lefts" "[I", Cond.fieldLink RX1 18 "KnotBand$Loom" "wished" "[I", Cond.fieldLink RX1 21 "KnotBand$Loom" "knotCount" "I", Cond.classLink RX1 25 RX3, Cond.fieldLink RX1 27 "KnotBand$Loom" "ahead" "[LKnotBand$Standings;", Cond.instantiable RX3 1, Cond.initialized RX3, Cond.fieldLink RX1 32 "KnotBand$Loom" "now" "LKnotBand$Standings;", Cond.instanceMethod yX3_init, Cond.code yX3_init cX3_init 1 none, Cond.methodLink RX3 5 objectInit, Cond.fieldLink RX3 11 "KnotBand$Standings" "words" "[J", Cond.instanceMethod yX0_init, Cond.code yX0_init cX0_init 1 none, Cond.methodLink RX0 3 objectInit]
def wsL_law0_r3 : List Cond := [Cond.fieldLink RX0 9 "KnotBand$Band" "colours" "[I", Cond.fieldLink RX0 15 "KnotBand$Band" "kinds" "[I", Cond.fieldLink RX0 18 "KnotBand$Band" "threads" "I", Cond.fieldLink RX0 22 "KnotBand$Band" "rows" "I", Cond.fieldLink RX0 25 "KnotBand$Band" "standing" "[I", Cond.fieldLink RX0 28 "KnotBand$Band" "spent" "[I", Cond.fieldLink RX0 31 "KnotBand$Band" "shown" "[I", Cond.fieldLink RX0 34 "KnotBand$Band" "repeated" "[I", Cond.instanceMethod yX2_init, Cond.code yX2_init cX2_init 1 none, Cond.methodLink RX2 3 objectInit, Cond.fieldLink RX2 9 "KnotBand$Picture" "told" "[I", Cond.fieldLink RX2 15 "KnotBand$Picture" "toldAtFirst" "[I", Cond.fieldLink RX2 18 "KnotBand$Picture" "threads" "I", Cond.fieldLink RX2 22 "KnotBand$Picture" "rows" "I", Cond.fieldLink RX2 25 "KnotBand$Picture" "workedOut" "Z", Cond.fieldLink RX2 29 "KnotBand$Picture" "startCount" "I", Cond.fieldLink RX2 32 "KnotBand$Picture" "firstStart" "I", Cond.fieldLink RX2 35 "KnotBand$Picture" "kinds" "[I", Cond.fieldLink RX2 38 "KnotBand$Picture" "suspects" "[I", Cond.fieldLink RX2 41 "KnotBand$Picture" "suspectCount" "I", Cond.methodLink RL 69 yX5_init, Cond.instanceMethod yX5_init, Cond.code yX5_init cX5_init 1 none]
def wsL_law0_r4 : List Cond := [Cond.methodLink RX5 1 objectInit, Cond.fieldLink RX5 7 "KnotBandModel" "threads" "[I", Cond.fieldLink RX5 13 "KnotBandModel" "rows" "[I", Cond.fieldLink RX5 16 "KnotBandModel" "colours" "[I", Cond.fieldLink RX5 19 "KnotBandModel" "kinds" "[I", Cond.fieldLink RX5 22 "KnotBandModel" "width" "[I", Cond.fieldLink RX5 25 "KnotBandModel" "high" "[I", Cond.fieldLink RX5 28 "KnotBandModel" "seen" "[I", Cond.fieldLink RX5 31 "KnotBandModel" "must" "[I", Cond.fieldLink RX5 34 "KnotBandModel" "at" "[I", Cond.fieldLink RX5 37 "KnotBandModel" "now" "[I", Cond.fieldLink RX5 40 "KnotBandModel" "then" "[I", Cond.constant RX5 43 (69632), Cond.arrayClass .boolean, Cond.fieldLink RX5 44 "KnotBandModel" "can" "[Z", Cond.methodLink RL 70 yX4_band, Cond.instanceMethod yX4_band, Cond.selects RX4 yX4_band yX4_band, Cond.code yX4_band cX4_band 2 (some .int), Cond.methodLink RX4 37 yX4_mayBeThreads, Cond.static yX4_mayBeThreads, Cond.code yX4_mayBeThreads cX4_mayBeThreads 1 (some .boolean), Cond.methodLink RL 73 yX5_band, Cond.instanceMethod yX5_band]
def wsL_law0_r5 : List Cond := [Cond.selects RX5 yX5_band yX5_band, Cond.code yX5_band cX5_band 2 (some .int), Cond.fieldLink RX5 48 "KnotBandModel" "thrown" "I", Cond.fieldLink RX5 52 "KnotBandModel" "bands" "I", Cond.methodLink RL 74 yL_colour, Cond.static yL_colour, Cond.initialized RL, Cond.codeWith yL_colour cL_colour 6 (some .int) [(0, 12, 15, 13), (0, 12, 19, 15)], Cond.classLink RL 13 "java/util/NoSuchElementException", Cond.classLink RL 15 "java/lang/IllegalArgumentException", Cond.methodLink RL 7 yX4_colour, Cond.instanceMethod yX4_colour, Cond.selects RX4 yX4_colour yX4_colour, Cond.code yX4_colour cX4_colour 6 (some .int), Cond.methodLink RX4 44 yX4_bandAt, Cond.instanceMethod yX4_bandAt, Cond.selects RX4 yX4_bandAt yX4_bandAt, Cond.code yX4_bandAt cX4_bandAt 2 (some (.object "KnotBand$Band")), Cond.methodLink RX4 48 yX4_needElement, Cond.static yX4_needElement, Cond.code yX4_needElement cX4_needElement 2 none, Cond.classLink RX4 147 "java/util/NoSuchElementException", Cond.initialized "java/util/NoSuchElementException", Cond.methodLink RX4 52 yX4_needArgument]
def wsL_law0_r6 : List Cond := [Cond.static yX4_needArgument, Cond.code yX4_needArgument cX4_needArgument 2 none, Cond.classLink RX4 96 "java/lang/IllegalArgumentException", Cond.initialized "java/lang/IllegalArgumentException", Cond.methodLink RL 79 yX5_colour, Cond.instanceMethod yX5_colour, Cond.selects RX5 yX5_colour yX5_colour, Cond.code yX5_colour cX5_colour 5 (some .int), Cond.methodLink RX5 59 yX5_isBand, Cond.instanceMethod yX5_isBand, Cond.selects RX5 yX5_isBand yX5_isBand, Cond.code yX5_isBand cX5_isBand 2 (some .boolean), Cond.methodLink RX5 55 yX5_right, Cond.instanceMethod yX5_right, Cond.selects RX5 yX5_right yX5_right, Cond.code yX5_right cX5_right 3 (some .boolean), Cond.methodLink RL 80 yX5_thrown, Cond.instanceMethod yX5_thrown, Cond.selects RX5 yX5_thrown yX5_thrown, Cond.code yX5_thrown cX5_thrown 1 (some .int), Cond.methodLink RL 84 yL_row, Cond.static yL_row, Cond.codeWith yL_row cL_row 5 (some .int) [(0, 10, 13, 13)], Cond.methodLink RL 17 yX4_row]
def wsL_law0_r7 : List Cond := [Cond.instanceMethod yX4_row, Cond.selects RX4 yX4_row yX4_row, Cond.code yX4_row cX4_row 4 (some .int), Cond.methodLink RL 87 yX5_row, Cond.instanceMethod yX5_row, Cond.selects RX5 yX5_row yX5_row, Cond.code yX5_row cX5_row 4 (some .int), Cond.methodLink RL 88 yL_knot, Cond.static yL_knot, Cond.codeWith yL_knot cL_knot 7 (some .int) [(0, 14, 17, 13), (0, 14, 21, 15)], Cond.methodLink RL 21 yX4_knot, Cond.instanceMethod yX4_knot, Cond.selects RX4 yX4_knot yX4_knot, Cond.code yX4_knot cX4_knot 7 (some .int), Cond.methodLink RX4 65 yX4_knotsIn, Cond.static yX4_knotsIn, Cond.code yX4_knotsIn cX4_knotsIn 2 (some .int), Cond.methodLink RX4 69 yX4_kindIn, Cond.static yX4_kindIn, Cond.code yX4_kindIn cX4_kindIn 2 (some .int), Cond.methodLink RX4 72 yX4_withKind, Cond.static yX4_withKind, Cond.code yX4_withKind cX4_withKind 3 (some .int), Cond.methodLink RL 91 yX5_knot]
def wsL_law0_r8 : List Cond := [Cond.instanceMethod yX5_knot, Cond.selects RX5 yX5_knot yX5_knot, Cond.code yX5_knot cX5_knot 6 (some .int), Cond.methodLink RX5 67 yX5_isKnot, Cond.instanceMethod yX5_isKnot, Cond.selects RX5 yX5_isKnot yX5_isKnot, Cond.code yX5_isKnot cX5_isKnot 4 (some .boolean), Cond.methodLink RX5 63 yX5_knots, Cond.static yX5_knots, Cond.code yX5_knots cX5_knots 2 (some .int), Cond.methodLink RL 92 yL_shows, Cond.static yL_shows, Cond.codeWith yL_shows cL_shows 6 (some .int) [(0, 12, 15, 13)], Cond.methodLink RL 25 yX4_shows, Cond.instanceMethod yX4_shows, Cond.selects RX4 yX4_shows yX4_shows, Cond.code yX4_shows cX4_shows 5 (some .int), Cond.methodLink RX4 76 yX0_walk, Cond.instanceMethod yX0_walk, Cond.selects RX0 yX0_walk yX0_walk, Cond.code yX0_walk cX0_walk 5 none, Cond.methodLink RX0 52 yX0_walkKnot, Cond.instanceMethod yX0_walkKnot, Cond.selects RX0 yX0_walkKnot yX0_walkKnot]
def wsL_law0_r9 : List Cond := [Cond.code yX0_walkKnot cX0_walkKnot 9 none, Cond.static yX4_leftPlaceOf, Cond.code yX4_leftPlaceOf cX4_leftPlaceOf 2 (some .int), Cond.static yX4_showingPlace, Cond.code yX4_showingPlace cX4_showingPlace 2 (some .int), Cond.static yX4_spotOf, Cond.code yX4_spotOf cX4_spotOf 2 (some .int), Cond.methodLink RX4 83 yX4_spotOf, Cond.methodLink RL 94 yX5_shows, Cond.instanceMethod yX5_shows, Cond.selects RX5 yX5_shows yX5_shows, Cond.code yX5_shows cX5_shows 4 (some .int), Cond.methodLink RX5 82 yX5_showsOf, Cond.instanceMethod yX5_showsOf, Cond.selects RX5 yX5_showsOf yX5_showsOf, Cond.code yX5_showsOf cX5_showsOf 4 (some .int), Cond.methodLink RX5 74 yX5_stands, Cond.instanceMethod yX5_stands, Cond.selects RX5 yX5_stands yX5_stands, Cond.code yX5_stands cX5_stands 7 none, Cond.methodLink RX5 71 yX5_left, Cond.static yX5_left, Cond.code yX5_left cX5_left 2 (some .int), Cond.methodLink RX5 78 yX5_of]
def wsL_law0_r10 : List Cond := [Cond.instanceMethod yX5_of, Cond.selects RX5 yX5_of yX5_of, Cond.code yX5_of cX5_of 6 (some .int), Cond.methodLink RL 95 yL_thread, Cond.static yL_thread, Cond.codeWith yL_thread cL_thread 6 (some .int) [(0, 12, 15, 13)], Cond.methodLink RL 28 yX4_thread, Cond.instanceMethod yX4_thread, Cond.selects RX4 yX4_thread yX4_thread, Cond.code yX4_thread cX4_thread 5 (some .int), Cond.methodLink RL 97 yX5_thread, Cond.instanceMethod yX5_thread, Cond.selects RX5 yX5_thread yX5_thread, Cond.code yX5_thread cX5_thread 4 (some .int), Cond.methodLink RL 98 yL_used, Cond.static yL_used, Cond.codeWith yL_used cL_used 5 (some .int) [(0, 10, 13, 13)], Cond.methodLink RL 31 yX4_used, Cond.instanceMethod yX4_used, Cond.selects RX4 yX4_used yX4_used, Cond.code yX4_used cX4_used 4 (some .int), Cond.methodLink RL 100 yX5_used, Cond.instanceMethod yX5_used, Cond.selects RX5 yX5_used yX5_used]
def wsL_law0_r11 : List Cond := [Cond.code yX5_used cX5_used 6 (some .int), Cond.methodLink RL 101 yL_home, Cond.static yL_home, Cond.codeWith yL_home cL_home 5 (some .int) [(0, 10, 13, 13)], Cond.methodLink RL 34 yX4_home, Cond.instanceMethod yX4_home, Cond.selects RX4 yX4_home yX4_home, Cond.code yX4_home cX4_home 4 (some .int), Cond.methodLink RX4 92 yX0_timesToHome, Cond.instanceMethod yX0_timesToHome, Cond.selects RX0 yX0_timesToHome yX0_timesToHome, Cond.code yX0_timesToHome cX0_timesToHome 4 (some .int), Cond.methodLink RX0 68 yX0_walk, Cond.methodLink RX0 72 yX0_isHome, Cond.instanceMethod yX0_isHome, Cond.selects RX0 yX0_isHome yX0_isHome, Cond.code yX0_isHome cX0_isHome 5 (some .boolean), Cond.methodLink RL 103 yX5_home, Cond.instanceMethod yX5_home, Cond.selects RX5 yX5_home yX5_home, Cond.code yX5_home cX5_home 6 (some .int), Cond.methodLink RL 104 yL_unlike, Cond.static yL_unlike, Cond.codeWith yL_unlike cL_unlike 5 (some .int) [(0, 10, 13, 13), (0, 10, 17, 15)]]
def wsL_law0_r12 : List Cond := [Cond.methodLink RL 37 yX4_unlike, Cond.instanceMethod yX4_unlike, Cond.selects RX4 yX4_unlike yX4_unlike, Cond.code yX4_unlike cX4_unlike 10 (some .int), Cond.methodLink RL 106 yX5_unlike, Cond.instanceMethod yX5_unlike, Cond.selects RX5 yX5_unlike yX5_unlike, Cond.code yX5_unlike cX5_unlike 6 (some .int), Cond.methodLink RL 107 yX4_picture, Cond.instanceMethod yX4_picture, Cond.selects RX4 yX4_picture yX4_picture, Cond.code yX4_picture cX4_picture 3 (some .int), Cond.methodLink RX4 103 yX2_begin, Cond.instanceMethod yX2_begin, Cond.selects RX2 yX2_begin yX2_begin, Cond.code yX2_begin cX2_begin 4 none, Cond.methodLink RL 110 yX5_picture, Cond.instanceMethod yX5_picture, Cond.selects RX5 yX5_picture yX5_picture, Cond.code yX5_picture cX5_picture 4 (some .int), Cond.fieldLink RX5 86 "KnotBandModel" "pictures" "I", Cond.methodLink RL 111 yL_see, Cond.static yL_see, Cond.codeWith yL_see cL_see 7 (some .int) [(0, 14, 17, 13), (0, 14, 21, 15)]]
def wsL_law0_r13 : List Cond := [Cond.methodLink RL 40 yX4_see, Cond.instanceMethod yX4_see, Cond.selects RX4 yX4_see yX4_see, Cond.code yX4_see cX4_see 8 (some .int), Cond.methodLink RX4 106 yX4_pictureAt, Cond.instanceMethod yX4_pictureAt, Cond.selects RX4 yX4_pictureAt yX4_pictureAt, Cond.code yX4_pictureAt cX4_pictureAt 2 (some (.object "KnotBand$Picture")), Cond.methodLink RL 113 yX5_see, Cond.instanceMethod yX5_see, Cond.selects RX5 yX5_see yX5_see, Cond.code yX5_see cX5_see 6 (some .int), Cond.methodLink RX5 89 yX5_isPicture, Cond.instanceMethod yX5_isPicture, Cond.selects RX5 yX5_isPicture yX5_isPicture, Cond.code yX5_isPicture cX5_isPicture 2 (some .boolean), Cond.methodLink RL 114 yL_must, Cond.static yL_must, Cond.codeWith yL_must cL_must 6 (some .int) [(0, 12, 15, 13), (0, 12, 19, 15)], Cond.methodLink RL 43 yX4_must, Cond.instanceMethod yX4_must, Cond.selects RX4 yX4_must yX4_must, Cond.code yX4_must cX4_must 6 (some .int), Cond.methodLink RL 116 yX5_must]
def wsL_law0_r14 : List Cond := [Cond.instanceMethod yX5_must, Cond.selects RX5 yX5_must yX5_must, Cond.code yX5_must cX5_must 5 (some .int), Cond.methodLink RL 117 yL_copy, Cond.static yL_copy, Cond.codeWith yL_copy cL_copy 5 (some .int) [(0, 17, 20, 13)], Cond.methodLink RL 46 yX4_copy, Cond.instanceMethod yX4_copy, Cond.selects RX4 yX4_copy yX4_copy, Cond.code yX4_copy cX4_copy 6 (some .boolean), Cond.methodLink RL 119 yX5_copy, Cond.instanceMethod yX5_copy, Cond.selects RX5 yX5_copy yX5_copy, Cond.code yX5_copy cX5_copy 5 (some .boolean), Cond.methodLink RL 120 yL_starts, Cond.static yL_starts, Cond.codeWith yL_starts cL_starts 4 (some .int) [(0, 9, 12, 13)], Cond.methodLink RL 50 yX4_starts, Cond.instanceMethod yX4_starts, Cond.selects RX4 yX4_starts yX4_starts, Cond.code yX4_starts cX4_starts 2 (some .int), Cond.methodLink RX4 122 yX4_workedOutAt, Cond.instanceMethod yX4_workedOutAt, Cond.selects RX4 yX4_workedOutAt yX4_workedOutAt]
def wsL_law0_r15 : List Cond := [Cond.code yX4_workedOutAt cX4_workedOutAt 3 (some (.object "KnotBand$Picture")), Cond.methodLink RX4 144 yX1_workOut, Cond.instanceMethod yX1_workOut, Cond.selects RX1 yX1_workOut yX1_workOut, Cond.code yX1_workOut cX1_workOut 3 none, Cond.methodLink RX1 36 yX1_listKnots, Cond.instanceMethod yX1_listKnots, Cond.selects RX1 yX1_listKnots yX1_listKnots, Cond.code yX1_listKnots cX1_listKnots 5 none, Cond.methodLink RX1 40 yX1_workBackward, Cond.instanceMethod yX1_workBackward, Cond.selects RX1 yX1_workBackward yX1_workBackward, Cond.code yX1_workBackward cX1_workBackward 2 none, Cond.methodLink RX1 43 yX3_fill, Cond.instanceMethod yX3_fill, Cond.selects RX3 yX3_fill yX3_fill, Cond.code yX3_fill cX3_fill 2 none, Cond.constantLong RX3 15 (-1), Cond.methodLink RX1 100 yX3_spread, Cond.instanceMethod yX3_spread, Cond.selects RX3 yX3_spread yX3_spread, Cond.code yX3_spread cX3_spread 3 none, Cond.fieldLink RX3 31 "KnotBand$Standings" "PLACE_3_LESS" "[J", Cond.fieldLink RX3 38 "KnotBand$Standings" "PLACE_4_LESS" "[J"]
def wsL_law0_r16 : List Cond := [Cond.methodLink RX3 27 yX3_spreadAcross, Cond.instanceMethod yX3_spreadAcross, Cond.selects RX3 yX3_spreadAcross yX3_spreadAcross, Cond.code yX3_spreadAcross cX3_spreadAcross 7 none, Cond.constantLong RX3 21 (65535), Cond.methodLink RX3 34 yX3_spreadInside, Cond.instanceMethod yX3_spreadInside, Cond.selects RX3 yX3_spreadInside yX3_spreadInside, Cond.code yX3_spreadInside cX3_spreadInside 11 none, Cond.methodLink RX3 41 yX3_spreadBetween, Cond.instanceMethod yX3_spreadBetween, Cond.selects RX3 yX3_spreadBetween yX3_spreadBetween, Cond.code yX3_spreadBetween cX3_spreadBetween 4 none, Cond.static yX4_exchanged, Cond.code yX4_exchanged cX4_exchanged 3 (some .int), Cond.methodLink RX1 104 yX3_keepEither, Cond.instanceMethod yX3_keepEither, Cond.selects RX3 yX3_keepEither yX3_keepEither, Cond.code yX3_keepEither cX3_keepEither 4 none, Cond.methodLink RX3 17 yX3_having, Cond.static yX3_having, Cond.code yX3_having cX3_having 3 (some .long), Cond.constantLong RX3 23 (4222189076152335), Cond.constantLong RX3 25 (1229782938247303441)]
def wsL_law0_r17 : List Cond := [Cond.methodLink RX1 51 yX3_keep, Cond.instanceMethod yX3_keep, Cond.selects RX3 yX3_keep yX3_keep, Cond.code yX3_keep cX3_keep 4 none, Cond.methodLink RX1 58 yX3_countShared, Cond.instanceMethod yX3_countShared, Cond.selects RX3 yX3_countShared yX3_countShared, Cond.code yX3_countShared cX3_countShared 4 (some .int), Cond.methodLink RX3 49 yJ13_bitCount_95d88, Cond.static yJ13_bitCount_95d88, Cond.initialized RJ13, Cond.code yJ13_bitCount_95d88 cJ13_bitCount_95d88 2 (some .int), Cond.constantLong RJ13 314 (6148914691236517205), Cond.constantLong RJ13 316 (3689348814741910323), Cond.constantLong RJ13 318 (1085102592571150095), Cond.methodLink RX1 65 yX3_firstShared, Cond.instanceMethod yX3_firstShared, Cond.selects RX3 yX3_firstShared yX3_firstShared, Cond.code yX3_firstShared cX3_firstShared 6 (some .int), Cond.methodLink RX1 71 yX1_chooseKinds, Cond.instanceMethod yX1_chooseKinds, Cond.selects RX1 yX1_chooseKinds yX1_chooseKinds, Cond.code yX1_chooseKinds cX1_chooseKinds 6 none, Cond.methodLink RX1 107 yX1_leastKind]
def wsL_law0_r18 : List Cond := [Cond.instanceMethod yX1_leastKind, Cond.selects RX1 yX1_leastKind yX1_leastKind, Cond.code yX1_leastKind cX1_leastKind 6 (some .int), Cond.static yX4_colourIn, Cond.code yX4_colourIn cX4_colourIn 2 (some .int), Cond.methodLink RX4 154 yX4_bitOf, Cond.static yX4_bitOf, Cond.code yX4_bitOf cX4_bitOf 1 (some .int), Cond.methodLink RX1 117 yX1_standingBehind, Cond.instanceMethod yX1_standingBehind, Cond.selects RX1 yX1_standingBehind yX1_standingBehind, Cond.code yX1_standingBehind cX1_standingBehind 4 (some .int), Cond.methodLink RX1 126 yX3_has, Cond.instanceMethod yX3_has, Cond.selects RX3 yX3_has yX3_has, Cond.code yX3_has cX3_has 2 (some .boolean), Cond.methodLink RX1 74 yX1_findSuspects, Cond.instanceMethod yX1_findSuspects, Cond.selects RX1 yX1_findSuspects yX1_findSuspects, Cond.code yX1_findSuspects cX1_findSuspects 3 none, Cond.methodLink RL 123 yX5_starts, Cond.instanceMethod yX5_starts, Cond.selects RX5 yX5_starts yX5_starts, Cond.code yX5_starts cX5_starts 4 (some .int)]
def wsL_law0_r19 : List Cond := [Cond.methodLink RX5 109 yX5_leadsBack, Cond.instanceMethod yX5_leadsBack, Cond.selects RX5 yX5_leadsBack yX5_leadsBack, Cond.code yX5_leadsBack cX5_leadsBack 6 none, Cond.methodLink RX5 98 yX5_states, Cond.instanceMethod yX5_states, Cond.selects RX5 yX5_states yX5_states, Cond.code yX5_states cX5_states 2 (some .int), Cond.methodLink RX5 102 yX5_fits, Cond.instanceMethod yX5_fits, Cond.selects RX5 yX5_fits yX5_fits, Cond.code yX5_fits cX5_fits 7 (some .boolean), Cond.methodLink RX5 95 yX5_digit, Cond.static yX5_digit, Cond.code yX5_digit cX5_digit 3 (some .int), Cond.methodLink RX5 105 yX5_changed, Cond.static yX5_changed, Cond.code yX5_changed cX5_changed 6 (some .int), Cond.methodLink RX5 92 yX5_swapped, Cond.static yX5_swapped, Cond.code yX5_swapped cX5_swapped 6 (some .int), Cond.methodLink RX5 113 yX5_isStart, Cond.instanceMethod yX5_isStart, Cond.selects RX5 yX5_isStart yX5_isStart]
def wsL_law0_r20 : List Cond := [Cond.code yX5_isStart cX5_isStart 5 (some .boolean), Cond.methodLink RL 124 yL_start, Cond.static yL_start, Cond.codeWith yL_start cL_start 5 (some .int) [(0, 10, 13, 13)], Cond.methodLink RL 54 yX4_start, Cond.instanceMethod yX4_start, Cond.selects RX4 yX4_start yX4_start, Cond.code yX4_start cX4_start 4 (some .int), Cond.methodLink RX4 131 yX4_colourIn, Cond.methodLink RL 126 yX5_start, Cond.instanceMethod yX5_start, Cond.selects RX5 yX5_start yX5_start, Cond.code yX5_start cX5_start 4 (some .int), Cond.methodLink RX5 117 yX5_first, Cond.instanceMethod yX5_first, Cond.selects RX5 yX5_first yX5_first, Cond.code yX5_first cX5_first 3 (some .int), Cond.methodLink RL 127 yL_tie, Cond.static yL_tie, Cond.codeWith yL_tie cL_tie 4 (some .int) [(0, 9, 12, 13)], Cond.methodLink RL 57 yX4_tie, Cond.instanceMethod yX4_tie, Cond.selects RX4 yX4_tie yX4_tie, Cond.code yX4_tie cX4_tie 3 (some .int)]
def wsL_law0_r21 : List Cond := [Cond.methodLink RX4 134 yX0_become, Cond.instanceMethod yX0_become, Cond.selects RX0 yX0_become yX0_become, Cond.code yX0_become cX0_become 3 none, Cond.methodLink RL 129 yX5_tie, Cond.instanceMethod yX5_tie, Cond.selects RX5 yX5_tie yX5_tie, Cond.code yX5_tie cX5_tie 10 (some .int), Cond.methodLink RX5 120 yX5_isKind, Cond.instanceMethod yX5_isKind, Cond.selects RX5 yX5_isKind yX5_isKind, Cond.code yX5_isKind cX5_isKind 7 (some .boolean), Cond.methodLink RX5 124 yX5_isOpen, Cond.instanceMethod yX5_isOpen, Cond.selects RX5 yX5_isOpen yX5_isOpen, Cond.code yX5_isOpen cX5_isOpen 7 (some .boolean), Cond.methodLink RL 130 yL_suspect, Cond.static yL_suspect, Cond.codeWith yL_suspect cL_suspect 5 (some .int) [(0, 10, 13, 13)], Cond.methodLink RL 60 yX4_suspect, Cond.instanceMethod yX4_suspect, Cond.selects RX4 yX4_suspect yX4_suspect, Cond.code yX4_suspect cX4_suspect 4 (some .int), Cond.methodLink RL 132 yX5_suspect]
def wsL_law0_r22 : List Cond := [Cond.instanceMethod yX5_suspect, Cond.selects RX5 yX5_suspect yX5_suspect, Cond.code yX5_suspect cX5_suspect 10 (some .int), Cond.methodLink RL 133 yL_count, Cond.static yL_count, Cond.codeWith yL_count cL_count 4 (some .int) [(0, 9, 12, 13)], Cond.methodLink RL 63 yX4_count, Cond.instanceMethod yX4_count, Cond.selects RX4 yX4_count yX4_count, Cond.code yX4_count cX4_count 2 (some .int), Cond.methodLink RL 135 yX5_count, Cond.instanceMethod yX5_count, Cond.selects RX5 yX5_count yX5_count, Cond.code yX5_count cX5_count 2 (some .int)]
def wsL_law0 : List Cond := (wsL_law0_r1 ++ (wsL_law0_r2 ++ (wsL_law0_r3 ++ (wsL_law0_r4 ++ (wsL_law0_r5 ++ (wsL_law0_r6 ++ (wsL_law0_r7 ++ (wsL_law0_r8 ++ (wsL_law0_r9 ++ (wsL_law0_r10 ++ (wsL_law0_r11 ++ (wsL_law0_r12 ++ (wsL_law0_r13 ++ (wsL_law0_r14 ++ (wsL_law0_r15 ++ (wsL_law0_r16 ++ (wsL_law0_r17 ++ (wsL_law0_r18 ++ (wsL_law0_r19 ++ (wsL_law0_r20 ++ (wsL_law0_r21 ++ wsL_law0_r22))))))))))))))))))))) ++ wsX40 ++ wsX50 ++ wsX10 ++ wsX00 ++ wsX20 ++ wsX30 ++ ([] : List Cond)
def wsL_law : List Cond := wsL_law0 ++ (vx_atN RX4 151).filter goodWord ++ (vx_atS RX4 100 "java/lang/IllegalArgumentException" ["java/lang/RuntimeException", "java/lang/Exception"]).filter goodWord
theorem inlX0 : ∀ w ∈ wsX00, w ∈ wsL_law := fun _ h => List.mem_append_left _ (List.mem_append_left _ (List.mem_append_left _ (List.mem_append_left _ (List.mem_append_left _ (List.mem_append_right _ h)))))
theorem inlX1 : ∀ w ∈ wsX10, w ∈ wsL_law := fun _ h => List.mem_append_left _ (List.mem_append_left _ (List.mem_append_left _ (List.mem_append_left _ (List.mem_append_left _ (List.mem_append_left _ (List.mem_append_right _ h))))))
theorem inlX2 : ∀ w ∈ wsX20, w ∈ wsL_law := fun _ h => List.mem_append_left _ (List.mem_append_left _ (List.mem_append_left _ (List.mem_append_left _ (List.mem_append_right _ h))))
theorem inlX3 : ∀ w ∈ wsX30, w ∈ wsL_law := fun _ h => List.mem_append_left _ (List.mem_append_left _ (List.mem_append_left _ (List.mem_append_right _ h)))
theorem inlX4 : ∀ w ∈ wsX40, w ∈ wsL_law := fun _ h => List.mem_append_left _ (List.mem_append_left _ (List.mem_append_left _ (List.mem_append_left _ (List.mem_append_left _ (List.mem_append_left _ (List.mem_append_left _ (List.mem_append_left _ (List.mem_append_right _ h))))))))
theorem inlX5 : ∀ w ∈ wsX50, w ∈ wsL_law := fun _ h => List.mem_append_left _ (List.mem_append_left _ (List.mem_append_left _ (List.mem_append_left _ (List.mem_append_left _ (List.mem_append_left _ (List.mem_append_left _ (List.mem_append_right _ h)))))))
theorem dX0_init_0 : decode cX0_init 0 = .ok (.aload_n 0, 1) := by decide +kernel
theorem dX0_init_1 : decode cX0_init 1 = .ok (.invokespecial 3, 3) := by decide +kernel
theorem dX0_init_4 : decode cX0_init 4 = .ok (.aload_n 0, 1) := by decide +kernel
theorem dX0_init_5 : decode cX0_init 5 = .ok (.bipush 6, 2) := by decide +kernel
theorem dX0_init_7 : decode cX0_init 7 = .ok (.newarray .int, 2) := by decide +kernel
theorem dX0_init_9 : decode cX0_init 9 = .ok (.putfield 9, 3) := by decide +kernel
theorem dX0_init_12 : decode cX0_init 12 = .ok (.aload_n 0, 1) := by decide +kernel
theorem dX0_init_13 : decode cX0_init 13 = .ok (.bipush 16, 2) := by decide +kernel
theorem dX0_init_15 : decode cX0_init 15 = .ok (.newarray .int, 2) := by decide +kernel
theorem dX0_init_17 : decode cX0_init 17 = .ok (.putfield 15, 3) := by decide +kernel
theorem dX0_init_20 : decode cX0_init 20 = .ok (.aload_n 0, 1) := by decide +kernel
theorem dX0_init_21 : decode cX0_init 21 = .ok (.iconst 0, 1) := by decide +kernel
theorem dX0_init_22 : decode cX0_init 22 = .ok (.putfield 18, 3) := by decide +kernel
theorem dX0_init_25 : decode cX0_init 25 = .ok (.aload_n 0, 1) := by decide +kernel
theorem dX0_init_26 : decode cX0_init 26 = .ok (.iconst 0, 1) := by decide +kernel
theorem dX0_init_27 : decode cX0_init 27 = .ok (.putfield 22, 3) := by decide +kernel
theorem dX0_init_30 : decode cX0_init 30 = .ok (.aload_n 0, 1) := by decide +kernel
theorem dX0_init_31 : decode cX0_init 31 = .ok (.bipush 6, 2) := by decide +kernel
theorem dX0_init_33 : decode cX0_init 33 = .ok (.newarray .int, 2) := by decide +kernel
theorem dX0_init_35 : decode cX0_init 35 = .ok (.putfield 25, 3) := by decide +kernel
theorem dX0_init_38 : decode cX0_init 38 = .ok (.aload_n 0, 1) := by decide +kernel
theorem dX0_init_39 : decode cX0_init 39 = .ok (.bipush 6, 2) := by decide +kernel
theorem dX0_init_41 : decode cX0_init 41 = .ok (.newarray .int, 2) := by decide +kernel
theorem dX0_init_43 : decode cX0_init 43 = .ok (.putfield 28, 3) := by decide +kernel
theorem dX0_init_46 : decode cX0_init 46 = .ok (.aload_n 0, 1) := by decide +kernel
theorem dX0_init_47 : decode cX0_init 47 = .ok (.bipush 48, 2) := by decide +kernel
theorem dX0_init_49 : decode cX0_init 49 = .ok (.newarray .int, 2) := by decide +kernel
theorem dX0_init_51 : decode cX0_init 51 = .ok (.putfield 31, 3) := by decide +kernel
theorem dX0_init_54 : decode cX0_init 54 = .ok (.aload_n 0, 1) := by decide +kernel
theorem dX0_init_55 : decode cX0_init 55 = .ok (.bipush 6, 2) := by decide +kernel
theorem dX0_init_57 : decode cX0_init 57 = .ok (.newarray .int, 2) := by decide +kernel
theorem dX0_init_59 : decode cX0_init 59 = .ok (.putfield 34, 3) := by decide +kernel
theorem dX0_init_62 : decode cX0_init 62 = .ok (.return_, 1) := by decide +kernel
set_option maxRecDepth 20000 in
theorem ggX0_become_X4_colourIn : GoodIn wsX0_become wsX4_colourIn := goodIn_r _ [7, 8, 9, 6, 10] (by decide +kernel) (by decide +kernel)
set_option maxRecDepth 20000 in
theorem gX0_become_X4_colourIn_n44 : GoodIn wsX0_become (wsX4_colourIn) := ggX0_become_X4_colourIn
theorem dX0_become_0 : decode cX0_become 0 = .ok (.aload_n 0, 1) := by decide +kernel
theorem dX0_become_1 : decode cX0_become 1 = .ok (.aload_n 1, 1) := by decide +kernel
theorem dX0_become_2 : decode cX0_become 2 = .ok (.getfield 37, 3) := by decide +kernel
theorem dX0_become_5 : decode cX0_become 5 = .ok (.putfield 18, 3) := by decide +kernel
theorem dX0_become_8 : decode cX0_become 8 = .ok (.aload_n 0, 1) := by decide +kernel
theorem dX0_become_9 : decode cX0_become 9 = .ok (.aload_n 1, 1) := by decide +kernel
theorem dX0_become_10 : decode cX0_become 10 = .ok (.getfield 40, 3) := by decide +kernel
theorem dX0_become_13 : decode cX0_become 13 = .ok (.putfield 22, 3) := by decide +kernel
theorem dX0_become_16 : decode cX0_become 16 = .ok (.iconst 0, 1) := by decide +kernel
theorem dX0_become_17 : decode cX0_become 17 = .ok (.istore_n 2, 1) := by decide +kernel
theorem dX0_become_18 : decode cX0_become 18 = .ok (.iload_n 2, 1) := by decide +kernel
theorem dX0_become_19 : decode cX0_become 19 = .ok (.aload_n 0, 1) := by decide +kernel
theorem dX0_become_20 : decode cX0_become 20 = .ok (.getfield 18, 3) := by decide +kernel
theorem dX0_become_23 : decode cX0_become 23 = .ok (.if_icmp .ge 23, 3) := by decide +kernel
theorem dX0_become_26 : decode cX0_become 26 = .ok (.aload_n 0, 1) := by decide +kernel
theorem dX0_become_27 : decode cX0_become 27 = .ok (.getfield 9, 3) := by decide +kernel
theorem dX0_become_30 : decode cX0_become 30 = .ok (.iload_n 2, 1) := by decide +kernel
theorem dX0_become_31 : decode cX0_become 31 = .ok (.aload_n 1, 1) := by decide +kernel
theorem dX0_become_32 : decode cX0_become 32 = .ok (.getfield 41, 3) := by decide +kernel
theorem dX0_become_35 : decode cX0_become 35 = .ok (.iload_n 2, 1) := by decide +kernel
theorem dX0_become_36 : decode cX0_become 36 = .ok (.invokestatic 44, 3) := by decide +kernel
theorem dX0_become_39 : decode cX0_become 39 = .ok (.iastore, 1) := by decide +kernel
theorem dX0_become_40 : decode cX0_become 40 = .ok (.iinc 2 1, 3) := by decide +kernel
theorem dX0_become_43 : decode cX0_become 43 = .ok (.goto (-25), 3) := by decide +kernel
theorem dX0_become_46 : decode cX0_become 46 = .ok (.iconst 0, 1) := by decide +kernel
theorem dX0_become_47 : decode cX0_become 47 = .ok (.istore_n 2, 1) := by decide +kernel
theorem dX0_become_48 : decode cX0_become 48 = .ok (.iload_n 2, 1) := by decide +kernel
theorem dX0_become_49 : decode cX0_become 49 = .ok (.aload_n 0, 1) := by decide +kernel
theorem dX0_become_50 : decode cX0_become 50 = .ok (.getfield 22, 3) := by decide +kernel
theorem dX0_become_53 : decode cX0_become 53 = .ok (.if_icmp .ge 21, 3) := by decide +kernel
theorem dX0_become_56 : decode cX0_become 56 = .ok (.aload_n 0, 1) := by decide +kernel
theorem dX0_become_57 : decode cX0_become 57 = .ok (.getfield 15, 3) := by decide +kernel
theorem dX0_become_60 : decode cX0_become 60 = .ok (.iload_n 2, 1) := by decide +kernel
theorem dX0_become_61 : decode cX0_become 61 = .ok (.aload_n 1, 1) := by decide +kernel
theorem dX0_become_62 : decode cX0_become 62 = .ok (.getfield 48, 3) := by decide +kernel
theorem dX0_become_65 : decode cX0_become 65 = .ok (.iload_n 2, 1) := by decide +kernel
theorem dX0_become_66 : decode cX0_become 66 = .ok (.iaload, 1) := by decide +kernel
theorem dX0_become_67 : decode cX0_become 67 = .ok (.iastore, 1) := by decide +kernel
theorem dX0_become_68 : decode cX0_become 68 = .ok (.iinc 2 1, 3) := by decide +kernel
theorem dX0_become_71 : decode cX0_become 71 = .ok (.goto (-23), 3) := by decide +kernel
theorem dX0_become_74 : decode cX0_become 74 = .ok (.return_, 1) := by decide +kernel
set_option maxRecDepth 20000 in
theorem ggX0_walk_X4_knotsIn : GoodIn wsX0_walk wsX4_knotsIn := goodIn_r _ [6] (by decide +kernel) (by decide +kernel)
set_option maxRecDepth 20000 in
theorem gX0_walk_X4_knotsIn_n49 : GoodIn wsX0_walk (wsX4_knotsIn) := ggX0_walk_X4_knotsIn
set_option maxRecDepth 20000 in
theorem ggX0_walk_X0_walkKnot : GoodIn wsX0_walk wsX0_walkKnot := goodIn_r _ [11, 12, 2, 13, 14, 3, 15, 5, 16, 17, 18, 19, 20, 21, 22, 23, 24, 25, 26, 27, 28, 29, 30] (by decide +kernel) (by decide +kernel)
set_option maxRecDepth 20000 in
theorem gX0_walk_X0_walkKnot : GoodIn wsX0_walk (wsV RX0 52 RX0 yX0_walkKnot wsX0_walkKnot) := goodIn_app (goodIn_of _ (by decide +kernel)) ggX0_walk_X0_walkKnot
theorem dX0_walk_0 : decode cX0_walk 0 = .ok (.iconst 0, 1) := by decide +kernel
theorem dX0_walk_1 : decode cX0_walk 1 = .ok (.istore_n 2, 1) := by decide +kernel
theorem dX0_walk_2 : decode cX0_walk 2 = .ok (.iload_n 2, 1) := by decide +kernel
theorem dX0_walk_3 : decode cX0_walk 3 = .ok (.aload_n 0, 1) := by decide +kernel
theorem dX0_walk_4 : decode cX0_walk 4 = .ok (.getfield 18, 3) := by decide +kernel
theorem dX0_walk_7 : decode cX0_walk 7 = .ok (.if_icmp .ge 23, 3) := by decide +kernel
theorem dX0_walk_10 : decode cX0_walk 10 = .ok (.aload_n 0, 1) := by decide +kernel
theorem dX0_walk_11 : decode cX0_walk 11 = .ok (.getfield 25, 3) := by decide +kernel
theorem dX0_walk_14 : decode cX0_walk 14 = .ok (.iload_n 2, 1) := by decide +kernel
theorem dX0_walk_15 : decode cX0_walk 15 = .ok (.iload_n 2, 1) := by decide +kernel
theorem dX0_walk_16 : decode cX0_walk 16 = .ok (.iastore, 1) := by decide +kernel
theorem dX0_walk_17 : decode cX0_walk 17 = .ok (.aload_n 0, 1) := by decide +kernel
theorem dX0_walk_18 : decode cX0_walk 18 = .ok (.getfield 28, 3) := by decide +kernel
theorem dX0_walk_21 : decode cX0_walk 21 = .ok (.iload_n 2, 1) := by decide +kernel
theorem dX0_walk_22 : decode cX0_walk 22 = .ok (.iconst 0, 1) := by decide +kernel
theorem dX0_walk_23 : decode cX0_walk 23 = .ok (.iastore, 1) := by decide +kernel
theorem dX0_walk_24 : decode cX0_walk 24 = .ok (.iinc 2 1, 3) := by decide +kernel
theorem dX0_walk_27 : decode cX0_walk 27 = .ok (.goto (-25), 3) := by decide +kernel
theorem dX0_walk_30 : decode cX0_walk 30 = .ok (.iconst 0, 1) := by decide +kernel
theorem dX0_walk_31 : decode cX0_walk 31 = .ok (.istore_n 2, 1) := by decide +kernel
theorem dX0_walk_32 : decode cX0_walk 32 = .ok (.iload_n 2, 1) := by decide +kernel
theorem dX0_walk_33 : decode cX0_walk 33 = .ok (.iload_n 1, 1) := by decide +kernel
theorem dX0_walk_34 : decode cX0_walk 34 = .ok (.if_icmp .ge 40, 3) := by decide +kernel
theorem dX0_walk_37 : decode cX0_walk 37 = .ok (.aload_n 0, 1) := by decide +kernel
theorem dX0_walk_38 : decode cX0_walk 38 = .ok (.getfield 18, 3) := by decide +kernel
theorem dX0_walk_41 : decode cX0_walk 41 = .ok (.iload_n 2, 1) := by decide +kernel
theorem dX0_walk_42 : decode cX0_walk 42 = .ok (.invokestatic 49, 3) := by decide +kernel
theorem dX0_walk_45 : decode cX0_walk 45 = .ok (.istore_n 3, 1) := by decide +kernel
theorem dX0_walk_46 : decode cX0_walk 46 = .ok (.iconst 0, 1) := by decide +kernel
theorem dX0_walk_47 : decode cX0_walk 47 = .ok (.istore 4, 2) := by decide +kernel
theorem dX0_walk_49 : decode cX0_walk 49 = .ok (.iload 4, 2) := by decide +kernel
theorem dX0_walk_51 : decode cX0_walk 51 = .ok (.iload_n 3, 1) := by decide +kernel
theorem dX0_walk_52 : decode cX0_walk 52 = .ok (.if_icmp .ge 16, 3) := by decide +kernel
theorem dX0_walk_55 : decode cX0_walk 55 = .ok (.aload_n 0, 1) := by decide +kernel
theorem dX0_walk_56 : decode cX0_walk 56 = .ok (.iload_n 2, 1) := by decide +kernel
theorem dX0_walk_57 : decode cX0_walk 57 = .ok (.iload 4, 2) := by decide +kernel
theorem dX0_walk_59 : decode cX0_walk 59 = .ok (.invokevirtual 52, 3) := by decide +kernel
theorem dX0_walk_62 : decode cX0_walk 62 = .ok (.iinc 4 1, 3) := by decide +kernel
theorem dX0_walk_65 : decode cX0_walk 65 = .ok (.goto (-16), 3) := by decide +kernel
theorem dX0_walk_68 : decode cX0_walk 68 = .ok (.iinc 2 1, 3) := by decide +kernel
theorem dX0_walk_71 : decode cX0_walk 71 = .ok (.goto (-39), 3) := by decide +kernel
theorem dX0_walk_74 : decode cX0_walk 74 = .ok (.return_, 1) := by decide +kernel
set_option maxRecDepth 20000 in
theorem ggX0_walkKnot_X4_leftPlaceOf : GoodIn wsX0_walkKnot wsX4_leftPlaceOf := goodIn_r _ [8] (by decide +kernel) (by decide +kernel)
set_option maxRecDepth 20000 in
theorem gX0_walkKnot_X4_leftPlaceOf_n56 : GoodIn wsX0_walkKnot (wsX4_leftPlaceOf) := ggX0_walkKnot_X4_leftPlaceOf
set_option maxRecDepth 20000 in
theorem ggX0_walkKnot_X4_kindIn : GoodIn wsX0_walkKnot wsX4_kindIn := goodIn_r _ [10] (by decide +kernel) (by decide +kernel)
set_option maxRecDepth 20000 in
theorem gX0_walkKnot_X4_kindIn_n59 : GoodIn wsX0_walkKnot (wsX4_kindIn) := ggX0_walkKnot_X4_kindIn
set_option maxRecDepth 20000 in
theorem ggX0_walkKnot_X4_showingPlace : GoodIn wsX0_walkKnot wsX4_showingPlace := goodIn_r _ [12] (by decide +kernel) (by decide +kernel)
set_option maxRecDepth 20000 in
theorem gX0_walkKnot_X4_showingPlace_n62 : GoodIn wsX0_walkKnot (wsX4_showingPlace) := ggX0_walkKnot_X4_showingPlace
set_option maxRecDepth 20000 in
theorem ggX0_walkKnot_X4_spotOf : GoodIn wsX0_walkKnot wsX4_spotOf := goodIn_r _ [14] (by decide +kernel) (by decide +kernel)
set_option maxRecDepth 20000 in
theorem gX0_walkKnot_X4_spotOf_n65 : GoodIn wsX0_walkKnot (wsX4_spotOf) := ggX0_walkKnot_X4_spotOf
theorem dX0_walkKnot_0 : decode cX0_walkKnot 0 = .ok (.iload_n 1, 1) := by decide +kernel
theorem dX0_walkKnot_1 : decode cX0_walkKnot 1 = .ok (.iload_n 2, 1) := by decide +kernel
theorem dX0_walkKnot_2 : decode cX0_walkKnot 2 = .ok (.invokestatic 56, 3) := by decide +kernel
theorem dX0_walkKnot_5 : decode cX0_walkKnot 5 = .ok (.istore_n 3, 1) := by decide +kernel
theorem dX0_walkKnot_6 : decode cX0_walkKnot 6 = .ok (.aload_n 0, 1) := by decide +kernel
theorem dX0_walkKnot_7 : decode cX0_walkKnot 7 = .ok (.getfield 15, 3) := by decide +kernel
theorem dX0_walkKnot_10 : decode cX0_walkKnot 10 = .ok (.iload_n 1, 1) := by decide +kernel
theorem dX0_walkKnot_11 : decode cX0_walkKnot 11 = .ok (.iaload, 1) := by decide +kernel
theorem dX0_walkKnot_12 : decode cX0_walkKnot 12 = .ok (.iload_n 2, 1) := by decide +kernel
theorem dX0_walkKnot_13 : decode cX0_walkKnot 13 = .ok (.invokestatic 59, 3) := by decide +kernel
theorem dX0_walkKnot_16 : decode cX0_walkKnot 16 = .ok (.istore 4, 2) := by decide +kernel
theorem dX0_walkKnot_18 : decode cX0_walkKnot 18 = .ok (.aload_n 0, 1) := by decide +kernel
theorem dX0_walkKnot_19 : decode cX0_walkKnot 19 = .ok (.getfield 25, 3) := by decide +kernel
theorem dX0_walkKnot_22 : decode cX0_walkKnot 22 = .ok (.iload_n 3, 1) := by decide +kernel
theorem dX0_walkKnot_23 : decode cX0_walkKnot 23 = .ok (.iaload, 1) := by decide +kernel
theorem dX0_walkKnot_24 : decode cX0_walkKnot 24 = .ok (.istore 5, 2) := by decide +kernel
theorem dX0_walkKnot_26 : decode cX0_walkKnot 26 = .ok (.aload_n 0, 1) := by decide +kernel
theorem dX0_walkKnot_27 : decode cX0_walkKnot 27 = .ok (.getfield 25, 3) := by decide +kernel
theorem dX0_walkKnot_30 : decode cX0_walkKnot 30 = .ok (.iload_n 3, 1) := by decide +kernel
theorem dX0_walkKnot_31 : decode cX0_walkKnot 31 = .ok (.iconst 1, 1) := by decide +kernel
theorem dX0_walkKnot_32 : decode cX0_walkKnot 32 = .ok (.iadd, 1) := by decide +kernel
theorem dX0_walkKnot_33 : decode cX0_walkKnot 33 = .ok (.iaload, 1) := by decide +kernel
theorem dX0_walkKnot_34 : decode cX0_walkKnot 34 = .ok (.istore 6, 2) := by decide +kernel
theorem dX0_walkKnot_36 : decode cX0_walkKnot 36 = .ok (.aload_n 0, 1) := by decide +kernel
theorem dX0_walkKnot_37 : decode cX0_walkKnot 37 = .ok (.getfield 25, 3) := by decide +kernel
theorem dX0_walkKnot_40 : decode cX0_walkKnot 40 = .ok (.iload_n 3, 1) := by decide +kernel
theorem dX0_walkKnot_41 : decode cX0_walkKnot 41 = .ok (.iload 4, 2) := by decide +kernel
theorem dX0_walkKnot_43 : decode cX0_walkKnot 43 = .ok (.invokestatic 62, 3) := by decide +kernel
theorem dX0_walkKnot_46 : decode cX0_walkKnot 46 = .ok (.iaload, 1) := by decide +kernel
theorem dX0_walkKnot_47 : decode cX0_walkKnot 47 = .ok (.istore 7, 2) := by decide +kernel
theorem dX0_walkKnot_49 : decode cX0_walkKnot 49 = .ok (.iload 7, 2) := by decide +kernel
theorem dX0_walkKnot_51 : decode cX0_walkKnot 51 = .ok (.iload 5, 2) := by decide +kernel
theorem dX0_walkKnot_53 : decode cX0_walkKnot 53 = .ok (.if_icmp .ne 8, 3) := by decide +kernel
theorem dX0_walkKnot_56 : decode cX0_walkKnot 56 = .ok (.iload 6, 2) := by decide +kernel
theorem dX0_walkKnot_58 : decode cX0_walkKnot 58 = .ok (.goto 5, 3) := by decide +kernel
theorem dX0_walkKnot_61 : decode cX0_walkKnot 61 = .ok (.iload 5, 2) := by decide +kernel
theorem dX0_walkKnot_63 : decode cX0_walkKnot 63 = .ok (.istore 8, 2) := by decide +kernel
theorem dX0_walkKnot_65 : decode cX0_walkKnot 65 = .ok (.aload_n 0, 1) := by decide +kernel
theorem dX0_walkKnot_66 : decode cX0_walkKnot 66 = .ok (.getfield 31, 3) := by decide +kernel
theorem dX0_walkKnot_69 : decode cX0_walkKnot 69 = .ok (.iload_n 1, 1) := by decide +kernel
theorem dX0_walkKnot_70 : decode cX0_walkKnot 70 = .ok (.iload_n 2, 1) := by decide +kernel
theorem dX0_walkKnot_71 : decode cX0_walkKnot 71 = .ok (.invokestatic 65, 3) := by decide +kernel
theorem dX0_walkKnot_74 : decode cX0_walkKnot 74 = .ok (.aload_n 0, 1) := by decide +kernel
theorem dX0_walkKnot_75 : decode cX0_walkKnot 75 = .ok (.getfield 9, 3) := by decide +kernel
theorem dX0_walkKnot_78 : decode cX0_walkKnot 78 = .ok (.iload 7, 2) := by decide +kernel
theorem dX0_walkKnot_80 : decode cX0_walkKnot 80 = .ok (.iaload, 1) := by decide +kernel
theorem dX0_walkKnot_81 : decode cX0_walkKnot 81 = .ok (.iastore, 1) := by decide +kernel
theorem dX0_walkKnot_82 : decode cX0_walkKnot 82 = .ok (.aload_n 0, 1) := by decide +kernel
theorem dX0_walkKnot_83 : decode cX0_walkKnot 83 = .ok (.getfield 28, 3) := by decide +kernel
theorem dX0_walkKnot_86 : decode cX0_walkKnot 86 = .ok (.iload 7, 2) := by decide +kernel
theorem dX0_walkKnot_88 : decode cX0_walkKnot 88 = .ok (.dup2, 1) := by decide +kernel
theorem dX0_walkKnot_89 : decode cX0_walkKnot 89 = .ok (.iaload, 1) := by decide +kernel
theorem dX0_walkKnot_90 : decode cX0_walkKnot 90 = .ok (.iconst 5, 1) := by decide +kernel
theorem dX0_walkKnot_91 : decode cX0_walkKnot 91 = .ok (.iadd, 1) := by decide +kernel
theorem dX0_walkKnot_92 : decode cX0_walkKnot 92 = .ok (.iastore, 1) := by decide +kernel
theorem dX0_walkKnot_93 : decode cX0_walkKnot 93 = .ok (.aload_n 0, 1) := by decide +kernel
theorem dX0_walkKnot_94 : decode cX0_walkKnot 94 = .ok (.getfield 28, 3) := by decide +kernel
theorem dX0_walkKnot_97 : decode cX0_walkKnot 97 = .ok (.iload 8, 2) := by decide +kernel
theorem dX0_walkKnot_99 : decode cX0_walkKnot 99 = .ok (.dup2, 1) := by decide +kernel
theorem dX0_walkKnot_100 : decode cX0_walkKnot 100 = .ok (.iaload, 1) := by decide +kernel
theorem dX0_walkKnot_101 : decode cX0_walkKnot 101 = .ok (.iconst 1, 1) := by decide +kernel
theorem dX0_walkKnot_102 : decode cX0_walkKnot 102 = .ok (.iadd, 1) := by decide +kernel
theorem dX0_walkKnot_103 : decode cX0_walkKnot 103 = .ok (.iastore, 1) := by decide +kernel
theorem dX0_walkKnot_104 : decode cX0_walkKnot 104 = .ok (.iload 4, 2) := by decide +kernel
theorem dX0_walkKnot_106 : decode cX0_walkKnot 106 = .ok (.iconst 2, 1) := by decide +kernel
theorem dX0_walkKnot_107 : decode cX0_walkKnot 107 = .ok (.if_icmp .ge 21, 3) := by decide +kernel
theorem dX0_walkKnot_110 : decode cX0_walkKnot 110 = .ok (.aload_n 0, 1) := by decide +kernel
theorem dX0_walkKnot_111 : decode cX0_walkKnot 111 = .ok (.getfield 25, 3) := by decide +kernel
theorem dX0_walkKnot_114 : decode cX0_walkKnot 114 = .ok (.iload_n 3, 1) := by decide +kernel
theorem dX0_walkKnot_115 : decode cX0_walkKnot 115 = .ok (.iload 6, 2) := by decide +kernel
theorem dX0_walkKnot_117 : decode cX0_walkKnot 117 = .ok (.iastore, 1) := by decide +kernel
theorem dX0_walkKnot_118 : decode cX0_walkKnot 118 = .ok (.aload_n 0, 1) := by decide +kernel
theorem dX0_walkKnot_119 : decode cX0_walkKnot 119 = .ok (.getfield 25, 3) := by decide +kernel
theorem dX0_walkKnot_122 : decode cX0_walkKnot 122 = .ok (.iload_n 3, 1) := by decide +kernel
theorem dX0_walkKnot_123 : decode cX0_walkKnot 123 = .ok (.iconst 1, 1) := by decide +kernel
theorem dX0_walkKnot_124 : decode cX0_walkKnot 124 = .ok (.iadd, 1) := by decide +kernel
theorem dX0_walkKnot_125 : decode cX0_walkKnot 125 = .ok (.iload 5, 2) := by decide +kernel
theorem dX0_walkKnot_127 : decode cX0_walkKnot 127 = .ok (.iastore, 1) := by decide +kernel
theorem dX0_walkKnot_128 : decode cX0_walkKnot 128 = .ok (.return_, 1) := by decide +kernel
set_option maxRecDepth 20000 in
theorem ggX0_timesToHome_X0_walk : GoodIn wsX0_timesToHome wsX0_walk := goodIn_r _ [9, 2, 4, 10, 11, 12, 13, 14, 15, 16, 8, 17, 18, 19, 20, 21, 22, 23, 24, 25, 26, 27, 28, 33, 34, 35, 36, 37, 38, 39, 40] (by decide +kernel) (by decide +kernel)
set_option maxRecDepth 20000 in
theorem gX0_timesToHome_X0_walk : GoodIn wsX0_timesToHome (wsV RX0 68 RX0 yX0_walk wsX0_walk) := goodIn_app (goodIn_of _ (by decide +kernel)) ggX0_timesToHome_X0_walk
set_option maxRecDepth 20000 in
theorem ggX0_timesToHome_X0_isHome : GoodIn wsX0_timesToHome wsX0_isHome := goodIn_r _ [32, 2, 3, 20, 33, 34, 35, 36, 37, 38, 39, 40] (by decide +kernel) (by decide +kernel)
set_option maxRecDepth 20000 in
theorem gX0_timesToHome_X0_isHome : GoodIn wsX0_timesToHome (wsV RX0 72 RX0 yX0_isHome wsX0_isHome) := goodIn_app (goodIn_of _ (by decide +kernel)) ggX0_timesToHome_X0_isHome
theorem dX0_timesToHome_0 : decode cX0_timesToHome 0 = .ok (.aload_n 0, 1) := by decide +kernel
theorem dX0_timesToHome_1 : decode cX0_timesToHome 1 = .ok (.aload_n 0, 1) := by decide +kernel
theorem dX0_timesToHome_2 : decode cX0_timesToHome 2 = .ok (.getfield 22, 3) := by decide +kernel
theorem dX0_timesToHome_5 : decode cX0_timesToHome 5 = .ok (.invokevirtual 68, 3) := by decide +kernel
theorem dX0_timesToHome_8 : decode cX0_timesToHome 8 = .ok (.iconst 0, 1) := by decide +kernel
theorem dX0_timesToHome_9 : decode cX0_timesToHome 9 = .ok (.istore_n 2, 1) := by decide +kernel
theorem dX0_timesToHome_10 : decode cX0_timesToHome 10 = .ok (.iload_n 2, 1) := by decide +kernel
theorem dX0_timesToHome_11 : decode cX0_timesToHome 11 = .ok (.aload_n 0, 1) := by decide +kernel
theorem dX0_timesToHome_12 : decode cX0_timesToHome 12 = .ok (.getfield 18, 3) := by decide +kernel
theorem dX0_timesToHome_15 : decode cX0_timesToHome 15 = .ok (.if_icmp .ge 21, 3) := by decide +kernel
theorem dX0_timesToHome_18 : decode cX0_timesToHome 18 = .ok (.aload_n 0, 1) := by decide +kernel
theorem dX0_timesToHome_19 : decode cX0_timesToHome 19 = .ok (.getfield 34, 3) := by decide +kernel
theorem dX0_timesToHome_22 : decode cX0_timesToHome 22 = .ok (.iload_n 2, 1) := by decide +kernel
theorem dX0_timesToHome_23 : decode cX0_timesToHome 23 = .ok (.aload_n 0, 1) := by decide +kernel
theorem dX0_timesToHome_24 : decode cX0_timesToHome 24 = .ok (.getfield 25, 3) := by decide +kernel
theorem dX0_timesToHome_27 : decode cX0_timesToHome 27 = .ok (.iload_n 2, 1) := by decide +kernel
theorem dX0_timesToHome_28 : decode cX0_timesToHome 28 = .ok (.iaload, 1) := by decide +kernel
theorem dX0_timesToHome_29 : decode cX0_timesToHome 29 = .ok (.iastore, 1) := by decide +kernel
theorem dX0_timesToHome_30 : decode cX0_timesToHome 30 = .ok (.iinc 2 1, 3) := by decide +kernel
theorem dX0_timesToHome_33 : decode cX0_timesToHome 33 = .ok (.goto (-23), 3) := by decide +kernel
theorem dX0_timesToHome_36 : decode cX0_timesToHome 36 = .ok (.iconst 1, 1) := by decide +kernel
theorem dX0_timesToHome_37 : decode cX0_timesToHome 37 = .ok (.istore_n 2, 1) := by decide +kernel
theorem dX0_timesToHome_38 : decode cX0_timesToHome 38 = .ok (.iload_n 2, 1) := by decide +kernel
theorem dX0_timesToHome_39 : decode cX0_timesToHome 39 = .ok (.bipush 6, 2) := by decide +kernel
theorem dX0_timesToHome_41 : decode cX0_timesToHome 41 = .ok (.if_icmp .ge 52, 3) := by decide +kernel
theorem dX0_timesToHome_44 : decode cX0_timesToHome 44 = .ok (.aload_n 0, 1) := by decide +kernel
theorem dX0_timesToHome_45 : decode cX0_timesToHome 45 = .ok (.iload_n 1, 1) := by decide +kernel
theorem dX0_timesToHome_46 : decode cX0_timesToHome 46 = .ok (.invokevirtual 72, 3) := by decide +kernel
theorem dX0_timesToHome_49 : decode cX0_timesToHome 49 = .ok (.ifCond .eq 5, 3) := by decide +kernel
theorem dX0_timesToHome_52 : decode cX0_timesToHome 52 = .ok (.iload_n 2, 1) := by decide +kernel
theorem dX0_timesToHome_53 : decode cX0_timesToHome 53 = .ok (.ireturn, 1) := by decide +kernel
theorem dX0_timesToHome_54 : decode cX0_timesToHome 54 = .ok (.iconst 0, 1) := by decide +kernel
theorem dX0_timesToHome_55 : decode cX0_timesToHome 55 = .ok (.istore_n 3, 1) := by decide +kernel
theorem dX0_timesToHome_56 : decode cX0_timesToHome 56 = .ok (.iload_n 3, 1) := by decide +kernel
theorem dX0_timesToHome_57 : decode cX0_timesToHome 57 = .ok (.aload_n 0, 1) := by decide +kernel
theorem dX0_timesToHome_58 : decode cX0_timesToHome 58 = .ok (.getfield 18, 3) := by decide +kernel
theorem dX0_timesToHome_61 : decode cX0_timesToHome 61 = .ok (.if_icmp .ge 26, 3) := by decide +kernel
theorem dX0_timesToHome_64 : decode cX0_timesToHome 64 = .ok (.aload_n 0, 1) := by decide +kernel
theorem dX0_timesToHome_65 : decode cX0_timesToHome 65 = .ok (.getfield 34, 3) := by decide +kernel
theorem dX0_timesToHome_68 : decode cX0_timesToHome 68 = .ok (.iload_n 3, 1) := by decide +kernel
theorem dX0_timesToHome_69 : decode cX0_timesToHome 69 = .ok (.aload_n 0, 1) := by decide +kernel
theorem dX0_timesToHome_70 : decode cX0_timesToHome 70 = .ok (.getfield 25, 3) := by decide +kernel
theorem dX0_timesToHome_73 : decode cX0_timesToHome 73 = .ok (.aload_n 0, 1) := by decide +kernel
theorem dX0_timesToHome_74 : decode cX0_timesToHome 74 = .ok (.getfield 34, 3) := by decide +kernel
theorem dX0_timesToHome_77 : decode cX0_timesToHome 77 = .ok (.iload_n 3, 1) := by decide +kernel
theorem dX0_timesToHome_78 : decode cX0_timesToHome 78 = .ok (.iaload, 1) := by decide +kernel
theorem dX0_timesToHome_79 : decode cX0_timesToHome 79 = .ok (.iaload, 1) := by decide +kernel
theorem dX0_timesToHome_80 : decode cX0_timesToHome 80 = .ok (.iastore, 1) := by decide +kernel
theorem dX0_timesToHome_81 : decode cX0_timesToHome 81 = .ok (.iinc 3 1, 3) := by decide +kernel
theorem dX0_timesToHome_84 : decode cX0_timesToHome 84 = .ok (.goto (-28), 3) := by decide +kernel
theorem dX0_timesToHome_87 : decode cX0_timesToHome 87 = .ok (.iinc 2 1, 3) := by decide +kernel
theorem dX0_timesToHome_90 : decode cX0_timesToHome 90 = .ok (.goto (-52), 3) := by decide +kernel
theorem dX0_timesToHome_93 : decode cX0_timesToHome 93 = .ok (.bipush 6, 2) := by decide +kernel
theorem dX0_timesToHome_95 : decode cX0_timesToHome 95 = .ok (.ireturn, 1) := by decide +kernel
theorem dX0_isHome_0 : decode cX0_isHome 0 = .ok (.iconst 0, 1) := by decide +kernel
theorem dX0_isHome_1 : decode cX0_isHome 1 = .ok (.istore_n 2, 1) := by decide +kernel
theorem dX0_isHome_2 : decode cX0_isHome 2 = .ok (.iload_n 2, 1) := by decide +kernel
theorem dX0_isHome_3 : decode cX0_isHome 3 = .ok (.aload_n 0, 1) := by decide +kernel
theorem dX0_isHome_4 : decode cX0_isHome 4 = .ok (.getfield 18, 3) := by decide +kernel
theorem dX0_isHome_7 : decode cX0_isHome 7 = .ok (.if_icmp .ge 62, 3) := by decide +kernel
theorem dX0_isHome_10 : decode cX0_isHome 10 = .ok (.aload_n 0, 1) := by decide +kernel
theorem dX0_isHome_11 : decode cX0_isHome 11 = .ok (.getfield 34, 3) := by decide +kernel
theorem dX0_isHome_14 : decode cX0_isHome 14 = .ok (.iload_n 2, 1) := by decide +kernel
theorem dX0_isHome_15 : decode cX0_isHome 15 = .ok (.iaload, 1) := by decide +kernel
theorem dX0_isHome_16 : decode cX0_isHome 16 = .ok (.istore_n 3, 1) := by decide +kernel
theorem dX0_isHome_17 : decode cX0_isHome 17 = .ok (.iload_n 1, 1) := by decide +kernel
theorem dX0_isHome_18 : decode cX0_isHome 18 = .ok (.ifCond .eq 26, 3) := by decide +kernel
theorem dX0_isHome_21 : decode cX0_isHome 21 = .ok (.aload_n 0, 1) := by decide +kernel
theorem dX0_isHome_22 : decode cX0_isHome 22 = .ok (.getfield 9, 3) := by decide +kernel
theorem dX0_isHome_25 : decode cX0_isHome 25 = .ok (.iload_n 3, 1) := by decide +kernel
theorem dX0_isHome_26 : decode cX0_isHome 26 = .ok (.iaload, 1) := by decide +kernel
theorem dX0_isHome_27 : decode cX0_isHome 27 = .ok (.aload_n 0, 1) := by decide +kernel
theorem dX0_isHome_28 : decode cX0_isHome 28 = .ok (.getfield 9, 3) := by decide +kernel
theorem dX0_isHome_31 : decode cX0_isHome 31 = .ok (.iload_n 2, 1) := by decide +kernel
theorem dX0_isHome_32 : decode cX0_isHome 32 = .ok (.iaload, 1) := by decide +kernel
theorem dX0_isHome_33 : decode cX0_isHome 33 = .ok (.if_icmp .ne 7, 3) := by decide +kernel
theorem dX0_isHome_36 : decode cX0_isHome 36 = .ok (.iconst 1, 1) := by decide +kernel
theorem dX0_isHome_37 : decode cX0_isHome 37 = .ok (.goto 17, 3) := by decide +kernel
theorem dX0_isHome_40 : decode cX0_isHome 40 = .ok (.iconst 0, 1) := by decide +kernel
theorem dX0_isHome_41 : decode cX0_isHome 41 = .ok (.goto 13, 3) := by decide +kernel
theorem dX0_isHome_44 : decode cX0_isHome 44 = .ok (.iload_n 3, 1) := by decide +kernel
theorem dX0_isHome_45 : decode cX0_isHome 45 = .ok (.iload_n 2, 1) := by decide +kernel
theorem dX0_isHome_46 : decode cX0_isHome 46 = .ok (.if_icmp .ne 7, 3) := by decide +kernel
theorem dX0_isHome_49 : decode cX0_isHome 49 = .ok (.iconst 1, 1) := by decide +kernel
theorem dX0_isHome_50 : decode cX0_isHome 50 = .ok (.goto 4, 3) := by decide +kernel
theorem dX0_isHome_53 : decode cX0_isHome 53 = .ok (.iconst 0, 1) := by decide +kernel
theorem dX0_isHome_54 : decode cX0_isHome 54 = .ok (.istore 4, 2) := by decide +kernel
theorem dX0_isHome_56 : decode cX0_isHome 56 = .ok (.iload 4, 2) := by decide +kernel
theorem dX0_isHome_58 : decode cX0_isHome 58 = .ok (.ifCond .ne 5, 3) := by decide +kernel
theorem dX0_isHome_61 : decode cX0_isHome 61 = .ok (.iconst 0, 1) := by decide +kernel
theorem dX0_isHome_62 : decode cX0_isHome 62 = .ok (.ireturn, 1) := by decide +kernel
theorem dX0_isHome_63 : decode cX0_isHome 63 = .ok (.iinc 2 1, 3) := by decide +kernel
theorem dX0_isHome_66 : decode cX0_isHome 66 = .ok (.goto (-64), 3) := by decide +kernel
theorem dX0_isHome_69 : decode cX0_isHome 69 = .ok (.iconst 1, 1) := by decide +kernel
theorem dX0_isHome_70 : decode cX0_isHome 70 = .ok (.ireturn, 1) := by decide +kernel
set_option maxRecDepth 20000 in
theorem ggX1_init_X3_init : GoodIn wsX1_init wsX3_init := goodIn_r _ [15, 16, 2, 3, 17, 18, 25] (by decide +kernel) (by decide +kernel)
set_option maxRecDepth 20000 in
theorem gX1_init_X3_init_n31 : GoodIn wsX1_init (wsX3_init) := ggX1_init_X3_init
theorem dX1_init_0 : decode cX1_init 0 = .ok (.aload_n 0, 1) := by decide +kernel
theorem dX1_init_1 : decode cX1_init 1 = .ok (.invokespecial 3, 3) := by decide +kernel
theorem dX1_init_4 : decode cX1_init 4 = .ok (.aload_n 0, 1) := by decide +kernel
theorem dX1_init_5 : decode cX1_init 5 = .ok (.bipush 40, 2) := by decide +kernel
theorem dX1_init_7 : decode cX1_init 7 = .ok (.newarray .int, 2) := by decide +kernel
theorem dX1_init_9 : decode cX1_init 9 = .ok (.putfield 9, 3) := by decide +kernel
theorem dX1_init_12 : decode cX1_init 12 = .ok (.aload_n 0, 1) := by decide +kernel
theorem dX1_init_13 : decode cX1_init 13 = .ok (.bipush 40, 2) := by decide +kernel
theorem dX1_init_15 : decode cX1_init 15 = .ok (.newarray .int, 2) := by decide +kernel
theorem dX1_init_17 : decode cX1_init 17 = .ok (.putfield 15, 3) := by decide +kernel
theorem dX1_init_20 : decode cX1_init 20 = .ok (.aload_n 0, 1) := by decide +kernel
theorem dX1_init_21 : decode cX1_init 21 = .ok (.bipush 40, 2) := by decide +kernel
theorem dX1_init_23 : decode cX1_init 23 = .ok (.newarray .int, 2) := by decide +kernel
theorem dX1_init_25 : decode cX1_init 25 = .ok (.putfield 18, 3) := by decide +kernel
theorem dX1_init_28 : decode cX1_init 28 = .ok (.aload_n 0, 1) := by decide +kernel
theorem dX1_init_29 : decode cX1_init 29 = .ok (.iconst 0, 1) := by decide +kernel
theorem dX1_init_30 : decode cX1_init 30 = .ok (.putfield 21, 3) := by decide +kernel
theorem dX1_init_33 : decode cX1_init 33 = .ok (.aload_n 0, 1) := by decide +kernel
theorem dX1_init_34 : decode cX1_init 34 = .ok (.bipush 41, 2) := by decide +kernel
theorem dX1_init_36 : decode cX1_init 36 = .ok (.anewarray 25, 3) := by decide +kernel
theorem dX1_init_39 : decode cX1_init 39 = .ok (.putfield 27, 3) := by decide +kernel
theorem dX1_init_42 : decode cX1_init 42 = .ok (.aload_n 0, 1) := by decide +kernel
theorem dX1_init_43 : decode cX1_init 43 = .ok (.new 25, 3) := by decide +kernel
theorem dX1_init_46 : decode cX1_init 46 = .ok (.dup, 1) := by decide +kernel
theorem dX1_init_47 : decode cX1_init 47 = .ok (.invokespecial 31, 3) := by decide +kernel
theorem dX1_init_50 : decode cX1_init 50 = .ok (.putfield 32, 3) := by decide +kernel
theorem dX1_init_53 : decode cX1_init 53 = .ok (.iconst 0, 1) := by decide +kernel
theorem dX1_init_54 : decode cX1_init 54 = .ok (.istore_n 1, 1) := by decide +kernel
theorem dX1_init_55 : decode cX1_init 55 = .ok (.iload_n 1, 1) := by decide +kernel
theorem dX1_init_56 : decode cX1_init 56 = .ok (.bipush 40, 2) := by decide +kernel
theorem dX1_init_58 : decode cX1_init 58 = .ok (.if_icmp .gt 22, 3) := by decide +kernel
theorem dX1_init_61 : decode cX1_init 61 = .ok (.aload_n 0, 1) := by decide +kernel
theorem dX1_init_62 : decode cX1_init 62 = .ok (.getfield 27, 3) := by decide +kernel
theorem dX1_init_65 : decode cX1_init 65 = .ok (.iload_n 1, 1) := by decide +kernel
theorem dX1_init_66 : decode cX1_init 66 = .ok (.new 25, 3) := by decide +kernel
theorem dX1_init_69 : decode cX1_init 69 = .ok (.dup, 1) := by decide +kernel
theorem dX1_init_70 : decode cX1_init 70 = .ok (.invokespecial 31, 3) := by decide +kernel
theorem dX1_init_73 : decode cX1_init 73 = .ok (.aastore, 1) := by decide +kernel
theorem dX1_init_74 : decode cX1_init 74 = .ok (.iinc 1 1, 3) := by decide +kernel
theorem dX1_init_77 : decode cX1_init 77 = .ok (.goto (-22), 3) := by decide +kernel
theorem dX1_init_80 : decode cX1_init 80 = .ok (.return_, 1) := by decide +kernel
set_option maxRecDepth 20000 in
theorem ggX1_workOut_X1_listKnots : GoodIn wsX1_workOut wsX1_listKnots := goodIn_r _ [7, 8, 9, 10, 11, 12, 13, 14, 15, 16, 17, 18, 108, 109, 110, 111, 112, 113, 114, 115, 116, 117, 118, 119, 120, 121, 122, 123] (by decide +kernel) (by decide +kernel)
set_option maxRecDepth 20000 in
theorem gX1_workOut_X1_listKnots : GoodIn wsX1_workOut (wsV RX1 36 RX1 yX1_listKnots wsX1_listKnots) := goodIn_app (goodIn_of _ (by decide +kernel)) ggX1_workOut_X1_listKnots
set_option maxRecDepth 20000 in
theorem ggX1_workOut_X1_workBackward : GoodIn wsX1_workOut wsX1_workBackward := goodIn_r _ [22, 2, 8, 10, 11, 23, 24, 25, 26, 27, 28, 29, 30, 31, 32, 33, 34, 35, 36, 37, 38, 39, 40, 41, 42, 43, 44, 45, 46, 47, 48, 49, 13, 50, 51, 52, 53, 54, 55, 56, 57, 58, 59, 108, 109, 110, 111, 112, 113, 124] (by decide +kernel) (by decide +kernel)
set_option maxRecDepth 20000 in
theorem gX1_workOut_X1_workBackward : GoodIn wsX1_workOut (wsV RX1 40 RX1 yX1_workBackward wsX1_workBackward) := goodIn_app (goodIn_of _ (by decide +kernel)) ggX1_workOut_X1_workBackward
set_option maxRecDepth 20000 in
theorem ggX1_workOut_X3_fill : GoodIn wsX1_workOut wsX3_fill := goodIn_r _ [27, 28, 29, 124] (by decide +kernel) (by decide +kernel)
set_option maxRecDepth 20000 in
theorem gX1_workOut_X3_fill : GoodIn wsX1_workOut (wsV RX1 43 RX3 yX3_fill wsX3_fill) := goodIn_app (goodIn_of _ (by decide +kernel)) ggX1_workOut_X3_fill
set_option maxRecDepth 20000 in
theorem ggX1_workOut_X3_keep : GoodIn wsX1_workOut wsX3_keep := goodIn_r _ [63, 28, 55, 56, 26, 57, 40, 58, 59, 29, 124] (by decide +kernel) (by decide +kernel)
set_option maxRecDepth 20000 in
theorem gX1_workOut_X3_keep : GoodIn wsX1_workOut (wsV RX1 51 RX3 yX3_keep wsX3_keep) := goodIn_app (goodIn_of _ (by decide +kernel)) ggX1_workOut_X3_keep
set_option maxRecDepth 20000 in
theorem ggX1_workOut_X3_countShared : GoodIn wsX1_workOut wsX3_countShared := goodIn_r _ [67, 28, 68, 69, 70, 71, 72, 73, 74, 124] (by decide +kernel) (by decide +kernel)
set_option maxRecDepth 20000 in
theorem gX1_workOut_X3_countShared : GoodIn wsX1_workOut (wsV RX1 58 RX3 yX3_countShared wsX3_countShared) := goodIn_app (goodIn_of _ (by decide +kernel)) ggX1_workOut_X3_countShared
set_option maxRecDepth 20000 in
theorem ggX1_workOut_X3_firstShared : GoodIn wsX1_workOut wsX3_firstShared := goodIn_r _ [78, 28, 124] (by decide +kernel) (by decide +kernel)
set_option maxRecDepth 20000 in
theorem gX1_workOut_X3_firstShared : GoodIn wsX1_workOut (wsV RX1 65 RX3 yX3_firstShared wsX3_firstShared) := goodIn_app (goodIn_of _ (by decide +kernel)) ggX1_workOut_X3_firstShared
set_option maxRecDepth 20000 in
theorem ggX1_workOut_X1_chooseKinds : GoodIn wsX1_workOut wsX1_chooseKinds := goodIn_r _ [82, 8, 9, 83, 84, 85, 6, 86, 10, 11, 2, 87, 13, 88, 89, 90, 91, 92, 93, 94, 95, 96, 97, 49, 50, 98, 99, 100, 26, 101, 28, 102, 103, 114, 115, 116, 117, 118, 119, 120, 121, 122, 123, 108, 109, 110, 111, 112, 113, 124] (by decide +kernel) (by decide +kernel)
set_option maxRecDepth 20000 in
theorem gX1_workOut_X1_chooseKinds : GoodIn wsX1_workOut (wsV RX1 71 RX1 yX1_chooseKinds wsX1_chooseKinds) := goodIn_app (goodIn_of _ (by decide +kernel)) ggX1_workOut_X1_chooseKinds
set_option maxRecDepth 20000 in
theorem ggX1_workOut_X1_findSuspects : GoodIn wsX1_workOut wsX1_findSuspects := goodIn_r _ [107, 8, 1, 10, 11, 2, 9, 30, 31, 32, 26, 33, 28, 34, 35, 36, 37, 38, 39, 40, 41, 42, 43, 44, 45, 46, 47, 48, 49, 13, 50, 75, 76, 77, 78, 51, 52, 53, 54, 55, 56, 57, 58, 59, 29, 108, 109, 110, 111, 112, 113, 114, 115, 116, 117, 118, 119, 120, 121, 122, 123, 124] (by decide +kernel) (by decide +kernel)
set_option maxRecDepth 20000 in
theorem gX1_workOut_X1_findSuspects : GoodIn wsX1_workOut (wsV RX1 74 RX1 yX1_findSuspects wsX1_findSuspects) := goodIn_app (goodIn_of _ (by decide +kernel)) ggX1_workOut_X1_findSuspects
theorem dX1_workOut_0 : decode cX1_workOut 0 = .ok (.aload_n 0, 1) := by decide +kernel
theorem dX1_workOut_1 : decode cX1_workOut 1 = .ok (.aload_n 1, 1) := by decide +kernel
theorem dX1_workOut_2 : decode cX1_workOut 2 = .ok (.invokevirtual 36, 3) := by decide +kernel
theorem dX1_workOut_5 : decode cX1_workOut 5 = .ok (.aload_n 0, 1) := by decide +kernel
theorem dX1_workOut_6 : decode cX1_workOut 6 = .ok (.invokevirtual 40, 3) := by decide +kernel
theorem dX1_workOut_9 : decode cX1_workOut 9 = .ok (.aload_n 0, 1) := by decide +kernel
theorem dX1_workOut_10 : decode cX1_workOut 10 = .ok (.getfield 32, 3) := by decide +kernel
theorem dX1_workOut_13 : decode cX1_workOut 13 = .ok (.invokevirtual 43, 3) := by decide +kernel
theorem dX1_workOut_16 : decode cX1_workOut 16 = .ok (.iconst 0, 1) := by decide +kernel
theorem dX1_workOut_17 : decode cX1_workOut 17 = .ok (.istore_n 2, 1) := by decide +kernel
theorem dX1_workOut_18 : decode cX1_workOut 18 = .ok (.iload_n 2, 1) := by decide +kernel
theorem dX1_workOut_19 : decode cX1_workOut 19 = .ok (.bipush 6, 2) := by decide +kernel
theorem dX1_workOut_21 : decode cX1_workOut 21 = .ok (.if_icmp .ge 33, 3) := by decide +kernel
theorem dX1_workOut_24 : decode cX1_workOut 24 = .ok (.aload_n 1, 1) := by decide +kernel
theorem dX1_workOut_25 : decode cX1_workOut 25 = .ok (.getfield 46, 3) := by decide +kernel
theorem dX1_workOut_28 : decode cX1_workOut 28 = .ok (.iload_n 2, 1) := by decide +kernel
theorem dX1_workOut_29 : decode cX1_workOut 29 = .ok (.iaload, 1) := by decide +kernel
theorem dX1_workOut_30 : decode cX1_workOut 30 = .ok (.iconst 4, 1) := by decide +kernel
theorem dX1_workOut_31 : decode cX1_workOut 31 = .ok (.if_icmp .eq 17, 3) := by decide +kernel
theorem dX1_workOut_34 : decode cX1_workOut 34 = .ok (.aload_n 0, 1) := by decide +kernel
theorem dX1_workOut_35 : decode cX1_workOut 35 = .ok (.getfield 32, 3) := by decide +kernel
theorem dX1_workOut_38 : decode cX1_workOut 38 = .ok (.iload_n 2, 1) := by decide +kernel
theorem dX1_workOut_39 : decode cX1_workOut 39 = .ok (.aload_n 1, 1) := by decide +kernel
theorem dX1_workOut_40 : decode cX1_workOut 40 = .ok (.getfield 46, 3) := by decide +kernel
theorem dX1_workOut_43 : decode cX1_workOut 43 = .ok (.iload_n 2, 1) := by decide +kernel
theorem dX1_workOut_44 : decode cX1_workOut 44 = .ok (.iaload, 1) := by decide +kernel
theorem dX1_workOut_45 : decode cX1_workOut 45 = .ok (.invokevirtual 51, 3) := by decide +kernel
theorem dX1_workOut_48 : decode cX1_workOut 48 = .ok (.iinc 2 1, 3) := by decide +kernel
theorem dX1_workOut_51 : decode cX1_workOut 51 = .ok (.goto (-33), 3) := by decide +kernel
theorem dX1_workOut_54 : decode cX1_workOut 54 = .ok (.aload_n 1, 1) := by decide +kernel
theorem dX1_workOut_55 : decode cX1_workOut 55 = .ok (.iconst 0, 1) := by decide +kernel
theorem dX1_workOut_56 : decode cX1_workOut 56 = .ok (.putfield 55, 3) := by decide +kernel
theorem dX1_workOut_59 : decode cX1_workOut 59 = .ok (.aload_n 1, 1) := by decide +kernel
theorem dX1_workOut_60 : decode cX1_workOut 60 = .ok (.aload_n 0, 1) := by decide +kernel
theorem dX1_workOut_61 : decode cX1_workOut 61 = .ok (.getfield 32, 3) := by decide +kernel
theorem dX1_workOut_64 : decode cX1_workOut 64 = .ok (.aload_n 0, 1) := by decide +kernel
theorem dX1_workOut_65 : decode cX1_workOut 65 = .ok (.getfield 27, 3) := by decide +kernel
theorem dX1_workOut_68 : decode cX1_workOut 68 = .ok (.iconst 0, 1) := by decide +kernel
theorem dX1_workOut_69 : decode cX1_workOut 69 = .ok (.aaload, 1) := by decide +kernel
theorem dX1_workOut_70 : decode cX1_workOut 70 = .ok (.invokevirtual 58, 3) := by decide +kernel
theorem dX1_workOut_73 : decode cX1_workOut 73 = .ok (.putfield 62, 3) := by decide +kernel
theorem dX1_workOut_76 : decode cX1_workOut 76 = .ok (.aload_n 1, 1) := by decide +kernel
theorem dX1_workOut_77 : decode cX1_workOut 77 = .ok (.aload_n 0, 1) := by decide +kernel
theorem dX1_workOut_78 : decode cX1_workOut 78 = .ok (.getfield 32, 3) := by decide +kernel
theorem dX1_workOut_81 : decode cX1_workOut 81 = .ok (.aload_n 0, 1) := by decide +kernel
theorem dX1_workOut_82 : decode cX1_workOut 82 = .ok (.getfield 27, 3) := by decide +kernel
theorem dX1_workOut_85 : decode cX1_workOut 85 = .ok (.iconst 0, 1) := by decide +kernel
theorem dX1_workOut_86 : decode cX1_workOut 86 = .ok (.aaload, 1) := by decide +kernel
theorem dX1_workOut_87 : decode cX1_workOut 87 = .ok (.invokevirtual 65, 3) := by decide +kernel
theorem dX1_workOut_90 : decode cX1_workOut 90 = .ok (.putfield 68, 3) := by decide +kernel
theorem dX1_workOut_93 : decode cX1_workOut 93 = .ok (.aload_n 1, 1) := by decide +kernel
theorem dX1_workOut_94 : decode cX1_workOut 94 = .ok (.getfield 62, 3) := by decide +kernel
theorem dX1_workOut_97 : decode cX1_workOut 97 = .ok (.ifCond .le 11, 3) := by decide +kernel
theorem dX1_workOut_100 : decode cX1_workOut 100 = .ok (.aload_n 0, 1) := by decide +kernel
theorem dX1_workOut_101 : decode cX1_workOut 101 = .ok (.aload_n 1, 1) := by decide +kernel
theorem dX1_workOut_102 : decode cX1_workOut 102 = .ok (.invokevirtual 71, 3) := by decide +kernel
theorem dX1_workOut_105 : decode cX1_workOut 105 = .ok (.goto 8, 3) := by decide +kernel
theorem dX1_workOut_108 : decode cX1_workOut 108 = .ok (.aload_n 0, 1) := by decide +kernel
theorem dX1_workOut_109 : decode cX1_workOut 109 = .ok (.aload_n 1, 1) := by decide +kernel
theorem dX1_workOut_110 : decode cX1_workOut 110 = .ok (.invokevirtual 74, 3) := by decide +kernel
theorem dX1_workOut_113 : decode cX1_workOut 113 = .ok (.aload_n 1, 1) := by decide +kernel
theorem dX1_workOut_114 : decode cX1_workOut 114 = .ok (.iconst 1, 1) := by decide +kernel
theorem dX1_workOut_115 : decode cX1_workOut 115 = .ok (.putfield 77, 3) := by decide +kernel
theorem dX1_workOut_118 : decode cX1_workOut 118 = .ok (.return_, 1) := by decide +kernel
set_option maxRecDepth 20000 in
theorem ggX1_listKnots_X4_knotsIn : GoodIn wsX1_listKnots wsX4_knotsIn := goodIn_r _ [7] (by decide +kernel) (by decide +kernel)
set_option maxRecDepth 20000 in
theorem gX1_listKnots_X4_knotsIn_n87 : GoodIn wsX1_listKnots (wsX4_knotsIn) := ggX1_listKnots_X4_knotsIn
set_option maxRecDepth 20000 in
theorem ggX1_listKnots_X4_leftPlaceOf : GoodIn wsX1_listKnots wsX4_leftPlaceOf := goodIn_r _ [9] (by decide +kernel) (by decide +kernel)
set_option maxRecDepth 20000 in
theorem gX1_listKnots_X4_leftPlaceOf_n91 : GoodIn wsX1_listKnots (wsX4_leftPlaceOf) := ggX1_listKnots_X4_leftPlaceOf
set_option maxRecDepth 20000 in
theorem ggX1_listKnots_X4_spotOf : GoodIn wsX1_listKnots wsX4_spotOf := goodIn_r _ [11] (by decide +kernel) (by decide +kernel)
set_option maxRecDepth 20000 in
theorem gX1_listKnots_X4_spotOf_n97 : GoodIn wsX1_listKnots (wsX4_spotOf) := ggX1_listKnots_X4_spotOf
theorem dX1_listKnots_0 : decode cX1_listKnots 0 = .ok (.aload_n 0, 1) := by decide +kernel
theorem dX1_listKnots_1 : decode cX1_listKnots 1 = .ok (.iconst 0, 1) := by decide +kernel
theorem dX1_listKnots_2 : decode cX1_listKnots 2 = .ok (.putfield 21, 3) := by decide +kernel
theorem dX1_listKnots_5 : decode cX1_listKnots 5 = .ok (.iconst 0, 1) := by decide +kernel
theorem dX1_listKnots_6 : decode cX1_listKnots 6 = .ok (.istore_n 2, 1) := by decide +kernel
theorem dX1_listKnots_7 : decode cX1_listKnots 7 = .ok (.iload_n 2, 1) := by decide +kernel
theorem dX1_listKnots_8 : decode cX1_listKnots 8 = .ok (.aload_n 1, 1) := by decide +kernel
theorem dX1_listKnots_9 : decode cX1_listKnots 9 = .ok (.getfield 81, 3) := by decide +kernel
theorem dX1_listKnots_12 : decode cX1_listKnots 12 = .ok (.if_icmp .ge 94, 3) := by decide +kernel
theorem dX1_listKnots_15 : decode cX1_listKnots 15 = .ok (.aload_n 1, 1) := by decide +kernel
theorem dX1_listKnots_16 : decode cX1_listKnots 16 = .ok (.getfield 84, 3) := by decide +kernel
theorem dX1_listKnots_19 : decode cX1_listKnots 19 = .ok (.iload_n 2, 1) := by decide +kernel
theorem dX1_listKnots_20 : decode cX1_listKnots 20 = .ok (.invokestatic 87, 3) := by decide +kernel
theorem dX1_listKnots_23 : decode cX1_listKnots 23 = .ok (.istore_n 3, 1) := by decide +kernel
theorem dX1_listKnots_24 : decode cX1_listKnots 24 = .ok (.iconst 0, 1) := by decide +kernel
theorem dX1_listKnots_25 : decode cX1_listKnots 25 = .ok (.istore 4, 2) := by decide +kernel
theorem dX1_listKnots_27 : decode cX1_listKnots 27 = .ok (.iload 4, 2) := by decide +kernel
theorem dX1_listKnots_29 : decode cX1_listKnots 29 = .ok (.iload_n 3, 1) := by decide +kernel
theorem dX1_listKnots_30 : decode cX1_listKnots 30 = .ok (.if_icmp .ge 70, 3) := by decide +kernel
theorem dX1_listKnots_33 : decode cX1_listKnots 33 = .ok (.aload_n 0, 1) := by decide +kernel
theorem dX1_listKnots_34 : decode cX1_listKnots 34 = .ok (.getfield 9, 3) := by decide +kernel
theorem dX1_listKnots_37 : decode cX1_listKnots 37 = .ok (.aload_n 0, 1) := by decide +kernel
theorem dX1_listKnots_38 : decode cX1_listKnots 38 = .ok (.getfield 21, 3) := by decide +kernel
theorem dX1_listKnots_41 : decode cX1_listKnots 41 = .ok (.bipush 8, 2) := by decide +kernel
theorem dX1_listKnots_43 : decode cX1_listKnots 43 = .ok (.iload_n 2, 1) := by decide +kernel
theorem dX1_listKnots_44 : decode cX1_listKnots 44 = .ok (.imul, 1) := by decide +kernel
theorem dX1_listKnots_45 : decode cX1_listKnots 45 = .ok (.iload 4, 2) := by decide +kernel
theorem dX1_listKnots_47 : decode cX1_listKnots 47 = .ok (.iadd, 1) := by decide +kernel
theorem dX1_listKnots_48 : decode cX1_listKnots 48 = .ok (.iastore, 1) := by decide +kernel
theorem dX1_listKnots_49 : decode cX1_listKnots 49 = .ok (.aload_n 0, 1) := by decide +kernel
theorem dX1_listKnots_50 : decode cX1_listKnots 50 = .ok (.getfield 15, 3) := by decide +kernel
theorem dX1_listKnots_53 : decode cX1_listKnots 53 = .ok (.aload_n 0, 1) := by decide +kernel
theorem dX1_listKnots_54 : decode cX1_listKnots 54 = .ok (.getfield 21, 3) := by decide +kernel
theorem dX1_listKnots_57 : decode cX1_listKnots 57 = .ok (.iload_n 2, 1) := by decide +kernel
theorem dX1_listKnots_58 : decode cX1_listKnots 58 = .ok (.iload 4, 2) := by decide +kernel
theorem dX1_listKnots_60 : decode cX1_listKnots 60 = .ok (.invokestatic 91, 3) := by decide +kernel
theorem dX1_listKnots_63 : decode cX1_listKnots 63 = .ok (.iastore, 1) := by decide +kernel
theorem dX1_listKnots_64 : decode cX1_listKnots 64 = .ok (.aload_n 0, 1) := by decide +kernel
theorem dX1_listKnots_65 : decode cX1_listKnots 65 = .ok (.getfield 18, 3) := by decide +kernel
theorem dX1_listKnots_68 : decode cX1_listKnots 68 = .ok (.aload_n 0, 1) := by decide +kernel
theorem dX1_listKnots_69 : decode cX1_listKnots 69 = .ok (.getfield 21, 3) := by decide +kernel
theorem dX1_listKnots_72 : decode cX1_listKnots 72 = .ok (.aload_n 1, 1) := by decide +kernel
theorem dX1_listKnots_73 : decode cX1_listKnots 73 = .ok (.getfield 94, 3) := by decide +kernel
theorem dX1_listKnots_76 : decode cX1_listKnots 76 = .ok (.iload_n 2, 1) := by decide +kernel
theorem dX1_listKnots_77 : decode cX1_listKnots 77 = .ok (.iload 4, 2) := by decide +kernel
theorem dX1_listKnots_79 : decode cX1_listKnots 79 = .ok (.invokestatic 97, 3) := by decide +kernel
theorem dX1_listKnots_82 : decode cX1_listKnots 82 = .ok (.iaload, 1) := by decide +kernel
theorem dX1_listKnots_83 : decode cX1_listKnots 83 = .ok (.iastore, 1) := by decide +kernel
theorem dX1_listKnots_84 : decode cX1_listKnots 84 = .ok (.aload_n 0, 1) := by decide +kernel
theorem dX1_listKnots_85 : decode cX1_listKnots 85 = .ok (.dup, 1) := by decide +kernel
theorem dX1_listKnots_86 : decode cX1_listKnots 86 = .ok (.getfield 21, 3) := by decide +kernel
theorem dX1_listKnots_89 : decode cX1_listKnots 89 = .ok (.iconst 1, 1) := by decide +kernel
theorem dX1_listKnots_90 : decode cX1_listKnots 90 = .ok (.iadd, 1) := by decide +kernel
theorem dX1_listKnots_91 : decode cX1_listKnots 91 = .ok (.putfield 21, 3) := by decide +kernel
theorem dX1_listKnots_94 : decode cX1_listKnots 94 = .ok (.iinc 4 1, 3) := by decide +kernel
theorem dX1_listKnots_97 : decode cX1_listKnots 97 = .ok (.goto (-70), 3) := by decide +kernel
theorem dX1_listKnots_100 : decode cX1_listKnots 100 = .ok (.iinc 2 1, 3) := by decide +kernel
theorem dX1_listKnots_103 : decode cX1_listKnots 103 = .ok (.goto (-96), 3) := by decide +kernel
theorem dX1_listKnots_106 : decode cX1_listKnots 106 = .ok (.return_, 1) := by decide +kernel
set_option maxRecDepth 20000 in
theorem ggX1_workBackward_X3_fill : GoodIn wsX1_workBackward wsX3_fill := goodIn_r _ [9, 10, 11, 49] (by decide +kernel) (by decide +kernel)
set_option maxRecDepth 20000 in
theorem gX1_workBackward_X3_fill : GoodIn wsX1_workBackward (wsV RX1 43 RX3 yX3_fill wsX3_fill) := goodIn_app (goodIn_of _ (by decide +kernel)) ggX1_workBackward_X3_fill
set_option maxRecDepth 20000 in
theorem ggX1_workBackward_X3_spread : GoodIn wsX1_workBackward wsX3_spread := goodIn_r _ [15, 10, 16, 17, 18, 19, 20, 8, 21, 22, 23, 24, 25, 26, 27, 28, 29, 30, 31, 32, 33, 49] (by decide +kernel) (by decide +kernel)
set_option maxRecDepth 20000 in
theorem gX1_workBackward_X3_spread : GoodIn wsX1_workBackward (wsV RX1 100 RX3 yX3_spread wsX3_spread) := goodIn_app (goodIn_of _ (by decide +kernel)) ggX1_workBackward_X3_spread
set_option maxRecDepth 20000 in
theorem ggX1_workBackward_X3_keepEither : GoodIn wsX1_workBackward wsX3_keepEither := goodIn_r _ [37, 10, 38, 39, 8, 40, 22, 41, 42, 11, 49] (by decide +kernel) (by decide +kernel)
set_option maxRecDepth 20000 in
theorem gX1_workBackward_X3_keepEither : GoodIn wsX1_workBackward (wsV RX1 104 RX3 yX3_keepEither wsX3_keepEither) := goodIn_app (goodIn_of _ (by decide +kernel)) ggX1_workBackward_X3_keepEither
theorem dX1_workBackward_0 : decode cX1_workBackward 0 = .ok (.aload_n 0, 1) := by decide +kernel
theorem dX1_workBackward_1 : decode cX1_workBackward 1 = .ok (.getfield 27, 3) := by decide +kernel
theorem dX1_workBackward_4 : decode cX1_workBackward 4 = .ok (.aload_n 0, 1) := by decide +kernel
theorem dX1_workBackward_5 : decode cX1_workBackward 5 = .ok (.getfield 21, 3) := by decide +kernel
theorem dX1_workBackward_8 : decode cX1_workBackward 8 = .ok (.aaload, 1) := by decide +kernel
theorem dX1_workBackward_9 : decode cX1_workBackward 9 = .ok (.invokevirtual 43, 3) := by decide +kernel
theorem dX1_workBackward_12 : decode cX1_workBackward 12 = .ok (.aload_n 0, 1) := by decide +kernel
theorem dX1_workBackward_13 : decode cX1_workBackward 13 = .ok (.getfield 21, 3) := by decide +kernel
theorem dX1_workBackward_16 : decode cX1_workBackward 16 = .ok (.iconst 1, 1) := by decide +kernel
theorem dX1_workBackward_17 : decode cX1_workBackward 17 = .ok (.isub, 1) := by decide +kernel
theorem dX1_workBackward_18 : decode cX1_workBackward 18 = .ok (.istore_n 1, 1) := by decide +kernel
theorem dX1_workBackward_19 : decode cX1_workBackward 19 = .ok (.iload_n 1, 1) := by decide +kernel
theorem dX1_workBackward_20 : decode cX1_workBackward 20 = .ok (.ifCond .lt 63, 3) := by decide +kernel
theorem dX1_workBackward_23 : decode cX1_workBackward 23 = .ok (.aload_n 0, 1) := by decide +kernel
theorem dX1_workBackward_24 : decode cX1_workBackward 24 = .ok (.getfield 27, 3) := by decide +kernel
theorem dX1_workBackward_27 : decode cX1_workBackward 27 = .ok (.iload_n 1, 1) := by decide +kernel
theorem dX1_workBackward_28 : decode cX1_workBackward 28 = .ok (.aaload, 1) := by decide +kernel
theorem dX1_workBackward_29 : decode cX1_workBackward 29 = .ok (.aload_n 0, 1) := by decide +kernel
theorem dX1_workBackward_30 : decode cX1_workBackward 30 = .ok (.getfield 27, 3) := by decide +kernel
theorem dX1_workBackward_33 : decode cX1_workBackward 33 = .ok (.iload_n 1, 1) := by decide +kernel
theorem dX1_workBackward_34 : decode cX1_workBackward 34 = .ok (.iconst 1, 1) := by decide +kernel
theorem dX1_workBackward_35 : decode cX1_workBackward 35 = .ok (.iadd, 1) := by decide +kernel
theorem dX1_workBackward_36 : decode cX1_workBackward 36 = .ok (.aaload, 1) := by decide +kernel
theorem dX1_workBackward_37 : decode cX1_workBackward 37 = .ok (.aload_n 0, 1) := by decide +kernel
theorem dX1_workBackward_38 : decode cX1_workBackward 38 = .ok (.getfield 15, 3) := by decide +kernel
theorem dX1_workBackward_41 : decode cX1_workBackward 41 = .ok (.iload_n 1, 1) := by decide +kernel
theorem dX1_workBackward_42 : decode cX1_workBackward 42 = .ok (.iaload, 1) := by decide +kernel
theorem dX1_workBackward_43 : decode cX1_workBackward 43 = .ok (.invokevirtual 100, 3) := by decide +kernel
theorem dX1_workBackward_46 : decode cX1_workBackward 46 = .ok (.aload_n 0, 1) := by decide +kernel
theorem dX1_workBackward_47 : decode cX1_workBackward 47 = .ok (.getfield 18, 3) := by decide +kernel
theorem dX1_workBackward_50 : decode cX1_workBackward 50 = .ok (.iload_n 1, 1) := by decide +kernel
theorem dX1_workBackward_51 : decode cX1_workBackward 51 = .ok (.iaload, 1) := by decide +kernel
theorem dX1_workBackward_52 : decode cX1_workBackward 52 = .ok (.iconst 4, 1) := by decide +kernel
theorem dX1_workBackward_53 : decode cX1_workBackward 53 = .ok (.if_icmp .eq 24, 3) := by decide +kernel
theorem dX1_workBackward_56 : decode cX1_workBackward 56 = .ok (.aload_n 0, 1) := by decide +kernel
theorem dX1_workBackward_57 : decode cX1_workBackward 57 = .ok (.getfield 27, 3) := by decide +kernel
theorem dX1_workBackward_60 : decode cX1_workBackward 60 = .ok (.iload_n 1, 1) := by decide +kernel
theorem dX1_workBackward_61 : decode cX1_workBackward 61 = .ok (.aaload, 1) := by decide +kernel
theorem dX1_workBackward_62 : decode cX1_workBackward 62 = .ok (.aload_n 0, 1) := by decide +kernel
theorem dX1_workBackward_63 : decode cX1_workBackward 63 = .ok (.getfield 15, 3) := by decide +kernel
theorem dX1_workBackward_66 : decode cX1_workBackward 66 = .ok (.iload_n 1, 1) := by decide +kernel
theorem dX1_workBackward_67 : decode cX1_workBackward 67 = .ok (.iaload, 1) := by decide +kernel
theorem dX1_workBackward_68 : decode cX1_workBackward 68 = .ok (.aload_n 0, 1) := by decide +kernel
theorem dX1_workBackward_69 : decode cX1_workBackward 69 = .ok (.getfield 18, 3) := by decide +kernel
theorem dX1_workBackward_72 : decode cX1_workBackward 72 = .ok (.iload_n 1, 1) := by decide +kernel
theorem dX1_workBackward_73 : decode cX1_workBackward 73 = .ok (.iaload, 1) := by decide +kernel
theorem dX1_workBackward_74 : decode cX1_workBackward 74 = .ok (.invokevirtual 104, 3) := by decide +kernel
theorem dX1_workBackward_77 : decode cX1_workBackward 77 = .ok (.iinc 1 (-1), 3) := by decide +kernel
theorem dX1_workBackward_80 : decode cX1_workBackward 80 = .ok (.goto (-61), 3) := by decide +kernel
theorem dX1_workBackward_83 : decode cX1_workBackward 83 = .ok (.return_, 1) := by decide +kernel
set_option maxRecDepth 20000 in
theorem ggX1_chooseKinds_X1_leastKind : GoodIn wsX1_chooseKinds wsX1_leastKind := goodIn_r _ [7, 8, 9, 10, 11, 12, 13, 14, 15, 16, 17, 18, 19, 20, 21, 6, 22, 23, 24, 25, 26, 27, 28, 29, 30, 43, 44, 45, 46, 47, 48, 49] (by decide +kernel) (by decide +kernel)
set_option maxRecDepth 20000 in
theorem gX1_chooseKinds_X1_leastKind : GoodIn wsX1_chooseKinds (wsV RX1 107 RX1 yX1_leastKind wsX1_leastKind) := goodIn_app (goodIn_of _ (by decide +kernel)) ggX1_chooseKinds_X1_leastKind
set_option maxRecDepth 20000 in
theorem ggX1_chooseKinds_X4_withKind : GoodIn wsX1_chooseKinds wsX4_withKind := goodIn_r _ [32] (by decide +kernel) (by decide +kernel)
set_option maxRecDepth 20000 in
theorem gX1_chooseKinds_X4_withKind_n113 : GoodIn wsX1_chooseKinds (wsX4_withKind) := ggX1_chooseKinds_X4_withKind
set_option maxRecDepth 20000 in
theorem ggX1_chooseKinds_X1_standingBehind : GoodIn wsX1_chooseKinds wsX1_standingBehind := goodIn_r _ [22, 8, 17, 12, 18, 23, 24, 43, 44, 45, 46, 47, 48] (by decide +kernel) (by decide +kernel)
set_option maxRecDepth 20000 in
theorem gX1_chooseKinds_X1_standingBehind : GoodIn wsX1_chooseKinds (wsV RX1 117 RX1 yX1_standingBehind wsX1_standingBehind) := goodIn_app (goodIn_of _ (by decide +kernel)) ggX1_chooseKinds_X1_standingBehind
theorem dX1_chooseKinds_0 : decode cX1_chooseKinds 0 = .ok (.aload_n 1, 1) := by decide +kernel
theorem dX1_chooseKinds_1 : decode cX1_chooseKinds 1 = .ok (.getfield 68, 3) := by decide +kernel
theorem dX1_chooseKinds_4 : decode cX1_chooseKinds 4 = .ok (.istore_n 2, 1) := by decide +kernel
theorem dX1_chooseKinds_5 : decode cX1_chooseKinds 5 = .ok (.iconst 0, 1) := by decide +kernel
theorem dX1_chooseKinds_6 : decode cX1_chooseKinds 6 = .ok (.istore_n 3, 1) := by decide +kernel
theorem dX1_chooseKinds_7 : decode cX1_chooseKinds 7 = .ok (.iload_n 3, 1) := by decide +kernel
theorem dX1_chooseKinds_8 : decode cX1_chooseKinds 8 = .ok (.aload_n 0, 1) := by decide +kernel
theorem dX1_chooseKinds_9 : decode cX1_chooseKinds 9 = .ok (.getfield 21, 3) := by decide +kernel
theorem dX1_chooseKinds_12 : decode cX1_chooseKinds 12 = .ok (.if_icmp .ge 64, 3) := by decide +kernel
theorem dX1_chooseKinds_15 : decode cX1_chooseKinds 15 = .ok (.aload_n 0, 1) := by decide +kernel
theorem dX1_chooseKinds_16 : decode cX1_chooseKinds 16 = .ok (.iload_n 3, 1) := by decide +kernel
theorem dX1_chooseKinds_17 : decode cX1_chooseKinds 17 = .ok (.iload_n 2, 1) := by decide +kernel
theorem dX1_chooseKinds_18 : decode cX1_chooseKinds 18 = .ok (.invokevirtual 107, 3) := by decide +kernel
theorem dX1_chooseKinds_21 : decode cX1_chooseKinds 21 = .ok (.istore 4, 2) := by decide +kernel
theorem dX1_chooseKinds_23 : decode cX1_chooseKinds 23 = .ok (.aload_n 0, 1) := by decide +kernel
theorem dX1_chooseKinds_24 : decode cX1_chooseKinds 24 = .ok (.getfield 9, 3) := by decide +kernel
theorem dX1_chooseKinds_27 : decode cX1_chooseKinds 27 = .ok (.iload_n 3, 1) := by decide +kernel
theorem dX1_chooseKinds_28 : decode cX1_chooseKinds 28 = .ok (.iaload, 1) := by decide +kernel
theorem dX1_chooseKinds_29 : decode cX1_chooseKinds 29 = .ok (.iconst 3, 1) := by decide +kernel
theorem dX1_chooseKinds_30 : decode cX1_chooseKinds 30 = .ok (.ishr, 1) := by decide +kernel
theorem dX1_chooseKinds_31 : decode cX1_chooseKinds 31 = .ok (.istore 5, 2) := by decide +kernel
theorem dX1_chooseKinds_33 : decode cX1_chooseKinds 33 = .ok (.aload_n 1, 1) := by decide +kernel
theorem dX1_chooseKinds_34 : decode cX1_chooseKinds 34 = .ok (.getfield 110, 3) := by decide +kernel
theorem dX1_chooseKinds_37 : decode cX1_chooseKinds 37 = .ok (.iload 5, 2) := by decide +kernel
theorem dX1_chooseKinds_39 : decode cX1_chooseKinds 39 = .ok (.aload_n 1, 1) := by decide +kernel
theorem dX1_chooseKinds_40 : decode cX1_chooseKinds 40 = .ok (.getfield 110, 3) := by decide +kernel
theorem dX1_chooseKinds_43 : decode cX1_chooseKinds 43 = .ok (.iload 5, 2) := by decide +kernel
theorem dX1_chooseKinds_45 : decode cX1_chooseKinds 45 = .ok (.iaload, 1) := by decide +kernel
theorem dX1_chooseKinds_46 : decode cX1_chooseKinds 46 = .ok (.aload_n 0, 1) := by decide +kernel
theorem dX1_chooseKinds_47 : decode cX1_chooseKinds 47 = .ok (.getfield 9, 3) := by decide +kernel
theorem dX1_chooseKinds_50 : decode cX1_chooseKinds 50 = .ok (.iload_n 3, 1) := by decide +kernel
theorem dX1_chooseKinds_51 : decode cX1_chooseKinds 51 = .ok (.iaload, 1) := by decide +kernel
theorem dX1_chooseKinds_52 : decode cX1_chooseKinds 52 = .ok (.bipush 7, 2) := by decide +kernel
theorem dX1_chooseKinds_54 : decode cX1_chooseKinds 54 = .ok (.iand, 1) := by decide +kernel
theorem dX1_chooseKinds_55 : decode cX1_chooseKinds 55 = .ok (.iload 4, 2) := by decide +kernel
theorem dX1_chooseKinds_57 : decode cX1_chooseKinds 57 = .ok (.invokestatic 113, 3) := by decide +kernel
theorem dX1_chooseKinds_60 : decode cX1_chooseKinds 60 = .ok (.iastore, 1) := by decide +kernel
theorem dX1_chooseKinds_61 : decode cX1_chooseKinds 61 = .ok (.aload_n 0, 1) := by decide +kernel
theorem dX1_chooseKinds_62 : decode cX1_chooseKinds 62 = .ok (.iload_n 3, 1) := by decide +kernel
theorem dX1_chooseKinds_63 : decode cX1_chooseKinds 63 = .ok (.iload_n 2, 1) := by decide +kernel
theorem dX1_chooseKinds_64 : decode cX1_chooseKinds 64 = .ok (.iload 4, 2) := by decide +kernel
theorem dX1_chooseKinds_66 : decode cX1_chooseKinds 66 = .ok (.invokevirtual 117, 3) := by decide +kernel
theorem dX1_chooseKinds_69 : decode cX1_chooseKinds 69 = .ok (.istore_n 2, 1) := by decide +kernel
theorem dX1_chooseKinds_70 : decode cX1_chooseKinds 70 = .ok (.iinc 3 1, 3) := by decide +kernel
theorem dX1_chooseKinds_73 : decode cX1_chooseKinds 73 = .ok (.goto (-66), 3) := by decide +kernel
theorem dX1_chooseKinds_76 : decode cX1_chooseKinds 76 = .ok (.return_, 1) := by decide +kernel
set_option maxRecDepth 20000 in
theorem ggX1_leastKind_X4_showingPlace : GoodIn wsX1_leastKind wsX4_showingPlace := goodIn_r _ [6] (by decide +kernel) (by decide +kernel)
set_option maxRecDepth 20000 in
theorem gX1_leastKind_X4_showingPlace_n120 : GoodIn wsX1_leastKind (wsX4_showingPlace) := ggX1_leastKind_X4_showingPlace
set_option maxRecDepth 20000 in
theorem ggX1_leastKind_X4_colourIn : GoodIn wsX1_leastKind wsX4_colourIn := goodIn_r _ [8, 9, 10, 5, 11] (by decide +kernel) (by decide +kernel)
set_option maxRecDepth 20000 in
theorem gX1_leastKind_X4_colourIn_n123 : GoodIn wsX1_leastKind (wsX4_colourIn) := ggX1_leastKind_X4_colourIn
set_option maxRecDepth 20000 in
theorem ggX1_leastKind_X1_standingBehind : GoodIn wsX1_leastKind wsX1_standingBehind := goodIn_r _ [16, 1, 10, 5, 11, 17, 18, 25, 26, 27, 28, 29, 30] (by decide +kernel) (by decide +kernel)
set_option maxRecDepth 20000 in
theorem gX1_leastKind_X1_standingBehind : GoodIn wsX1_leastKind (wsV RX1 117 RX1 yX1_standingBehind wsX1_standingBehind) := goodIn_app (goodIn_of _ (by decide +kernel)) ggX1_leastKind_X1_standingBehind
set_option maxRecDepth 20000 in
theorem ggX1_leastKind_X3_has : GoodIn wsX1_leastKind wsX3_has := goodIn_r _ [23, 24, 31] (by decide +kernel) (by decide +kernel)
set_option maxRecDepth 20000 in
theorem gX1_leastKind_X3_has : GoodIn wsX1_leastKind (wsV RX1 126 RX3 yX3_has wsX3_has) := goodIn_app (goodIn_of _ (by decide +kernel)) ggX1_leastKind_X3_has
theorem dX1_leastKind_0 : decode cX1_leastKind 0 = .ok (.iconst 0, 1) := by decide +kernel
theorem dX1_leastKind_1 : decode cX1_leastKind 1 = .ok (.istore_n 3, 1) := by decide +kernel
theorem dX1_leastKind_2 : decode cX1_leastKind 2 = .ok (.iload_n 3, 1) := by decide +kernel
theorem dX1_leastKind_3 : decode cX1_leastKind 3 = .ok (.iconst 3, 1) := by decide +kernel
theorem dX1_leastKind_4 : decode cX1_leastKind 4 = .ok (.if_icmp .ge 81, 3) := by decide +kernel
theorem dX1_leastKind_7 : decode cX1_leastKind 7 = .ok (.iload_n 2, 1) := by decide +kernel
theorem dX1_leastKind_8 : decode cX1_leastKind 8 = .ok (.aload_n 0, 1) := by decide +kernel
theorem dX1_leastKind_9 : decode cX1_leastKind 9 = .ok (.getfield 15, 3) := by decide +kernel
theorem dX1_leastKind_12 : decode cX1_leastKind 12 = .ok (.iload_n 1, 1) := by decide +kernel
theorem dX1_leastKind_13 : decode cX1_leastKind 13 = .ok (.iaload, 1) := by decide +kernel
theorem dX1_leastKind_14 : decode cX1_leastKind 14 = .ok (.iload_n 3, 1) := by decide +kernel
theorem dX1_leastKind_15 : decode cX1_leastKind 15 = .ok (.invokestatic 120, 3) := by decide +kernel
theorem dX1_leastKind_18 : decode cX1_leastKind 18 = .ok (.invokestatic 123, 3) := by decide +kernel
theorem dX1_leastKind_21 : decode cX1_leastKind 21 = .ok (.istore 4, 2) := by decide +kernel
theorem dX1_leastKind_23 : decode cX1_leastKind 23 = .ok (.aload_n 0, 1) := by decide +kernel
theorem dX1_leastKind_24 : decode cX1_leastKind 24 = .ok (.getfield 18, 3) := by decide +kernel
theorem dX1_leastKind_27 : decode cX1_leastKind 27 = .ok (.iload_n 1, 1) := by decide +kernel
theorem dX1_leastKind_28 : decode cX1_leastKind 28 = .ok (.iaload, 1) := by decide +kernel
theorem dX1_leastKind_29 : decode cX1_leastKind 29 = .ok (.iconst 4, 1) := by decide +kernel
theorem dX1_leastKind_30 : decode cX1_leastKind 30 = .ok (.if_icmp .eq 14, 3) := by decide +kernel
theorem dX1_leastKind_33 : decode cX1_leastKind 33 = .ok (.aload_n 0, 1) := by decide +kernel
theorem dX1_leastKind_34 : decode cX1_leastKind 34 = .ok (.getfield 18, 3) := by decide +kernel
theorem dX1_leastKind_37 : decode cX1_leastKind 37 = .ok (.iload_n 1, 1) := by decide +kernel
theorem dX1_leastKind_38 : decode cX1_leastKind 38 = .ok (.iaload, 1) := by decide +kernel
theorem dX1_leastKind_39 : decode cX1_leastKind 39 = .ok (.iload 4, 2) := by decide +kernel
theorem dX1_leastKind_41 : decode cX1_leastKind 41 = .ok (.if_icmp .ne 7, 3) := by decide +kernel
theorem dX1_leastKind_44 : decode cX1_leastKind 44 = .ok (.iconst 1, 1) := by decide +kernel
theorem dX1_leastKind_45 : decode cX1_leastKind 45 = .ok (.goto 4, 3) := by decide +kernel
theorem dX1_leastKind_48 : decode cX1_leastKind 48 = .ok (.iconst 0, 1) := by decide +kernel
theorem dX1_leastKind_49 : decode cX1_leastKind 49 = .ok (.istore 5, 2) := by decide +kernel
theorem dX1_leastKind_51 : decode cX1_leastKind 51 = .ok (.iload 5, 2) := by decide +kernel
theorem dX1_leastKind_53 : decode cX1_leastKind 53 = .ok (.ifCond .eq 26, 3) := by decide +kernel
theorem dX1_leastKind_56 : decode cX1_leastKind 56 = .ok (.aload_n 0, 1) := by decide +kernel
theorem dX1_leastKind_57 : decode cX1_leastKind 57 = .ok (.getfield 27, 3) := by decide +kernel
theorem dX1_leastKind_60 : decode cX1_leastKind 60 = .ok (.iload_n 1, 1) := by decide +kernel
theorem dX1_leastKind_61 : decode cX1_leastKind 61 = .ok (.iconst 1, 1) := by decide +kernel
theorem dX1_leastKind_62 : decode cX1_leastKind 62 = .ok (.iadd, 1) := by decide +kernel
theorem dX1_leastKind_63 : decode cX1_leastKind 63 = .ok (.aaload, 1) := by decide +kernel
theorem dX1_leastKind_64 : decode cX1_leastKind 64 = .ok (.aload_n 0, 1) := by decide +kernel
theorem dX1_leastKind_65 : decode cX1_leastKind 65 = .ok (.iload_n 1, 1) := by decide +kernel
theorem dX1_leastKind_66 : decode cX1_leastKind 66 = .ok (.iload_n 2, 1) := by decide +kernel
theorem dX1_leastKind_67 : decode cX1_leastKind 67 = .ok (.iload_n 3, 1) := by decide +kernel
theorem dX1_leastKind_68 : decode cX1_leastKind 68 = .ok (.invokevirtual 117, 3) := by decide +kernel
theorem dX1_leastKind_71 : decode cX1_leastKind 71 = .ok (.invokevirtual 126, 3) := by decide +kernel
theorem dX1_leastKind_74 : decode cX1_leastKind 74 = .ok (.ifCond .eq 5, 3) := by decide +kernel
theorem dX1_leastKind_77 : decode cX1_leastKind 77 = .ok (.iload_n 3, 1) := by decide +kernel
theorem dX1_leastKind_78 : decode cX1_leastKind 78 = .ok (.ireturn, 1) := by decide +kernel
theorem dX1_leastKind_79 : decode cX1_leastKind 79 = .ok (.iinc 3 1, 3) := by decide +kernel
theorem dX1_leastKind_82 : decode cX1_leastKind 82 = .ok (.goto (-80), 3) := by decide +kernel
theorem dX1_leastKind_85 : decode cX1_leastKind 85 = .ok (.iconst 3, 1) := by decide +kernel
theorem dX1_leastKind_86 : decode cX1_leastKind 86 = .ok (.ireturn, 1) := by decide +kernel
set_option maxRecDepth 20000 in
theorem ggX1_standingBehind_X4_bitOf : GoodIn wsX1_standingBehind wsX4_bitOf := goodIn_r _ [4] (by decide +kernel) (by decide +kernel)
set_option maxRecDepth 20000 in
theorem gX1_standingBehind_X4_bitOf_n130 : GoodIn wsX1_standingBehind (wsX4_bitOf) := ggX1_standingBehind_X4_bitOf
set_option maxRecDepth 20000 in
theorem ggX1_standingBehind_X4_exchanged : GoodIn wsX1_standingBehind wsX4_exchanged := goodIn_r _ [6] (by decide +kernel) (by decide +kernel)
set_option maxRecDepth 20000 in
theorem gX1_standingBehind_X4_exchanged_n134 : GoodIn wsX1_standingBehind (wsX4_exchanged) := ggX1_standingBehind_X4_exchanged
theorem dX1_standingBehind_0 : decode cX1_standingBehind 0 = .ok (.iload_n 3, 1) := by decide +kernel
theorem dX1_standingBehind_1 : decode cX1_standingBehind 1 = .ok (.iconst 2, 1) := by decide +kernel
theorem dX1_standingBehind_2 : decode cX1_standingBehind 2 = .ok (.if_icmp .ge 21, 3) := by decide +kernel
theorem dX1_standingBehind_5 : decode cX1_standingBehind 5 = .ok (.iload_n 2, 1) := by decide +kernel
theorem dX1_standingBehind_6 : decode cX1_standingBehind 6 = .ok (.aload_n 0, 1) := by decide +kernel
theorem dX1_standingBehind_7 : decode cX1_standingBehind 7 = .ok (.getfield 15, 3) := by decide +kernel
theorem dX1_standingBehind_10 : decode cX1_standingBehind 10 = .ok (.iload_n 1, 1) := by decide +kernel
theorem dX1_standingBehind_11 : decode cX1_standingBehind 11 = .ok (.iaload, 1) := by decide +kernel
theorem dX1_standingBehind_12 : decode cX1_standingBehind 12 = .ok (.iconst 1, 1) := by decide +kernel
theorem dX1_standingBehind_13 : decode cX1_standingBehind 13 = .ok (.iadd, 1) := by decide +kernel
theorem dX1_standingBehind_14 : decode cX1_standingBehind 14 = .ok (.invokestatic 130, 3) := by decide +kernel
theorem dX1_standingBehind_17 : decode cX1_standingBehind 17 = .ok (.invokestatic 134, 3) := by decide +kernel
theorem dX1_standingBehind_20 : decode cX1_standingBehind 20 = .ok (.goto 4, 3) := by decide +kernel
theorem dX1_standingBehind_23 : decode cX1_standingBehind 23 = .ok (.iload_n 2, 1) := by decide +kernel
theorem dX1_standingBehind_24 : decode cX1_standingBehind 24 = .ok (.ireturn, 1) := by decide +kernel
set_option maxRecDepth 20000 in
theorem ggX1_findSuspects_X3_spread : GoodIn wsX1_findSuspects wsX3_spread := goodIn_r _ [11, 12, 13, 14, 15, 16, 17, 10, 18, 19, 20, 21, 22, 23, 24, 25, 26, 27, 28, 29, 30, 61] (by decide +kernel) (by decide +kernel)
set_option maxRecDepth 20000 in
theorem gX1_findSuspects_X3_spread : GoodIn wsX1_findSuspects (wsV RX1 100 RX3 yX3_spread wsX3_spread) := goodIn_app (goodIn_of _ (by decide +kernel)) ggX1_findSuspects_X3_spread
set_option maxRecDepth 20000 in
theorem ggX1_findSuspects_X3_firstShared : GoodIn wsX1_findSuspects wsX3_firstShared := goodIn_r _ [34, 12, 61] (by decide +kernel) (by decide +kernel)
set_option maxRecDepth 20000 in
theorem gX1_findSuspects_X3_firstShared : GoodIn wsX1_findSuspects (wsV RX1 65 RX3 yX3_firstShared wsX3_firstShared) := goodIn_app (goodIn_of _ (by decide +kernel)) ggX1_findSuspects_X3_firstShared
set_option maxRecDepth 20000 in
theorem ggX1_findSuspects_X3_keepEither : GoodIn wsX1_findSuspects wsX3_keepEither := goodIn_r _ [38, 12, 39, 40, 10, 41, 19, 42, 43, 44, 61] (by decide +kernel) (by decide +kernel)
set_option maxRecDepth 20000 in
theorem gX1_findSuspects_X3_keepEither : GoodIn wsX1_findSuspects (wsV RX1 104 RX3 yX3_keepEither wsX3_keepEither) := goodIn_app (goodIn_of _ (by decide +kernel)) ggX1_findSuspects_X3_keepEither
theorem dX1_findSuspects_0 : decode cX1_findSuspects 0 = .ok (.iconst 0, 1) := by decide +kernel
theorem dX1_findSuspects_1 : decode cX1_findSuspects 1 = .ok (.istore_n 2, 1) := by decide +kernel
theorem dX1_findSuspects_2 : decode cX1_findSuspects 2 = .ok (.iload_n 2, 1) := by decide +kernel
theorem dX1_findSuspects_3 : decode cX1_findSuspects 3 = .ok (.aload_n 0, 1) := by decide +kernel
theorem dX1_findSuspects_4 : decode cX1_findSuspects 4 = .ok (.getfield 21, 3) := by decide +kernel
theorem dX1_findSuspects_7 : decode cX1_findSuspects 7 = .ok (.if_icmp .ge 99, 3) := by decide +kernel
theorem dX1_findSuspects_10 : decode cX1_findSuspects 10 = .ok (.aload_n 0, 1) := by decide +kernel
theorem dX1_findSuspects_11 : decode cX1_findSuspects 11 = .ok (.getfield 32, 3) := by decide +kernel
theorem dX1_findSuspects_14 : decode cX1_findSuspects 14 = .ok (.aload_n 0, 1) := by decide +kernel
theorem dX1_findSuspects_15 : decode cX1_findSuspects 15 = .ok (.getfield 32, 3) := by decide +kernel
theorem dX1_findSuspects_18 : decode cX1_findSuspects 18 = .ok (.aload_n 0, 1) := by decide +kernel
theorem dX1_findSuspects_19 : decode cX1_findSuspects 19 = .ok (.getfield 15, 3) := by decide +kernel
theorem dX1_findSuspects_22 : decode cX1_findSuspects 22 = .ok (.iload_n 2, 1) := by decide +kernel
theorem dX1_findSuspects_23 : decode cX1_findSuspects 23 = .ok (.iaload, 1) := by decide +kernel
theorem dX1_findSuspects_24 : decode cX1_findSuspects 24 = .ok (.invokevirtual 100, 3) := by decide +kernel
theorem dX1_findSuspects_27 : decode cX1_findSuspects 27 = .ok (.aload_n 0, 1) := by decide +kernel
theorem dX1_findSuspects_28 : decode cX1_findSuspects 28 = .ok (.getfield 18, 3) := by decide +kernel
theorem dX1_findSuspects_31 : decode cX1_findSuspects 31 = .ok (.iload_n 2, 1) := by decide +kernel
theorem dX1_findSuspects_32 : decode cX1_findSuspects 32 = .ok (.iaload, 1) := by decide +kernel
theorem dX1_findSuspects_33 : decode cX1_findSuspects 33 = .ok (.iconst 4, 1) := by decide +kernel
theorem dX1_findSuspects_34 : decode cX1_findSuspects 34 = .ok (.if_icmp .eq 66, 3) := by decide +kernel
theorem dX1_findSuspects_37 : decode cX1_findSuspects 37 = .ok (.aload_n 0, 1) := by decide +kernel
theorem dX1_findSuspects_38 : decode cX1_findSuspects 38 = .ok (.getfield 32, 3) := by decide +kernel
theorem dX1_findSuspects_41 : decode cX1_findSuspects 41 = .ok (.aload_n 0, 1) := by decide +kernel
theorem dX1_findSuspects_42 : decode cX1_findSuspects 42 = .ok (.getfield 27, 3) := by decide +kernel
theorem dX1_findSuspects_45 : decode cX1_findSuspects 45 = .ok (.iload_n 2, 1) := by decide +kernel
theorem dX1_findSuspects_46 : decode cX1_findSuspects 46 = .ok (.iconst 1, 1) := by decide +kernel
theorem dX1_findSuspects_47 : decode cX1_findSuspects 47 = .ok (.iadd, 1) := by decide +kernel
theorem dX1_findSuspects_48 : decode cX1_findSuspects 48 = .ok (.aaload, 1) := by decide +kernel
theorem dX1_findSuspects_49 : decode cX1_findSuspects 49 = .ok (.invokevirtual 65, 3) := by decide +kernel
theorem dX1_findSuspects_52 : decode cX1_findSuspects 52 = .ok (.iconst (-1), 1) := by decide +kernel
theorem dX1_findSuspects_53 : decode cX1_findSuspects 53 = .ok (.if_icmp .eq 28, 3) := by decide +kernel
theorem dX1_findSuspects_56 : decode cX1_findSuspects 56 = .ok (.aload_n 1, 1) := by decide +kernel
theorem dX1_findSuspects_57 : decode cX1_findSuspects 57 = .ok (.getfield 137, 3) := by decide +kernel
theorem dX1_findSuspects_60 : decode cX1_findSuspects 60 = .ok (.aload_n 1, 1) := by decide +kernel
theorem dX1_findSuspects_61 : decode cX1_findSuspects 61 = .ok (.getfield 55, 3) := by decide +kernel
theorem dX1_findSuspects_64 : decode cX1_findSuspects 64 = .ok (.aload_n 0, 1) := by decide +kernel
theorem dX1_findSuspects_65 : decode cX1_findSuspects 65 = .ok (.getfield 9, 3) := by decide +kernel
theorem dX1_findSuspects_68 : decode cX1_findSuspects 68 = .ok (.iload_n 2, 1) := by decide +kernel
theorem dX1_findSuspects_69 : decode cX1_findSuspects 69 = .ok (.iaload, 1) := by decide +kernel
theorem dX1_findSuspects_70 : decode cX1_findSuspects 70 = .ok (.iastore, 1) := by decide +kernel
theorem dX1_findSuspects_71 : decode cX1_findSuspects 71 = .ok (.aload_n 1, 1) := by decide +kernel
theorem dX1_findSuspects_72 : decode cX1_findSuspects 72 = .ok (.dup, 1) := by decide +kernel
theorem dX1_findSuspects_73 : decode cX1_findSuspects 73 = .ok (.getfield 55, 3) := by decide +kernel
theorem dX1_findSuspects_76 : decode cX1_findSuspects 76 = .ok (.iconst 1, 1) := by decide +kernel
theorem dX1_findSuspects_77 : decode cX1_findSuspects 77 = .ok (.iadd, 1) := by decide +kernel
theorem dX1_findSuspects_78 : decode cX1_findSuspects 78 = .ok (.putfield 55, 3) := by decide +kernel
theorem dX1_findSuspects_81 : decode cX1_findSuspects 81 = .ok (.aload_n 0, 1) := by decide +kernel
theorem dX1_findSuspects_82 : decode cX1_findSuspects 82 = .ok (.getfield 32, 3) := by decide +kernel
theorem dX1_findSuspects_85 : decode cX1_findSuspects 85 = .ok (.aload_n 0, 1) := by decide +kernel
theorem dX1_findSuspects_86 : decode cX1_findSuspects 86 = .ok (.getfield 15, 3) := by decide +kernel
theorem dX1_findSuspects_89 : decode cX1_findSuspects 89 = .ok (.iload_n 2, 1) := by decide +kernel
theorem dX1_findSuspects_90 : decode cX1_findSuspects 90 = .ok (.iaload, 1) := by decide +kernel
theorem dX1_findSuspects_91 : decode cX1_findSuspects 91 = .ok (.aload_n 0, 1) := by decide +kernel
theorem dX1_findSuspects_92 : decode cX1_findSuspects 92 = .ok (.getfield 18, 3) := by decide +kernel
theorem dX1_findSuspects_95 : decode cX1_findSuspects 95 = .ok (.iload_n 2, 1) := by decide +kernel
theorem dX1_findSuspects_96 : decode cX1_findSuspects 96 = .ok (.iaload, 1) := by decide +kernel
theorem dX1_findSuspects_97 : decode cX1_findSuspects 97 = .ok (.invokevirtual 104, 3) := by decide +kernel
theorem dX1_findSuspects_100 : decode cX1_findSuspects 100 = .ok (.iinc 2 1, 3) := by decide +kernel
theorem dX1_findSuspects_103 : decode cX1_findSuspects 103 = .ok (.goto (-101), 3) := by decide +kernel
theorem dX1_findSuspects_106 : decode cX1_findSuspects 106 = .ok (.return_, 1) := by decide +kernel
theorem dX2_init_0 : decode cX2_init 0 = .ok (.aload_n 0, 1) := by decide +kernel
theorem dX2_init_1 : decode cX2_init 1 = .ok (.invokespecial 3, 3) := by decide +kernel
theorem dX2_init_4 : decode cX2_init 4 = .ok (.aload_n 0, 1) := by decide +kernel
theorem dX2_init_5 : decode cX2_init 5 = .ok (.bipush 48, 2) := by decide +kernel
theorem dX2_init_7 : decode cX2_init 7 = .ok (.newarray .int, 2) := by decide +kernel
theorem dX2_init_9 : decode cX2_init 9 = .ok (.putfield 9, 3) := by decide +kernel
theorem dX2_init_12 : decode cX2_init 12 = .ok (.aload_n 0, 1) := by decide +kernel
theorem dX2_init_13 : decode cX2_init 13 = .ok (.bipush 6, 2) := by decide +kernel
theorem dX2_init_15 : decode cX2_init 15 = .ok (.newarray .int, 2) := by decide +kernel
theorem dX2_init_17 : decode cX2_init 17 = .ok (.putfield 15, 3) := by decide +kernel
theorem dX2_init_20 : decode cX2_init 20 = .ok (.aload_n 0, 1) := by decide +kernel
theorem dX2_init_21 : decode cX2_init 21 = .ok (.iconst 0, 1) := by decide +kernel
theorem dX2_init_22 : decode cX2_init 22 = .ok (.putfield 18, 3) := by decide +kernel
theorem dX2_init_25 : decode cX2_init 25 = .ok (.aload_n 0, 1) := by decide +kernel
theorem dX2_init_26 : decode cX2_init 26 = .ok (.iconst 0, 1) := by decide +kernel
theorem dX2_init_27 : decode cX2_init 27 = .ok (.putfield 22, 3) := by decide +kernel
theorem dX2_init_30 : decode cX2_init 30 = .ok (.aload_n 0, 1) := by decide +kernel
theorem dX2_init_31 : decode cX2_init 31 = .ok (.iconst 0, 1) := by decide +kernel
theorem dX2_init_32 : decode cX2_init 32 = .ok (.putfield 25, 3) := by decide +kernel
theorem dX2_init_35 : decode cX2_init 35 = .ok (.aload_n 0, 1) := by decide +kernel
theorem dX2_init_36 : decode cX2_init 36 = .ok (.iconst 0, 1) := by decide +kernel
theorem dX2_init_37 : decode cX2_init 37 = .ok (.putfield 29, 3) := by decide +kernel
theorem dX2_init_40 : decode cX2_init 40 = .ok (.aload_n 0, 1) := by decide +kernel
theorem dX2_init_41 : decode cX2_init 41 = .ok (.iconst 0, 1) := by decide +kernel
theorem dX2_init_42 : decode cX2_init 42 = .ok (.putfield 32, 3) := by decide +kernel
theorem dX2_init_45 : decode cX2_init 45 = .ok (.aload_n 0, 1) := by decide +kernel
theorem dX2_init_46 : decode cX2_init 46 = .ok (.bipush 16, 2) := by decide +kernel
theorem dX2_init_48 : decode cX2_init 48 = .ok (.newarray .int, 2) := by decide +kernel
theorem dX2_init_50 : decode cX2_init 50 = .ok (.putfield 35, 3) := by decide +kernel
theorem dX2_init_53 : decode cX2_init 53 = .ok (.aload_n 0, 1) := by decide +kernel
theorem dX2_init_54 : decode cX2_init 54 = .ok (.bipush 40, 2) := by decide +kernel
theorem dX2_init_56 : decode cX2_init 56 = .ok (.newarray .int, 2) := by decide +kernel
theorem dX2_init_58 : decode cX2_init 58 = .ok (.putfield 38, 3) := by decide +kernel
theorem dX2_init_61 : decode cX2_init 61 = .ok (.aload_n 0, 1) := by decide +kernel
theorem dX2_init_62 : decode cX2_init 62 = .ok (.iconst 0, 1) := by decide +kernel
theorem dX2_init_63 : decode cX2_init 63 = .ok (.putfield 41, 3) := by decide +kernel
theorem dX2_init_66 : decode cX2_init 66 = .ok (.return_, 1) := by decide +kernel
theorem dX2_begin_0 : decode cX2_begin 0 = .ok (.aload_n 0, 1) := by decide +kernel
theorem dX2_begin_1 : decode cX2_begin 1 = .ok (.iload_n 1, 1) := by decide +kernel
theorem dX2_begin_2 : decode cX2_begin 2 = .ok (.putfield 18, 3) := by decide +kernel
theorem dX2_begin_5 : decode cX2_begin 5 = .ok (.aload_n 0, 1) := by decide +kernel
theorem dX2_begin_6 : decode cX2_begin 6 = .ok (.iload_n 2, 1) := by decide +kernel
theorem dX2_begin_7 : decode cX2_begin 7 = .ok (.putfield 22, 3) := by decide +kernel
theorem dX2_begin_10 : decode cX2_begin 10 = .ok (.iconst 0, 1) := by decide +kernel
theorem dX2_begin_11 : decode cX2_begin 11 = .ok (.istore_n 3, 1) := by decide +kernel
theorem dX2_begin_12 : decode cX2_begin 12 = .ok (.iload_n 3, 1) := by decide +kernel
theorem dX2_begin_13 : decode cX2_begin 13 = .ok (.bipush 48, 2) := by decide +kernel
theorem dX2_begin_15 : decode cX2_begin 15 = .ok (.if_icmp .ge 16, 3) := by decide +kernel
theorem dX2_begin_18 : decode cX2_begin 18 = .ok (.aload_n 0, 1) := by decide +kernel
theorem dX2_begin_19 : decode cX2_begin 19 = .ok (.getfield 9, 3) := by decide +kernel
theorem dX2_begin_22 : decode cX2_begin 22 = .ok (.iload_n 3, 1) := by decide +kernel
theorem dX2_begin_23 : decode cX2_begin 23 = .ok (.iconst 4, 1) := by decide +kernel
theorem dX2_begin_24 : decode cX2_begin 24 = .ok (.iastore, 1) := by decide +kernel
theorem dX2_begin_25 : decode cX2_begin 25 = .ok (.iinc 3 1, 3) := by decide +kernel
theorem dX2_begin_28 : decode cX2_begin 28 = .ok (.goto (-16), 3) := by decide +kernel
theorem dX2_begin_31 : decode cX2_begin 31 = .ok (.iconst 0, 1) := by decide +kernel
theorem dX2_begin_32 : decode cX2_begin 32 = .ok (.istore_n 3, 1) := by decide +kernel
theorem dX2_begin_33 : decode cX2_begin 33 = .ok (.iload_n 3, 1) := by decide +kernel
theorem dX2_begin_34 : decode cX2_begin 34 = .ok (.bipush 6, 2) := by decide +kernel
theorem dX2_begin_36 : decode cX2_begin 36 = .ok (.if_icmp .ge 28, 3) := by decide +kernel
theorem dX2_begin_39 : decode cX2_begin 39 = .ok (.aload_n 0, 1) := by decide +kernel
theorem dX2_begin_40 : decode cX2_begin 40 = .ok (.getfield 15, 3) := by decide +kernel
theorem dX2_begin_43 : decode cX2_begin 43 = .ok (.iload_n 3, 1) := by decide +kernel
theorem dX2_begin_44 : decode cX2_begin 44 = .ok (.iload_n 3, 1) := by decide +kernel
theorem dX2_begin_45 : decode cX2_begin 45 = .ok (.aload_n 0, 1) := by decide +kernel
theorem dX2_begin_46 : decode cX2_begin 46 = .ok (.getfield 18, 3) := by decide +kernel
theorem dX2_begin_49 : decode cX2_begin 49 = .ok (.if_icmp .ge 7, 3) := by decide +kernel
theorem dX2_begin_52 : decode cX2_begin 52 = .ok (.iconst 4, 1) := by decide +kernel
theorem dX2_begin_53 : decode cX2_begin 53 = .ok (.goto 4, 3) := by decide +kernel
theorem dX2_begin_56 : decode cX2_begin 56 = .ok (.iconst 0, 1) := by decide +kernel
theorem dX2_begin_57 : decode cX2_begin 57 = .ok (.iastore, 1) := by decide +kernel
theorem dX2_begin_58 : decode cX2_begin 58 = .ok (.iinc 3 1, 3) := by decide +kernel
theorem dX2_begin_61 : decode cX2_begin 61 = .ok (.goto (-28), 3) := by decide +kernel
theorem dX2_begin_64 : decode cX2_begin 64 = .ok (.return_, 1) := by decide +kernel
theorem dX3_init_0 : decode cX3_init 0 = .ok (.aload_n 0, 1) := by decide +kernel
theorem dX3_init_1 : decode cX3_init 1 = .ok (.invokespecial 5, 3) := by decide +kernel
theorem dX3_init_4 : decode cX3_init 4 = .ok (.aload_n 0, 1) := by decide +kernel
theorem dX3_init_5 : decode cX3_init 5 = .ok (.bipush 64, 2) := by decide +kernel
theorem dX3_init_7 : decode cX3_init 7 = .ok (.newarray .long, 2) := by decide +kernel
theorem dX3_init_9 : decode cX3_init 9 = .ok (.putfield 11, 3) := by decide +kernel
theorem dX3_init_12 : decode cX3_init 12 = .ok (.return_, 1) := by decide +kernel
theorem dX3_fill_0 : decode cX3_fill 0 = .ok (.iconst 0, 1) := by decide +kernel
theorem dX3_fill_1 : decode cX3_fill 1 = .ok (.istore_n 1, 1) := by decide +kernel
theorem dX3_fill_2 : decode cX3_fill 2 = .ok (.iload_n 1, 1) := by decide +kernel
theorem dX3_fill_3 : decode cX3_fill 3 = .ok (.bipush 64, 2) := by decide +kernel
theorem dX3_fill_5 : decode cX3_fill 5 = .ok (.if_icmp .ge 18, 3) := by decide +kernel
theorem dX3_fill_8 : decode cX3_fill 8 = .ok (.aload_n 0, 1) := by decide +kernel
theorem dX3_fill_9 : decode cX3_fill 9 = .ok (.getfield 11, 3) := by decide +kernel
theorem dX3_fill_12 : decode cX3_fill 12 = .ok (.iload_n 1, 1) := by decide +kernel
theorem dX3_fill_13 : decode cX3_fill 13 = .ok (.ldc2_w 15, 3) := by decide +kernel
theorem dX3_fill_16 : decode cX3_fill 16 = .ok (.lastore, 1) := by decide +kernel
theorem dX3_fill_17 : decode cX3_fill 17 = .ok (.iinc 1 1, 3) := by decide +kernel
theorem dX3_fill_20 : decode cX3_fill 20 = .ok (.goto (-18), 3) := by decide +kernel
theorem dX3_fill_23 : decode cX3_fill 23 = .ok (.return_, 1) := by decide +kernel
set_option maxRecDepth 20000 in
theorem ggX3_keep_X3_having : GoodIn wsX3_keep wsX3_having := goodIn_r _ [5, 6, 7, 8, 9] (by decide +kernel) (by decide +kernel)
set_option maxRecDepth 20000 in
theorem gX3_keep_X3_having : GoodIn wsX3_keep (va_wsS RX3 17 yX3_having wsX3_having) := goodIn_app (goodIn_of _ (by decide +kernel)) ggX3_keep_X3_having
theorem dX3_keep_0 : decode cX3_keep 0 = .ok (.iconst 0, 1) := by decide +kernel
theorem dX3_keep_1 : decode cX3_keep 1 = .ok (.istore_n 3, 1) := by decide +kernel
theorem dX3_keep_2 : decode cX3_keep 2 = .ok (.iload_n 3, 1) := by decide +kernel
theorem dX3_keep_3 : decode cX3_keep 3 = .ok (.bipush 64, 2) := by decide +kernel
theorem dX3_keep_5 : decode cX3_keep 5 = .ok (.if_icmp .ge 24, 3) := by decide +kernel
theorem dX3_keep_8 : decode cX3_keep 8 = .ok (.aload_n 0, 1) := by decide +kernel
theorem dX3_keep_9 : decode cX3_keep 9 = .ok (.getfield 11, 3) := by decide +kernel
theorem dX3_keep_12 : decode cX3_keep 12 = .ok (.iload_n 3, 1) := by decide +kernel
theorem dX3_keep_13 : decode cX3_keep 13 = .ok (.dup2, 1) := by decide +kernel
theorem dX3_keep_14 : decode cX3_keep 14 = .ok (.laload, 1) := by decide +kernel
theorem dX3_keep_15 : decode cX3_keep 15 = .ok (.iload_n 3, 1) := by decide +kernel
theorem dX3_keep_16 : decode cX3_keep 16 = .ok (.iload_n 1, 1) := by decide +kernel
theorem dX3_keep_17 : decode cX3_keep 17 = .ok (.iload_n 2, 1) := by decide +kernel
theorem dX3_keep_18 : decode cX3_keep 18 = .ok (.invokestatic 17, 3) := by decide +kernel
theorem dX3_keep_21 : decode cX3_keep 21 = .ok (.land, 1) := by decide +kernel
theorem dX3_keep_22 : decode cX3_keep 22 = .ok (.lastore, 1) := by decide +kernel
theorem dX3_keep_23 : decode cX3_keep 23 = .ok (.iinc 3 1, 3) := by decide +kernel
theorem dX3_keep_26 : decode cX3_keep 26 = .ok (.goto (-24), 3) := by decide +kernel
theorem dX3_keep_29 : decode cX3_keep 29 = .ok (.return_, 1) := by decide +kernel
set_option maxRecDepth 20000 in
theorem ggX3_keepEither_X3_having : GoodIn wsX3_keepEither wsX3_having := goodIn_r _ [5, 6, 7, 8, 9] (by decide +kernel) (by decide +kernel)
set_option maxRecDepth 20000 in
theorem gX3_keepEither_X3_having : GoodIn wsX3_keepEither (va_wsS RX3 17 yX3_having wsX3_having) := goodIn_app (goodIn_of _ (by decide +kernel)) ggX3_keepEither_X3_having
theorem dX3_keepEither_0 : decode cX3_keepEither 0 = .ok (.iconst 0, 1) := by decide +kernel
theorem dX3_keepEither_1 : decode cX3_keepEither 1 = .ok (.istore_n 3, 1) := by decide +kernel
theorem dX3_keepEither_2 : decode cX3_keepEither 2 = .ok (.iload_n 3, 1) := by decide +kernel
theorem dX3_keepEither_3 : decode cX3_keepEither 3 = .ok (.bipush 64, 2) := by decide +kernel
theorem dX3_keepEither_5 : decode cX3_keepEither 5 = .ok (.if_icmp .ge 33, 3) := by decide +kernel
theorem dX3_keepEither_8 : decode cX3_keepEither 8 = .ok (.aload_n 0, 1) := by decide +kernel
theorem dX3_keepEither_9 : decode cX3_keepEither 9 = .ok (.getfield 11, 3) := by decide +kernel
theorem dX3_keepEither_12 : decode cX3_keepEither 12 = .ok (.iload_n 3, 1) := by decide +kernel
theorem dX3_keepEither_13 : decode cX3_keepEither 13 = .ok (.dup2, 1) := by decide +kernel
theorem dX3_keepEither_14 : decode cX3_keepEither 14 = .ok (.laload, 1) := by decide +kernel
theorem dX3_keepEither_15 : decode cX3_keepEither 15 = .ok (.iload_n 3, 1) := by decide +kernel
theorem dX3_keepEither_16 : decode cX3_keepEither 16 = .ok (.iload_n 1, 1) := by decide +kernel
theorem dX3_keepEither_17 : decode cX3_keepEither 17 = .ok (.iload_n 2, 1) := by decide +kernel
theorem dX3_keepEither_18 : decode cX3_keepEither 18 = .ok (.invokestatic 17, 3) := by decide +kernel
theorem dX3_keepEither_21 : decode cX3_keepEither 21 = .ok (.iload_n 3, 1) := by decide +kernel
theorem dX3_keepEither_22 : decode cX3_keepEither 22 = .ok (.iload_n 1, 1) := by decide +kernel
theorem dX3_keepEither_23 : decode cX3_keepEither 23 = .ok (.iconst 1, 1) := by decide +kernel
theorem dX3_keepEither_24 : decode cX3_keepEither 24 = .ok (.iadd, 1) := by decide +kernel
theorem dX3_keepEither_25 : decode cX3_keepEither 25 = .ok (.iload_n 2, 1) := by decide +kernel
theorem dX3_keepEither_26 : decode cX3_keepEither 26 = .ok (.invokestatic 17, 3) := by decide +kernel
theorem dX3_keepEither_29 : decode cX3_keepEither 29 = .ok (.lor, 1) := by decide +kernel
theorem dX3_keepEither_30 : decode cX3_keepEither 30 = .ok (.land, 1) := by decide +kernel
theorem dX3_keepEither_31 : decode cX3_keepEither 31 = .ok (.lastore, 1) := by decide +kernel
theorem dX3_keepEither_32 : decode cX3_keepEither 32 = .ok (.iinc 3 1, 3) := by decide +kernel
theorem dX3_keepEither_35 : decode cX3_keepEither 35 = .ok (.goto (-33), 3) := by decide +kernel
theorem dX3_keepEither_38 : decode cX3_keepEither 38 = .ok (.return_, 1) := by decide +kernel
theorem dX3_having_0 : decode cX3_having 0 = .ok (.iload_n 1, 1) := by decide +kernel
theorem dX3_having_1 : decode cX3_having 1 = .ok (.tableswitch 50 3 5 #[27, 36, 44], 27) := by decide +kernel
theorem dX3_having_28 : decode cX3_having 28 = .ok (.ldc2_w 21, 3) := by decide +kernel
theorem dX3_having_31 : decode cX3_having 31 = .ok (.bipush 16, 2) := by decide +kernel
theorem dX3_having_33 : decode cX3_having 33 = .ok (.iload_n 2, 1) := by decide +kernel
theorem dX3_having_34 : decode cX3_having 34 = .ok (.imul, 1) := by decide +kernel
theorem dX3_having_35 : decode cX3_having 35 = .ok (.lshl, 1) := by decide +kernel
theorem dX3_having_36 : decode cX3_having 36 = .ok (.lreturn, 1) := by decide +kernel
theorem dX3_having_37 : decode cX3_having 37 = .ok (.ldc2_w 23, 3) := by decide +kernel
theorem dX3_having_40 : decode cX3_having 40 = .ok (.iconst 4, 1) := by decide +kernel
theorem dX3_having_41 : decode cX3_having 41 = .ok (.iload_n 2, 1) := by decide +kernel
theorem dX3_having_42 : decode cX3_having 42 = .ok (.imul, 1) := by decide +kernel
theorem dX3_having_43 : decode cX3_having 43 = .ok (.lshl, 1) := by decide +kernel
theorem dX3_having_44 : decode cX3_having 44 = .ok (.lreturn, 1) := by decide +kernel
theorem dX3_having_45 : decode cX3_having 45 = .ok (.ldc2_w 25, 3) := by decide +kernel
theorem dX3_having_48 : decode cX3_having 48 = .ok (.iload_n 2, 1) := by decide +kernel
theorem dX3_having_49 : decode cX3_having 49 = .ok (.lshl, 1) := by decide +kernel
theorem dX3_having_50 : decode cX3_having 50 = .ok (.lreturn, 1) := by decide +kernel
theorem dX3_having_51 : decode cX3_having 51 = .ok (.iload_n 0, 1) := by decide +kernel
theorem dX3_having_52 : decode cX3_having 52 = .ok (.iconst 2, 1) := by decide +kernel
theorem dX3_having_53 : decode cX3_having 53 = .ok (.iconst 2, 1) := by decide +kernel
theorem dX3_having_54 : decode cX3_having 54 = .ok (.iload_n 1, 1) := by decide +kernel
theorem dX3_having_55 : decode cX3_having 55 = .ok (.isub, 1) := by decide +kernel
theorem dX3_having_56 : decode cX3_having 56 = .ok (.imul, 1) := by decide +kernel
theorem dX3_having_57 : decode cX3_having 57 = .ok (.ishr, 1) := by decide +kernel
theorem dX3_having_58 : decode cX3_having 58 = .ok (.iconst 3, 1) := by decide +kernel
theorem dX3_having_59 : decode cX3_having 59 = .ok (.iand, 1) := by decide +kernel
theorem dX3_having_60 : decode cX3_having 60 = .ok (.iload_n 2, 1) := by decide +kernel
theorem dX3_having_61 : decode cX3_having 61 = .ok (.if_icmp .ne 9, 3) := by decide +kernel
theorem dX3_having_64 : decode cX3_having 64 = .ok (.ldc2_w 15, 3) := by decide +kernel
theorem dX3_having_67 : decode cX3_having 67 = .ok (.goto 4, 3) := by decide +kernel
theorem dX3_having_70 : decode cX3_having 70 = .ok (.lconst 0, 1) := by decide +kernel
theorem dX3_having_71 : decode cX3_having 71 = .ok (.lreturn, 1) := by decide +kernel
set_option maxRecDepth 20000 in
theorem ggX3_spread_X3_spreadAcross : GoodIn wsX3_spread wsX3_spreadAcross := goodIn_r _ [8, 9, 1, 21] (by decide +kernel) (by decide +kernel)
set_option maxRecDepth 20000 in
theorem gX3_spread_X3_spreadAcross : GoodIn wsX3_spread (wsV RX3 27 RX3 yX3_spreadAcross wsX3_spreadAcross) := goodIn_app (goodIn_of _ (by decide +kernel)) ggX3_spread_X3_spreadAcross
set_option maxRecDepth 20000 in
theorem ggX3_spread_X3_spreadInside : GoodIn wsX3_spread wsX3_spreadInside := goodIn_r _ [13, 1, 21] (by decide +kernel) (by decide +kernel)
set_option maxRecDepth 20000 in
theorem gX3_spread_X3_spreadInside : GoodIn wsX3_spread (wsV RX3 34 RX3 yX3_spreadInside wsX3_spreadInside) := goodIn_app (goodIn_of _ (by decide +kernel)) ggX3_spread_X3_spreadInside
set_option maxRecDepth 20000 in
theorem ggX3_spread_X3_spreadBetween : GoodIn wsX3_spread wsX3_spreadBetween := goodIn_r _ [17, 1, 18, 19, 20, 21] (by decide +kernel) (by decide +kernel)
set_option maxRecDepth 20000 in
theorem gX3_spread_X3_spreadBetween : GoodIn wsX3_spread (wsV RX3 41 RX3 yX3_spreadBetween wsX3_spreadBetween) := goodIn_app (goodIn_of _ (by decide +kernel)) ggX3_spread_X3_spreadBetween
theorem dX3_spread_0 : decode cX3_spread 0 = .ok (.iload_n 2, 1) := by decide +kernel
theorem dX3_spread_1 : decode cX3_spread 1 = .ok (.tableswitch 69 2 4 #[27, 38, 54], 27) := by decide +kernel
theorem dX3_spread_28 : decode cX3_spread 28 = .ok (.aload_n 0, 1) := by decide +kernel
theorem dX3_spread_29 : decode cX3_spread 29 = .ok (.aload_n 1, 1) := by decide +kernel
theorem dX3_spread_30 : decode cX3_spread 30 = .ok (.getfield 11, 3) := by decide +kernel
theorem dX3_spread_33 : decode cX3_spread 33 = .ok (.invokevirtual 27, 3) := by decide +kernel
theorem dX3_spread_36 : decode cX3_spread 36 = .ok (.goto 47, 3) := by decide +kernel
theorem dX3_spread_39 : decode cX3_spread 39 = .ok (.aload_n 0, 1) := by decide +kernel
theorem dX3_spread_40 : decode cX3_spread 40 = .ok (.aload_n 1, 1) := by decide +kernel
theorem dX3_spread_41 : decode cX3_spread 41 = .ok (.getfield 11, 3) := by decide +kernel
theorem dX3_spread_44 : decode cX3_spread 44 = .ok (.getstatic 31, 3) := by decide +kernel
theorem dX3_spread_47 : decode cX3_spread 47 = .ok (.bipush 12, 2) := by decide +kernel
theorem dX3_spread_49 : decode cX3_spread 49 = .ok (.invokevirtual 34, 3) := by decide +kernel
theorem dX3_spread_52 : decode cX3_spread 52 = .ok (.goto 31, 3) := by decide +kernel
theorem dX3_spread_55 : decode cX3_spread 55 = .ok (.aload_n 0, 1) := by decide +kernel
theorem dX3_spread_56 : decode cX3_spread 56 = .ok (.aload_n 1, 1) := by decide +kernel
theorem dX3_spread_57 : decode cX3_spread 57 = .ok (.getfield 11, 3) := by decide +kernel
theorem dX3_spread_60 : decode cX3_spread 60 = .ok (.getstatic 38, 3) := by decide +kernel
theorem dX3_spread_63 : decode cX3_spread 63 = .ok (.iconst 3, 1) := by decide +kernel
theorem dX3_spread_64 : decode cX3_spread 64 = .ok (.invokevirtual 34, 3) := by decide +kernel
theorem dX3_spread_67 : decode cX3_spread 67 = .ok (.goto 16, 3) := by decide +kernel
theorem dX3_spread_70 : decode cX3_spread 70 = .ok (.aload_n 0, 1) := by decide +kernel
end
section
theorem dX3_spread_71 : decode cX3_spread 71 = .ok (.aload_n 1, 1) := by decide +kernel
theorem dX3_spread_72 : decode cX3_spread 72 = .ok (.getfield 11, 3) := by decide +kernel
theorem dX3_spread_75 : decode cX3_spread 75 = .ok (.iconst 2, 1) := by decide +kernel
theorem dX3_spread_76 : decode cX3_spread 76 = .ok (.iconst 1, 1) := by decide +kernel
theorem dX3_spread_77 : decode cX3_spread 77 = .ok (.iload_n 2, 1) := by decide +kernel
theorem dX3_spread_78 : decode cX3_spread 78 = .ok (.isub, 1) := by decide +kernel
theorem dX3_spread_79 : decode cX3_spread 79 = .ok (.imul, 1) := by decide +kernel
theorem dX3_spread_80 : decode cX3_spread 80 = .ok (.invokevirtual 41, 3) := by decide +kernel
theorem dX3_spread_83 : decode cX3_spread 83 = .ok (.return_, 1) := by decide +kernel
set_option maxRecDepth 20000 in
theorem ggX3_spreadBetween_X4_exchanged : GoodIn wsX3_spreadBetween wsX4_exchanged := goodIn_r _ [4] (by decide +kernel) (by decide +kernel)
set_option maxRecDepth 20000 in
theorem gX3_spreadBetween_X4_exchanged_n45 : GoodIn wsX3_spreadBetween (wsX4_exchanged) := ggX3_spreadBetween_X4_exchanged
theorem dX3_spreadBetween_0 : decode cX3_spreadBetween 0 = .ok (.iconst 0, 1) := by decide +kernel
theorem dX3_spreadBetween_1 : decode cX3_spreadBetween 1 = .ok (.istore_n 3, 1) := by decide +kernel
theorem dX3_spreadBetween_2 : decode cX3_spreadBetween 2 = .ok (.iload_n 3, 1) := by decide +kernel
theorem dX3_spreadBetween_3 : decode cX3_spreadBetween 3 = .ok (.bipush 64, 2) := by decide +kernel
theorem dX3_spreadBetween_5 : decode cX3_spreadBetween 5 = .ok (.if_icmp .ge 26, 3) := by decide +kernel
theorem dX3_spreadBetween_8 : decode cX3_spreadBetween 8 = .ok (.aload_n 0, 1) := by decide +kernel
theorem dX3_spreadBetween_9 : decode cX3_spreadBetween 9 = .ok (.getfield 11, 3) := by decide +kernel
theorem dX3_spreadBetween_12 : decode cX3_spreadBetween 12 = .ok (.iload_n 3, 1) := by decide +kernel
theorem dX3_spreadBetween_13 : decode cX3_spreadBetween 13 = .ok (.aload_n 1, 1) := by decide +kernel
theorem dX3_spreadBetween_14 : decode cX3_spreadBetween 14 = .ok (.iload_n 3, 1) := by decide +kernel
theorem dX3_spreadBetween_15 : decode cX3_spreadBetween 15 = .ok (.laload, 1) := by decide +kernel
theorem dX3_spreadBetween_16 : decode cX3_spreadBetween 16 = .ok (.aload_n 1, 1) := by decide +kernel
theorem dX3_spreadBetween_17 : decode cX3_spreadBetween 17 = .ok (.iload_n 3, 1) := by decide +kernel
theorem dX3_spreadBetween_18 : decode cX3_spreadBetween 18 = .ok (.iload_n 2, 1) := by decide +kernel
theorem dX3_spreadBetween_19 : decode cX3_spreadBetween 19 = .ok (.invokestatic 45, 3) := by decide +kernel
theorem dX3_spreadBetween_22 : decode cX3_spreadBetween 22 = .ok (.laload, 1) := by decide +kernel
theorem dX3_spreadBetween_23 : decode cX3_spreadBetween 23 = .ok (.lor, 1) := by decide +kernel
theorem dX3_spreadBetween_24 : decode cX3_spreadBetween 24 = .ok (.lastore, 1) := by decide +kernel
theorem dX3_spreadBetween_25 : decode cX3_spreadBetween 25 = .ok (.iinc 3 1, 3) := by decide +kernel
theorem dX3_spreadBetween_28 : decode cX3_spreadBetween 28 = .ok (.goto (-26), 3) := by decide +kernel
theorem dX3_spreadBetween_31 : decode cX3_spreadBetween 31 = .ok (.return_, 1) := by decide +kernel
theorem dX3_spreadAcross_0 : decode cX3_spreadAcross 0 = .ok (.iconst 0, 1) := by decide +kernel
theorem dX3_spreadAcross_1 : decode cX3_spreadAcross 1 = .ok (.istore_n 2, 1) := by decide +kernel
theorem dX3_spreadAcross_2 : decode cX3_spreadAcross 2 = .ok (.iload_n 2, 1) := by decide +kernel
theorem dX3_spreadAcross_3 : decode cX3_spreadAcross 3 = .ok (.bipush 64, 2) := by decide +kernel
theorem dX3_spreadAcross_5 : decode cX3_spreadAcross 5 = .ok (.if_icmp .ge 69, 3) := by decide +kernel
theorem dX3_spreadAcross_8 : decode cX3_spreadAcross 8 = .ok (.iload_n 2, 1) := by decide +kernel
theorem dX3_spreadAcross_9 : decode cX3_spreadAcross 9 = .ok (.iconst 3, 1) := by decide +kernel
theorem dX3_spreadAcross_10 : decode cX3_spreadAcross 10 = .ok (.iand, 1) := by decide +kernel
theorem dX3_spreadAcross_11 : decode cX3_spreadAcross 11 = .ok (.istore_n 3, 1) := by decide +kernel
theorem dX3_spreadAcross_12 : decode cX3_spreadAcross 12 = .ok (.aload_n 1, 1) := by decide +kernel
theorem dX3_spreadAcross_13 : decode cX3_spreadAcross 13 = .ok (.iload_n 2, 1) := by decide +kernel
theorem dX3_spreadAcross_14 : decode cX3_spreadAcross 14 = .ok (.laload, 1) := by decide +kernel
theorem dX3_spreadAcross_15 : decode cX3_spreadAcross 15 = .ok (.lstore 4, 2) := by decide +kernel
theorem dX3_spreadAcross_17 : decode cX3_spreadAcross 17 = .ok (.iconst 0, 1) := by decide +kernel
theorem dX3_spreadAcross_18 : decode cX3_spreadAcross 18 = .ok (.istore 6, 2) := by decide +kernel
theorem dX3_spreadAcross_20 : decode cX3_spreadAcross 20 = .ok (.iload 6, 2) := by decide +kernel
theorem dX3_spreadAcross_22 : decode cX3_spreadAcross 22 = .ok (.iconst 4, 1) := by decide +kernel
theorem dX3_spreadAcross_23 : decode cX3_spreadAcross 23 = .ok (.if_icmp .ge 37, 3) := by decide +kernel
theorem dX3_spreadAcross_26 : decode cX3_spreadAcross 26 = .ok (.lload 4, 2) := by decide +kernel
theorem dX3_spreadAcross_28 : decode cX3_spreadAcross 28 = .ok (.aload_n 1, 1) := by decide +kernel
theorem dX3_spreadAcross_29 : decode cX3_spreadAcross 29 = .ok (.iload_n 2, 1) := by decide +kernel
theorem dX3_spreadAcross_30 : decode cX3_spreadAcross 30 = .ok (.iload_n 3, 1) := by decide +kernel
theorem dX3_spreadAcross_31 : decode cX3_spreadAcross 31 = .ok (.isub, 1) := by decide +kernel
theorem dX3_spreadAcross_32 : decode cX3_spreadAcross 32 = .ok (.iload 6, 2) := by decide +kernel
theorem dX3_spreadAcross_34 : decode cX3_spreadAcross 34 = .ok (.iadd, 1) := by decide +kernel
theorem dX3_spreadAcross_35 : decode cX3_spreadAcross 35 = .ok (.laload, 1) := by decide +kernel
theorem dX3_spreadAcross_36 : decode cX3_spreadAcross 36 = .ok (.bipush 16, 2) := by decide +kernel
theorem dX3_spreadAcross_38 : decode cX3_spreadAcross 38 = .ok (.iload_n 3, 1) := by decide +kernel
theorem dX3_spreadAcross_39 : decode cX3_spreadAcross 39 = .ok (.imul, 1) := by decide +kernel
theorem dX3_spreadAcross_40 : decode cX3_spreadAcross 40 = .ok (.lushr, 1) := by decide +kernel
theorem dX3_spreadAcross_41 : decode cX3_spreadAcross 41 = .ok (.ldc2_w 21, 3) := by decide +kernel
theorem dX3_spreadAcross_44 : decode cX3_spreadAcross 44 = .ok (.land, 1) := by decide +kernel
theorem dX3_spreadAcross_45 : decode cX3_spreadAcross 45 = .ok (.bipush 16, 2) := by decide +kernel
theorem dX3_spreadAcross_47 : decode cX3_spreadAcross 47 = .ok (.iload 6, 2) := by decide +kernel
theorem dX3_spreadAcross_49 : decode cX3_spreadAcross 49 = .ok (.imul, 1) := by decide +kernel
theorem dX3_spreadAcross_50 : decode cX3_spreadAcross 50 = .ok (.lshl, 1) := by decide +kernel
theorem dX3_spreadAcross_51 : decode cX3_spreadAcross 51 = .ok (.lor, 1) := by decide +kernel
theorem dX3_spreadAcross_52 : decode cX3_spreadAcross 52 = .ok (.lstore 4, 2) := by decide +kernel
theorem dX3_spreadAcross_54 : decode cX3_spreadAcross 54 = .ok (.iinc 6 1, 3) := by decide +kernel
theorem dX3_spreadAcross_57 : decode cX3_spreadAcross 57 = .ok (.goto (-37), 3) := by decide +kernel
theorem dX3_spreadAcross_60 : decode cX3_spreadAcross 60 = .ok (.aload_n 0, 1) := by decide +kernel
theorem dX3_spreadAcross_61 : decode cX3_spreadAcross 61 = .ok (.getfield 11, 3) := by decide +kernel
theorem dX3_spreadAcross_64 : decode cX3_spreadAcross 64 = .ok (.iload_n 2, 1) := by decide +kernel
theorem dX3_spreadAcross_65 : decode cX3_spreadAcross 65 = .ok (.lload 4, 2) := by decide +kernel
theorem dX3_spreadAcross_67 : decode cX3_spreadAcross 67 = .ok (.lastore, 1) := by decide +kernel
theorem dX3_spreadAcross_68 : decode cX3_spreadAcross 68 = .ok (.iinc 2 1, 3) := by decide +kernel
theorem dX3_spreadAcross_71 : decode cX3_spreadAcross 71 = .ok (.goto (-69), 3) := by decide +kernel
theorem dX3_spreadAcross_74 : decode cX3_spreadAcross 74 = .ok (.return_, 1) := by decide +kernel
theorem dX3_spreadInside_0 : decode cX3_spreadInside 0 = .ok (.iconst 0, 1) := by decide +kernel
theorem dX3_spreadInside_1 : decode cX3_spreadInside 1 = .ok (.istore 4, 2) := by decide +kernel
theorem dX3_spreadInside_3 : decode cX3_spreadInside 3 = .ok (.iload 4, 2) := by decide +kernel
theorem dX3_spreadInside_5 : decode cX3_spreadInside 5 = .ok (.bipush 64, 2) := by decide +kernel
theorem dX3_spreadInside_7 : decode cX3_spreadInside 7 = .ok (.if_icmp .ge 78, 3) := by decide +kernel
theorem dX3_spreadInside_10 : decode cX3_spreadInside 10 = .ok (.aload_n 1, 1) := by decide +kernel
theorem dX3_spreadInside_11 : decode cX3_spreadInside 11 = .ok (.iload 4, 2) := by decide +kernel
theorem dX3_spreadInside_13 : decode cX3_spreadInside 13 = .ok (.laload, 1) := by decide +kernel
theorem dX3_spreadInside_14 : decode cX3_spreadInside 14 = .ok (.lstore 5, 2) := by decide +kernel
theorem dX3_spreadInside_16 : decode cX3_spreadInside 16 = .ok (.lload 5, 2) := by decide +kernel
theorem dX3_spreadInside_18 : decode cX3_spreadInside 18 = .ok (.lstore 7, 2) := by decide +kernel
theorem dX3_spreadInside_20 : decode cX3_spreadInside 20 = .ok (.iconst 0, 1) := by decide +kernel
theorem dX3_spreadInside_21 : decode cX3_spreadInside 21 = .ok (.istore 9, 2) := by decide +kernel
theorem dX3_spreadInside_23 : decode cX3_spreadInside 23 = .ok (.iload 9, 2) := by decide +kernel
theorem dX3_spreadInside_25 : decode cX3_spreadInside 25 = .ok (.aload_n 2, 1) := by decide +kernel
theorem dX3_spreadInside_26 : decode cX3_spreadInside 26 = .ok (.arraylength, 1) := by decide +kernel
theorem dX3_spreadInside_27 : decode cX3_spreadInside 27 = .ok (.if_icmp .ge 43, 3) := by decide +kernel
theorem dX3_spreadInside_30 : decode cX3_spreadInside 30 = .ok (.iload_n 3, 1) := by decide +kernel
theorem dX3_spreadInside_31 : decode cX3_spreadInside 31 = .ok (.iload 9, 2) := by decide +kernel
theorem dX3_spreadInside_33 : decode cX3_spreadInside 33 = .ok (.iconst 1, 1) := by decide +kernel
theorem dX3_spreadInside_34 : decode cX3_spreadInside 34 = .ok (.iadd, 1) := by decide +kernel
theorem dX3_spreadInside_35 : decode cX3_spreadInside 35 = .ok (.imul, 1) := by decide +kernel
theorem dX3_spreadInside_36 : decode cX3_spreadInside 36 = .ok (.istore 10, 2) := by decide +kernel
theorem dX3_spreadInside_38 : decode cX3_spreadInside 38 = .ok (.lload 7, 2) := by decide +kernel
theorem dX3_spreadInside_40 : decode cX3_spreadInside 40 = .ok (.lload 5, 2) := by decide +kernel
theorem dX3_spreadInside_42 : decode cX3_spreadInside 42 = .ok (.aload_n 2, 1) := by decide +kernel
theorem dX3_spreadInside_43 : decode cX3_spreadInside 43 = .ok (.iload 9, 2) := by decide +kernel
theorem dX3_spreadInside_45 : decode cX3_spreadInside 45 = .ok (.laload, 1) := by decide +kernel
theorem dX3_spreadInside_46 : decode cX3_spreadInside 46 = .ok (.land, 1) := by decide +kernel
theorem dX3_spreadInside_47 : decode cX3_spreadInside 47 = .ok (.iload 10, 2) := by decide +kernel
theorem dX3_spreadInside_49 : decode cX3_spreadInside 49 = .ok (.lshl, 1) := by decide +kernel
theorem dX3_spreadInside_50 : decode cX3_spreadInside 50 = .ok (.lload 5, 2) := by decide +kernel
theorem dX3_spreadInside_52 : decode cX3_spreadInside 52 = .ok (.iload 10, 2) := by decide +kernel
theorem dX3_spreadInside_54 : decode cX3_spreadInside 54 = .ok (.lushr, 1) := by decide +kernel
theorem dX3_spreadInside_55 : decode cX3_spreadInside 55 = .ok (.aload_n 2, 1) := by decide +kernel
theorem dX3_spreadInside_56 : decode cX3_spreadInside 56 = .ok (.iload 9, 2) := by decide +kernel
theorem dX3_spreadInside_58 : decode cX3_spreadInside 58 = .ok (.laload, 1) := by decide +kernel
theorem dX3_spreadInside_59 : decode cX3_spreadInside 59 = .ok (.land, 1) := by decide +kernel
theorem dX3_spreadInside_60 : decode cX3_spreadInside 60 = .ok (.lor, 1) := by decide +kernel
theorem dX3_spreadInside_61 : decode cX3_spreadInside 61 = .ok (.lor, 1) := by decide +kernel
theorem dX3_spreadInside_62 : decode cX3_spreadInside 62 = .ok (.lstore 7, 2) := by decide +kernel
theorem dX3_spreadInside_64 : decode cX3_spreadInside 64 = .ok (.iinc 9 1, 3) := by decide +kernel
theorem dX3_spreadInside_67 : decode cX3_spreadInside 67 = .ok (.goto (-44), 3) := by decide +kernel
theorem dX3_spreadInside_70 : decode cX3_spreadInside 70 = .ok (.aload_n 0, 1) := by decide +kernel
theorem dX3_spreadInside_71 : decode cX3_spreadInside 71 = .ok (.getfield 11, 3) := by decide +kernel
theorem dX3_spreadInside_74 : decode cX3_spreadInside 74 = .ok (.iload 4, 2) := by decide +kernel
theorem dX3_spreadInside_76 : decode cX3_spreadInside 76 = .ok (.lload 7, 2) := by decide +kernel
theorem dX3_spreadInside_78 : decode cX3_spreadInside 78 = .ok (.lastore, 1) := by decide +kernel
theorem dX3_spreadInside_79 : decode cX3_spreadInside 79 = .ok (.iinc 4 1, 3) := by decide +kernel
theorem dX3_spreadInside_82 : decode cX3_spreadInside 82 = .ok (.goto (-79), 3) := by decide +kernel
theorem dX3_spreadInside_85 : decode cX3_spreadInside 85 = .ok (.return_, 1) := by decide +kernel
theorem dX3_has_0 : decode cX3_has 0 = .ok (.aload_n 0, 1) := by decide +kernel
theorem dX3_has_1 : decode cX3_has 1 = .ok (.getfield 11, 3) := by decide +kernel
theorem dX3_has_4 : decode cX3_has 4 = .ok (.iload_n 1, 1) := by decide +kernel
theorem dX3_has_5 : decode cX3_has 5 = .ok (.bipush 6, 2) := by decide +kernel
theorem dX3_has_7 : decode cX3_has 7 = .ok (.ishr, 1) := by decide +kernel
theorem dX3_has_8 : decode cX3_has 8 = .ok (.laload, 1) := by decide +kernel
theorem dX3_has_9 : decode cX3_has 9 = .ok (.iload_n 1, 1) := by decide +kernel
theorem dX3_has_10 : decode cX3_has 10 = .ok (.bipush 63, 2) := by decide +kernel
theorem dX3_has_12 : decode cX3_has 12 = .ok (.iand, 1) := by decide +kernel
theorem dX3_has_13 : decode cX3_has 13 = .ok (.lushr, 1) := by decide +kernel
theorem dX3_has_14 : decode cX3_has 14 = .ok (.lconst 1, 1) := by decide +kernel
theorem dX3_has_15 : decode cX3_has 15 = .ok (.land, 1) := by decide +kernel
theorem dX3_has_16 : decode cX3_has 16 = .ok (.lconst 0, 1) := by decide +kernel
theorem dX3_has_17 : decode cX3_has 17 = .ok (.lcmp, 1) := by decide +kernel
theorem dX3_has_18 : decode cX3_has 18 = .ok (.ifCond .eq 7, 3) := by decide +kernel
theorem dX3_has_21 : decode cX3_has 21 = .ok (.iconst 1, 1) := by decide +kernel
theorem dX3_has_22 : decode cX3_has 22 = .ok (.goto 4, 3) := by decide +kernel
theorem dX3_has_25 : decode cX3_has 25 = .ok (.iconst 0, 1) := by decide +kernel
theorem dX3_has_26 : decode cX3_has 26 = .ok (.ireturn, 1) := by decide +kernel
set_option maxRecDepth 20000 in
theorem ggX3_countShared_J13_bitCount_95d88 : GoodIn wsX3_countShared wsJ13_bitCount_95d88 := goodIn_r _ [5, 6, 7, 8] (by decide +kernel) (by decide +kernel)
set_option maxRecDepth 20000 in
theorem gX3_countShared_J13_bitCount_95d88 : GoodIn wsX3_countShared (va_wsS RX3 49 yJ13_bitCount_95d88 wsJ13_bitCount_95d88) := goodIn_app (goodIn_of _ (by decide +kernel)) ggX3_countShared_J13_bitCount_95d88
theorem dX3_countShared_0 : decode cX3_countShared 0 = .ok (.iconst 0, 1) := by decide +kernel
theorem dX3_countShared_1 : decode cX3_countShared 1 = .ok (.istore_n 2, 1) := by decide +kernel
theorem dX3_countShared_2 : decode cX3_countShared 2 = .ok (.iconst 0, 1) := by decide +kernel
theorem dX3_countShared_3 : decode cX3_countShared 3 = .ok (.istore_n 3, 1) := by decide +kernel
theorem dX3_countShared_4 : decode cX3_countShared 4 = .ok (.iload_n 3, 1) := by decide +kernel
theorem dX3_countShared_5 : decode cX3_countShared 5 = .ok (.bipush 64, 2) := by decide +kernel
theorem dX3_countShared_7 : decode cX3_countShared 7 = .ok (.if_icmp .ge 28, 3) := by decide +kernel
theorem dX3_countShared_10 : decode cX3_countShared 10 = .ok (.iload_n 2, 1) := by decide +kernel
theorem dX3_countShared_11 : decode cX3_countShared 11 = .ok (.aload_n 0, 1) := by decide +kernel
theorem dX3_countShared_12 : decode cX3_countShared 12 = .ok (.getfield 11, 3) := by decide +kernel
theorem dX3_countShared_15 : decode cX3_countShared 15 = .ok (.iload_n 3, 1) := by decide +kernel
theorem dX3_countShared_16 : decode cX3_countShared 16 = .ok (.laload, 1) := by decide +kernel
theorem dX3_countShared_17 : decode cX3_countShared 17 = .ok (.aload_n 1, 1) := by decide +kernel
theorem dX3_countShared_18 : decode cX3_countShared 18 = .ok (.getfield 11, 3) := by decide +kernel
theorem dX3_countShared_21 : decode cX3_countShared 21 = .ok (.iload_n 3, 1) := by decide +kernel
theorem dX3_countShared_22 : decode cX3_countShared 22 = .ok (.laload, 1) := by decide +kernel
theorem dX3_countShared_23 : decode cX3_countShared 23 = .ok (.land, 1) := by decide +kernel
theorem dX3_countShared_24 : decode cX3_countShared 24 = .ok (.invokestatic 49, 3) := by decide +kernel
theorem dX3_countShared_27 : decode cX3_countShared 27 = .ok (.iadd, 1) := by decide +kernel
theorem dX3_countShared_28 : decode cX3_countShared 28 = .ok (.istore_n 2, 1) := by decide +kernel
theorem dX3_countShared_29 : decode cX3_countShared 29 = .ok (.iinc 3 1, 3) := by decide +kernel
theorem dX3_countShared_32 : decode cX3_countShared 32 = .ok (.goto (-28), 3) := by decide +kernel
theorem dX3_countShared_35 : decode cX3_countShared 35 = .ok (.iload_n 2, 1) := by decide +kernel
theorem dX3_countShared_36 : decode cX3_countShared 36 = .ok (.ireturn, 1) := by decide +kernel
theorem dX3_firstShared_0 : decode cX3_firstShared 0 = .ok (.iconst 0, 1) := by decide +kernel
theorem dX3_firstShared_1 : decode cX3_firstShared 1 = .ok (.istore_n 2, 1) := by decide +kernel
theorem dX3_firstShared_2 : decode cX3_firstShared 2 = .ok (.iload_n 2, 1) := by decide +kernel
theorem dX3_firstShared_3 : decode cX3_firstShared 3 = .ok (.bipush 64, 2) := by decide +kernel
theorem dX3_firstShared_5 : decode cX3_firstShared 5 = .ok (.if_icmp .ge 64, 3) := by decide +kernel
theorem dX3_firstShared_8 : decode cX3_firstShared 8 = .ok (.aload_n 0, 1) := by decide +kernel
theorem dX3_firstShared_9 : decode cX3_firstShared 9 = .ok (.getfield 11, 3) := by decide +kernel
theorem dX3_firstShared_12 : decode cX3_firstShared 12 = .ok (.iload_n 2, 1) := by decide +kernel
theorem dX3_firstShared_13 : decode cX3_firstShared 13 = .ok (.laload, 1) := by decide +kernel
theorem dX3_firstShared_14 : decode cX3_firstShared 14 = .ok (.aload_n 1, 1) := by decide +kernel
theorem dX3_firstShared_15 : decode cX3_firstShared 15 = .ok (.getfield 11, 3) := by decide +kernel
theorem dX3_firstShared_18 : decode cX3_firstShared 18 = .ok (.iload_n 2, 1) := by decide +kernel
theorem dX3_firstShared_19 : decode cX3_firstShared 19 = .ok (.laload, 1) := by decide +kernel
theorem dX3_firstShared_20 : decode cX3_firstShared 20 = .ok (.land, 1) := by decide +kernel
theorem dX3_firstShared_21 : decode cX3_firstShared 21 = .ok (.lstore_n 3, 1) := by decide +kernel
theorem dX3_firstShared_22 : decode cX3_firstShared 22 = .ok (.iconst 0, 1) := by decide +kernel
theorem dX3_firstShared_23 : decode cX3_firstShared 23 = .ok (.istore 5, 2) := by decide +kernel
theorem dX3_firstShared_25 : decode cX3_firstShared 25 = .ok (.lload_n 3, 1) := by decide +kernel
theorem dX3_firstShared_26 : decode cX3_firstShared 26 = .ok (.lconst 0, 1) := by decide +kernel
theorem dX3_firstShared_27 : decode cX3_firstShared 27 = .ok (.lcmp, 1) := by decide +kernel
theorem dX3_firstShared_28 : decode cX3_firstShared 28 = .ok (.ifCond .eq 35, 3) := by decide +kernel
theorem dX3_firstShared_31 : decode cX3_firstShared 31 = .ok (.iload 5, 2) := by decide +kernel
theorem dX3_firstShared_33 : decode cX3_firstShared 33 = .ok (.bipush 64, 2) := by decide +kernel
theorem dX3_firstShared_35 : decode cX3_firstShared 35 = .ok (.if_icmp .ge 28, 3) := by decide +kernel
theorem dX3_firstShared_38 : decode cX3_firstShared 38 = .ok (.lload_n 3, 1) := by decide +kernel
theorem dX3_firstShared_39 : decode cX3_firstShared 39 = .ok (.iload 5, 2) := by decide +kernel
theorem dX3_firstShared_41 : decode cX3_firstShared 41 = .ok (.lushr, 1) := by decide +kernel
theorem dX3_firstShared_42 : decode cX3_firstShared 42 = .ok (.lconst 1, 1) := by decide +kernel
theorem dX3_firstShared_43 : decode cX3_firstShared 43 = .ok (.land, 1) := by decide +kernel
theorem dX3_firstShared_44 : decode cX3_firstShared 44 = .ok (.lconst 0, 1) := by decide +kernel
theorem dX3_firstShared_45 : decode cX3_firstShared 45 = .ok (.lcmp, 1) := by decide +kernel
theorem dX3_firstShared_46 : decode cX3_firstShared 46 = .ok (.ifCond .eq 11, 3) := by decide +kernel
theorem dX3_firstShared_49 : decode cX3_firstShared 49 = .ok (.bipush 64, 2) := by decide +kernel
theorem dX3_firstShared_51 : decode cX3_firstShared 51 = .ok (.iload_n 2, 1) := by decide +kernel
theorem dX3_firstShared_52 : decode cX3_firstShared 52 = .ok (.imul, 1) := by decide +kernel
theorem dX3_firstShared_53 : decode cX3_firstShared 53 = .ok (.iload 5, 2) := by decide +kernel
theorem dX3_firstShared_55 : decode cX3_firstShared 55 = .ok (.iadd, 1) := by decide +kernel
theorem dX3_firstShared_56 : decode cX3_firstShared 56 = .ok (.ireturn, 1) := by decide +kernel
theorem dX3_firstShared_57 : decode cX3_firstShared 57 = .ok (.iinc 5 1, 3) := by decide +kernel
theorem dX3_firstShared_60 : decode cX3_firstShared 60 = .ok (.goto (-35), 3) := by decide +kernel
theorem dX3_firstShared_63 : decode cX3_firstShared 63 = .ok (.iinc 2 1, 3) := by decide +kernel
theorem dX3_firstShared_66 : decode cX3_firstShared 66 = .ok (.goto (-64), 3) := by decide +kernel
theorem dX3_firstShared_69 : decode cX3_firstShared 69 = .ok (.iconst (-1), 1) := by decide +kernel
theorem dX3_firstShared_70 : decode cX3_firstShared 70 = .ok (.ireturn, 1) := by decide +kernel
set_option maxRecDepth 20000 in
theorem ggX4_init_X1_init : GoodIn wsX4_init wsX1_init := goodIn_r _ [20, 21, 2, 3, 22, 23, 24, 25, 26, 27, 28, 29, 30, 31, 32, 33, 34, 35, 36, 66, 67, 68, 69, 70, 71, 90] (by decide +kernel) (by decide +kernel)
set_option maxRecDepth 20000 in
theorem gX4_init_X1_init : GoodIn wsX4_init (wsX1_init) := ggX4_init_X1_init
set_option maxRecDepth 20000 in
theorem ggX4_init_X0_init : GoodIn wsX4_init wsX0_init := goodIn_r _ [38, 39, 2, 3, 22, 40, 41, 42, 43, 44, 45, 46, 47, 72, 73, 74, 75, 76, 77, 78, 79] (by decide +kernel) (by decide +kernel)
set_option maxRecDepth 20000 in
theorem gX4_init_X0_init_n35 : GoodIn wsX4_init (wsX0_init) := ggX4_init_X0_init
set_option maxRecDepth 20000 in
theorem ggX4_init_X2_init : GoodIn wsX4_init wsX2_init := goodIn_r _ [49, 50, 2, 3, 22, 51, 52, 53, 54, 55, 56, 57, 58, 59, 60, 80, 81, 82, 83, 84, 85, 86, 87, 88, 89] (by decide +kernel) (by decide +kernel)
set_option maxRecDepth 20000 in
theorem gX4_init_X2_init_n36 : GoodIn wsX4_init (wsX2_init) := ggX4_init_X2_init
theorem dX4_init_0 : decode cX4_init 0 = .ok (.aload_n 0, 1) := by decide +kernel
theorem dX4_init_1 : decode cX4_init 1 = .ok (.invokespecial 3, 3) := by decide +kernel
theorem dX4_init_4 : decode cX4_init 4 = .ok (.aload_n 0, 1) := by decide +kernel
theorem dX4_init_5 : decode cX4_init 5 = .ok (.bipush 8, 2) := by decide +kernel
theorem dX4_init_7 : decode cX4_init 7 = .ok (.anewarray 9, 3) := by decide +kernel
theorem dX4_init_10 : decode cX4_init 10 = .ok (.putfield 11, 3) := by decide +kernel
theorem dX4_init_13 : decode cX4_init 13 = .ok (.aload_n 0, 1) := by decide +kernel
theorem dX4_init_14 : decode cX4_init 14 = .ok (.bipush 8, 2) := by decide +kernel
theorem dX4_init_16 : decode cX4_init 16 = .ok (.anewarray 15, 3) := by decide +kernel
theorem dX4_init_19 : decode cX4_init 19 = .ok (.putfield 17, 3) := by decide +kernel
theorem dX4_init_22 : decode cX4_init 22 = .ok (.aload_n 0, 1) := by decide +kernel
theorem dX4_init_23 : decode cX4_init 23 = .ok (.new 21, 3) := by decide +kernel
theorem dX4_init_26 : decode cX4_init 26 = .ok (.dup, 1) := by decide +kernel
theorem dX4_init_27 : decode cX4_init 27 = .ok (.invokespecial 23, 3) := by decide +kernel
theorem dX4_init_30 : decode cX4_init 30 = .ok (.putfield 24, 3) := by decide +kernel
theorem dX4_init_33 : decode cX4_init 33 = .ok (.aload_n 0, 1) := by decide +kernel
theorem dX4_init_34 : decode cX4_init 34 = .ok (.iconst 0, 1) := by decide +kernel
theorem dX4_init_35 : decode cX4_init 35 = .ok (.putfield 28, 3) := by decide +kernel
theorem dX4_init_38 : decode cX4_init 38 = .ok (.aload_n 0, 1) := by decide +kernel
theorem dX4_init_39 : decode cX4_init 39 = .ok (.iconst 0, 1) := by decide +kernel
theorem dX4_init_40 : decode cX4_init 40 = .ok (.putfield 32, 3) := by decide +kernel
theorem dX4_init_43 : decode cX4_init 43 = .ok (.iconst 0, 1) := by decide +kernel
theorem dX4_init_44 : decode cX4_init 44 = .ok (.istore_n 1, 1) := by decide +kernel
theorem dX4_init_45 : decode cX4_init 45 = .ok (.iload_n 1, 1) := by decide +kernel
theorem dX4_init_46 : decode cX4_init 46 = .ok (.bipush 8, 2) := by decide +kernel
theorem dX4_init_48 : decode cX4_init 48 = .ok (.if_icmp .ge 22, 3) := by decide +kernel
theorem dX4_init_51 : decode cX4_init 51 = .ok (.aload_n 0, 1) := by decide +kernel
theorem dX4_init_52 : decode cX4_init 52 = .ok (.getfield 11, 3) := by decide +kernel
theorem dX4_init_55 : decode cX4_init 55 = .ok (.iload_n 1, 1) := by decide +kernel
theorem dX4_init_56 : decode cX4_init 56 = .ok (.new 9, 3) := by decide +kernel
theorem dX4_init_59 : decode cX4_init 59 = .ok (.dup, 1) := by decide +kernel
theorem dX4_init_60 : decode cX4_init 60 = .ok (.invokespecial 35, 3) := by decide +kernel
theorem dX4_init_63 : decode cX4_init 63 = .ok (.aastore, 1) := by decide +kernel
theorem dX4_init_64 : decode cX4_init 64 = .ok (.iinc 1 1, 3) := by decide +kernel
theorem dX4_init_67 : decode cX4_init 67 = .ok (.goto (-22), 3) := by decide +kernel
theorem dX4_init_70 : decode cX4_init 70 = .ok (.iconst 0, 1) := by decide +kernel
theorem dX4_init_71 : decode cX4_init 71 = .ok (.istore_n 1, 1) := by decide +kernel
theorem dX4_init_72 : decode cX4_init 72 = .ok (.iload_n 1, 1) := by decide +kernel
theorem dX4_init_73 : decode cX4_init 73 = .ok (.bipush 8, 2) := by decide +kernel
theorem dX4_init_75 : decode cX4_init 75 = .ok (.if_icmp .ge 22, 3) := by decide +kernel
theorem dX4_init_78 : decode cX4_init 78 = .ok (.aload_n 0, 1) := by decide +kernel
theorem dX4_init_79 : decode cX4_init 79 = .ok (.getfield 17, 3) := by decide +kernel
theorem dX4_init_82 : decode cX4_init 82 = .ok (.iload_n 1, 1) := by decide +kernel
theorem dX4_init_83 : decode cX4_init 83 = .ok (.new 15, 3) := by decide +kernel
theorem dX4_init_86 : decode cX4_init 86 = .ok (.dup, 1) := by decide +kernel
theorem dX4_init_87 : decode cX4_init 87 = .ok (.invokespecial 36, 3) := by decide +kernel
theorem dX4_init_90 : decode cX4_init 90 = .ok (.aastore, 1) := by decide +kernel
theorem dX4_init_91 : decode cX4_init 91 = .ok (.iinc 1 1, 3) := by decide +kernel
theorem dX4_init_94 : decode cX4_init 94 = .ok (.goto (-22), 3) := by decide +kernel
theorem dX4_init_97 : decode cX4_init 97 = .ok (.return_, 1) := by decide +kernel
set_option maxRecDepth 20000 in
theorem ggX4_band_X4_mayBeThreads : GoodIn wsX4_band wsX4_mayBeThreads := goodIn_r _ [6] (by decide +kernel) (by decide +kernel)
set_option maxRecDepth 20000 in
theorem gX4_band_X4_mayBeThreads : GoodIn wsX4_band (va_wsS RX4 37 yX4_mayBeThreads wsX4_mayBeThreads) := goodIn_app (goodIn_of _ (by decide +kernel)) ggX4_band_X4_mayBeThreads
theorem dX4_band_0 : decode cX4_band 0 = .ok (.aload_n 0, 1) := by decide +kernel
theorem dX4_band_1 : decode cX4_band 1 = .ok (.getfield 28, 3) := by decide +kernel
theorem dX4_band_4 : decode cX4_band 4 = .ok (.bipush 8, 2) := by decide +kernel
theorem dX4_band_6 : decode cX4_band 6 = .ok (.if_icmp .ge 10, 3) := by decide +kernel
theorem dX4_band_9 : decode cX4_band 9 = .ok (.iload_n 1, 1) := by decide +kernel
theorem dX4_band_10 : decode cX4_band 10 = .ok (.invokestatic 37, 3) := by decide +kernel
theorem dX4_band_13 : decode cX4_band 13 = .ok (.ifCond .ne 5, 3) := by decide +kernel
theorem dX4_band_16 : decode cX4_band 16 = .ok (.iconst (-1), 1) := by decide +kernel
theorem dX4_band_17 : decode cX4_band 17 = .ok (.ireturn, 1) := by decide +kernel
theorem dX4_band_18 : decode cX4_band 18 = .ok (.aload_n 0, 1) := by decide +kernel
theorem dX4_band_19 : decode cX4_band 19 = .ok (.getfield 11, 3) := by decide +kernel
theorem dX4_band_22 : decode cX4_band 22 = .ok (.aload_n 0, 1) := by decide +kernel
theorem dX4_band_23 : decode cX4_band 23 = .ok (.getfield 28, 3) := by decide +kernel
theorem dX4_band_26 : decode cX4_band 26 = .ok (.aaload, 1) := by decide +kernel
theorem dX4_band_27 : decode cX4_band 27 = .ok (.iload_n 1, 1) := by decide +kernel
theorem dX4_band_28 : decode cX4_band 28 = .ok (.putfield 41, 3) := by decide +kernel
theorem dX4_band_31 : decode cX4_band 31 = .ok (.aload_n 0, 1) := by decide +kernel
theorem dX4_band_32 : decode cX4_band 32 = .ok (.dup, 1) := by decide +kernel
theorem dX4_band_33 : decode cX4_band 33 = .ok (.getfield 28, 3) := by decide +kernel
theorem dX4_band_36 : decode cX4_band 36 = .ok (.dup_x1, 1) := by decide +kernel
theorem dX4_band_37 : decode cX4_band 37 = .ok (.iconst 1, 1) := by decide +kernel
theorem dX4_band_38 : decode cX4_band 38 = .ok (.iadd, 1) := by decide +kernel
theorem dX4_band_39 : decode cX4_band 39 = .ok (.putfield 28, 3) := by decide +kernel
theorem dX4_band_42 : decode cX4_band 42 = .ok (.ireturn, 1) := by decide +kernel
set_option maxRecDepth 20000 in
theorem ggX4_colour_X4_bandAt : GoodIn wsX4_colour wsX4_bandAt := goodIn_ca (goodIn_r _ [5, 6, 7, 8, 9, 4, 10, 11, 12, 26, 27, 28, 29, 30] (by decide +kernel) (by decide +kernel)) (goodIn_sub (fun _ h => List.mem_cons_of_mem _ (List.mem_append_left _ (List.mem_append_right _ h))) (by decide +kernel))
set_option maxRecDepth 20000 in
theorem gX4_colour_X4_bandAt : GoodIn wsX4_colour (wsV RX4 44 RX4 yX4_bandAt wsX4_bandAt) := goodIn_app (goodIn_of _ (by decide +kernel)) ggX4_colour_X4_bandAt
set_option maxRecDepth 20000 in
theorem ggX4_colour_X4_needElement : GoodIn wsX4_colour wsX4_needElement := goodIn_ca (goodIn_r _ [10, 11, 12] (by decide +kernel) (by decide +kernel)) (goodIn_sub (fun _ h => List.mem_cons_of_mem _ (List.mem_append_left _ (List.mem_append_right _ h))) (by decide +kernel))
set_option maxRecDepth 20000 in
theorem gX4_colour_X4_needElement : GoodIn wsX4_colour (va_wsS RX4 48 yX4_needElement wsX4_needElement) := goodIn_app (goodIn_of _ (by decide +kernel)) ggX4_colour_X4_needElement
set_option maxRecDepth 20000 in
theorem ggX4_colour_X4_needArgument : GoodIn wsX4_colour wsX4_needArgument := goodIn_ca (goodIn_r _ [15, 16, 17] (by decide +kernel) (by decide +kernel)) (goodIn_sub (fun _ h => List.mem_cons_of_mem _ (List.mem_append_right _ h)) (by decide +kernel))
set_option maxRecDepth 20000 in
theorem gX4_colour_X4_needArgument : GoodIn wsX4_colour (va_wsS RX4 52 yX4_needArgument wsX4_needArgument) := goodIn_app (goodIn_of _ (by decide +kernel)) ggX4_colour_X4_needArgument
theorem dX4_colour_0 : decode cX4_colour 0 = .ok (.aload_n 0, 1) := by decide +kernel
theorem dX4_colour_1 : decode cX4_colour 1 = .ok (.iload_n 1, 1) := by decide +kernel
theorem dX4_colour_2 : decode cX4_colour 2 = .ok (.invokevirtual 44, 3) := by decide +kernel
theorem dX4_colour_5 : decode cX4_colour 5 = .ok (.astore 4, 2) := by decide +kernel
theorem dX4_colour_7 : decode cX4_colour 7 = .ok (.iload_n 2, 1) := by decide +kernel
theorem dX4_colour_8 : decode cX4_colour 8 = .ok (.aload 4, 2) := by decide +kernel
theorem dX4_colour_10 : decode cX4_colour 10 = .ok (.getfield 41, 3) := by decide +kernel
theorem dX4_colour_13 : decode cX4_colour 13 = .ok (.invokestatic 48, 3) := by decide +kernel
theorem dX4_colour_16 : decode cX4_colour 16 = .ok (.iload_n 3, 1) := by decide +kernel
theorem dX4_colour_17 : decode cX4_colour 17 = .ok (.iconst 4, 1) := by decide +kernel
theorem dX4_colour_18 : decode cX4_colour 18 = .ok (.invokestatic 52, 3) := by decide +kernel
theorem dX4_colour_21 : decode cX4_colour 21 = .ok (.aload 4, 2) := by decide +kernel
theorem dX4_colour_23 : decode cX4_colour 23 = .ok (.getfield 55, 3) := by decide +kernel
theorem dX4_colour_26 : decode cX4_colour 26 = .ok (.iload_n 2, 1) := by decide +kernel
theorem dX4_colour_27 : decode cX4_colour 27 = .ok (.iaload, 1) := by decide +kernel
theorem dX4_colour_28 : decode cX4_colour 28 = .ok (.istore 5, 2) := by decide +kernel
theorem dX4_colour_30 : decode cX4_colour 30 = .ok (.aload 4, 2) := by decide +kernel
theorem dX4_colour_32 : decode cX4_colour 32 = .ok (.getfield 55, 3) := by decide +kernel
theorem dX4_colour_35 : decode cX4_colour 35 = .ok (.iload_n 2, 1) := by decide +kernel
theorem dX4_colour_36 : decode cX4_colour 36 = .ok (.iload_n 3, 1) := by decide +kernel
theorem dX4_colour_37 : decode cX4_colour 37 = .ok (.iastore, 1) := by decide +kernel
theorem dX4_colour_38 : decode cX4_colour 38 = .ok (.iload 5, 2) := by decide +kernel
theorem dX4_colour_40 : decode cX4_colour 40 = .ok (.ireturn, 1) := by decide +kernel
set_option maxRecDepth 20000 in
theorem ggX4_row_X4_bandAt : GoodIn wsX4_row wsX4_bandAt := goodIn_ca (goodIn_r _ [5, 6, 7, 8, 9, 4, 10, 11, 12, 21, 22, 23, 24, 25] (by decide +kernel) (by decide +kernel)) (goodIn_sub (fun _ h => List.mem_cons_of_mem _ (List.mem_append_right _ h)) (by decide +kernel))
set_option maxRecDepth 20000 in
theorem gX4_row_X4_bandAt : GoodIn wsX4_row (wsV RX4 44 RX4 yX4_bandAt wsX4_bandAt) := goodIn_app (goodIn_of _ (by decide +kernel)) ggX4_row_X4_bandAt
theorem dX4_row_0 : decode cX4_row 0 = .ok (.aload_n 0, 1) := by decide +kernel
theorem dX4_row_1 : decode cX4_row 1 = .ok (.iload_n 1, 1) := by decide +kernel
theorem dX4_row_2 : decode cX4_row 2 = .ok (.invokevirtual 44, 3) := by decide +kernel
theorem dX4_row_5 : decode cX4_row 5 = .ok (.astore_n 3, 1) := by decide +kernel
theorem dX4_row_6 : decode cX4_row 6 = .ok (.aload_n 3, 1) := by decide +kernel
theorem dX4_row_7 : decode cX4_row 7 = .ok (.getfield 59, 3) := by decide +kernel
theorem dX4_row_10 : decode cX4_row 10 = .ok (.bipush 16, 2) := by decide +kernel
theorem dX4_row_12 : decode cX4_row 12 = .ok (.if_icmp .lt 5, 3) := by decide +kernel
theorem dX4_row_15 : decode cX4_row 15 = .ok (.iconst (-1), 1) := by decide +kernel
theorem dX4_row_16 : decode cX4_row 16 = .ok (.ireturn, 1) := by decide +kernel
theorem dX4_row_17 : decode cX4_row 17 = .ok (.aload_n 3, 1) := by decide +kernel
theorem dX4_row_18 : decode cX4_row 18 = .ok (.getfield 62, 3) := by decide +kernel
theorem dX4_row_21 : decode cX4_row 21 = .ok (.aload_n 3, 1) := by decide +kernel
theorem dX4_row_22 : decode cX4_row 22 = .ok (.getfield 59, 3) := by decide +kernel
theorem dX4_row_25 : decode cX4_row 25 = .ok (.iload_n 2, 1) := by decide +kernel
theorem dX4_row_26 : decode cX4_row 26 = .ok (.iastore, 1) := by decide +kernel
theorem dX4_row_27 : decode cX4_row 27 = .ok (.aload_n 3, 1) := by decide +kernel
theorem dX4_row_28 : decode cX4_row 28 = .ok (.dup, 1) := by decide +kernel
theorem dX4_row_29 : decode cX4_row 29 = .ok (.getfield 59, 3) := by decide +kernel
theorem dX4_row_32 : decode cX4_row 32 = .ok (.iconst 1, 1) := by decide +kernel
theorem dX4_row_33 : decode cX4_row 33 = .ok (.iadd, 1) := by decide +kernel
theorem dX4_row_34 : decode cX4_row 34 = .ok (.putfield 59, 3) := by decide +kernel
theorem dX4_row_37 : decode cX4_row 37 = .ok (.aload_n 3, 1) := by decide +kernel
theorem dX4_row_38 : decode cX4_row 38 = .ok (.getfield 59, 3) := by decide +kernel
theorem dX4_row_41 : decode cX4_row 41 = .ok (.ireturn, 1) := by decide +kernel
set_option maxRecDepth 20000 in
theorem ggX4_knot_X4_bandAt : GoodIn wsX4_knot wsX4_bandAt := goodIn_ca (goodIn_r _ [5, 6, 7, 8, 9, 4, 10, 11, 12, 35, 36, 37, 38, 39] (by decide +kernel) (by decide +kernel)) (goodIn_sub (fun _ h => List.mem_cons_of_mem _ (List.mem_append_left _ (List.mem_append_right _ h))) (by decide +kernel))
set_option maxRecDepth 20000 in
theorem gX4_knot_X4_bandAt : GoodIn wsX4_knot (wsV RX4 44 RX4 yX4_bandAt wsX4_bandAt) := goodIn_app (goodIn_of _ (by decide +kernel)) ggX4_knot_X4_bandAt
set_option maxRecDepth 20000 in
theorem ggX4_knot_X4_needElement : GoodIn wsX4_knot wsX4_needElement := goodIn_ca (goodIn_r _ [10, 11, 12] (by decide +kernel) (by decide +kernel)) (goodIn_sub (fun _ h => List.mem_cons_of_mem _ (List.mem_append_left _ (List.mem_append_right _ h))) (by decide +kernel))
set_option maxRecDepth 20000 in
theorem gX4_knot_X4_needElement : GoodIn wsX4_knot (va_wsS RX4 48 yX4_needElement wsX4_needElement) := goodIn_app (goodIn_of _ (by decide +kernel)) ggX4_knot_X4_needElement
set_option maxRecDepth 20000 in
theorem ggX4_knot_X4_knotsIn : GoodIn wsX4_knot wsX4_knotsIn := goodIn_r _ [15] (by decide +kernel) (by decide +kernel)
set_option maxRecDepth 20000 in
theorem gX4_knot_X4_knotsIn : GoodIn wsX4_knot (va_wsS RX4 65 yX4_knotsIn wsX4_knotsIn) := goodIn_app (goodIn_of _ (by decide +kernel)) ggX4_knot_X4_knotsIn
set_option maxRecDepth 20000 in
theorem ggX4_knot_X4_kindIn : GoodIn wsX4_knot wsX4_kindIn := goodIn_r _ [18] (by decide +kernel) (by decide +kernel)
set_option maxRecDepth 20000 in
theorem gX4_knot_X4_kindIn : GoodIn wsX4_knot (va_wsS RX4 69 yX4_kindIn wsX4_kindIn) := goodIn_app (goodIn_of _ (by decide +kernel)) ggX4_knot_X4_kindIn
set_option maxRecDepth 20000 in
theorem ggX4_knot_X4_needArgument : GoodIn wsX4_knot wsX4_needArgument := goodIn_ca (goodIn_r _ [21, 22, 23] (by decide +kernel) (by decide +kernel)) (goodIn_sub (fun _ h => List.mem_cons_of_mem _ (List.mem_append_right _ h)) (by decide +kernel))
set_option maxRecDepth 20000 in
theorem gX4_knot_X4_needArgument : GoodIn wsX4_knot (va_wsS RX4 52 yX4_needArgument wsX4_needArgument) := goodIn_app (goodIn_of _ (by decide +kernel)) ggX4_knot_X4_needArgument
set_option maxRecDepth 20000 in
theorem ggX4_knot_X4_withKind : GoodIn wsX4_knot wsX4_withKind := goodIn_r _ [26] (by decide +kernel) (by decide +kernel)
set_option maxRecDepth 20000 in
theorem gX4_knot_X4_withKind : GoodIn wsX4_knot (va_wsS RX4 72 yX4_withKind wsX4_withKind) := goodIn_app (goodIn_of _ (by decide +kernel)) ggX4_knot_X4_withKind
theorem dX4_knot_0 : decode cX4_knot 0 = .ok (.aload_n 0, 1) := by decide +kernel
theorem dX4_knot_1 : decode cX4_knot 1 = .ok (.iload_n 1, 1) := by decide +kernel
theorem dX4_knot_2 : decode cX4_knot 2 = .ok (.invokevirtual 44, 3) := by decide +kernel
theorem dX4_knot_5 : decode cX4_knot 5 = .ok (.astore 5, 2) := by decide +kernel
theorem dX4_knot_7 : decode cX4_knot 7 = .ok (.iload_n 2, 1) := by decide +kernel
theorem dX4_knot_8 : decode cX4_knot 8 = .ok (.aload 5, 2) := by decide +kernel
theorem dX4_knot_10 : decode cX4_knot 10 = .ok (.getfield 59, 3) := by decide +kernel
theorem dX4_knot_13 : decode cX4_knot 13 = .ok (.invokestatic 48, 3) := by decide +kernel
theorem dX4_knot_16 : decode cX4_knot 16 = .ok (.iload_n 3, 1) := by decide +kernel
theorem dX4_knot_17 : decode cX4_knot 17 = .ok (.aload 5, 2) := by decide +kernel
theorem dX4_knot_19 : decode cX4_knot 19 = .ok (.getfield 41, 3) := by decide +kernel
theorem dX4_knot_22 : decode cX4_knot 22 = .ok (.iload_n 2, 1) := by decide +kernel
theorem dX4_knot_23 : decode cX4_knot 23 = .ok (.invokestatic 65, 3) := by decide +kernel
theorem dX4_knot_26 : decode cX4_knot 26 = .ok (.invokestatic 48, 3) := by decide +kernel
theorem dX4_knot_29 : decode cX4_knot 29 = .ok (.aload 5, 2) := by decide +kernel
theorem dX4_knot_31 : decode cX4_knot 31 = .ok (.getfield 62, 3) := by decide +kernel
theorem dX4_knot_34 : decode cX4_knot 34 = .ok (.iload_n 2, 1) := by decide +kernel
theorem dX4_knot_35 : decode cX4_knot 35 = .ok (.iaload, 1) := by decide +kernel
theorem dX4_knot_36 : decode cX4_knot 36 = .ok (.iload_n 3, 1) := by decide +kernel
theorem dX4_knot_37 : decode cX4_knot 37 = .ok (.invokestatic 69, 3) := by decide +kernel
theorem dX4_knot_40 : decode cX4_knot 40 = .ok (.istore 6, 2) := by decide +kernel
theorem dX4_knot_42 : decode cX4_knot 42 = .ok (.iload 4, 2) := by decide +kernel
theorem dX4_knot_44 : decode cX4_knot 44 = .ok (.iconst (-1), 1) := by decide +kernel
theorem dX4_knot_45 : decode cX4_knot 45 = .ok (.if_icmp .eq 29, 3) := by decide +kernel
theorem dX4_knot_48 : decode cX4_knot 48 = .ok (.iload 4, 2) := by decide +kernel
theorem dX4_knot_50 : decode cX4_knot 50 = .ok (.iconst 4, 1) := by decide +kernel
theorem dX4_knot_51 : decode cX4_knot 51 = .ok (.invokestatic 52, 3) := by decide +kernel
theorem dX4_knot_54 : decode cX4_knot 54 = .ok (.aload 5, 2) := by decide +kernel
theorem dX4_knot_56 : decode cX4_knot 56 = .ok (.getfield 62, 3) := by decide +kernel
theorem dX4_knot_59 : decode cX4_knot 59 = .ok (.iload_n 2, 1) := by decide +kernel
theorem dX4_knot_60 : decode cX4_knot 60 = .ok (.aload 5, 2) := by decide +kernel
theorem dX4_knot_62 : decode cX4_knot 62 = .ok (.getfield 62, 3) := by decide +kernel
theorem dX4_knot_65 : decode cX4_knot 65 = .ok (.iload_n 2, 1) := by decide +kernel
theorem dX4_knot_66 : decode cX4_knot 66 = .ok (.iaload, 1) := by decide +kernel
theorem dX4_knot_67 : decode cX4_knot 67 = .ok (.iload_n 3, 1) := by decide +kernel
theorem dX4_knot_68 : decode cX4_knot 68 = .ok (.iload 4, 2) := by decide +kernel
theorem dX4_knot_70 : decode cX4_knot 70 = .ok (.invokestatic 72, 3) := by decide +kernel
theorem dX4_knot_73 : decode cX4_knot 73 = .ok (.iastore, 1) := by decide +kernel
theorem dX4_knot_74 : decode cX4_knot 74 = .ok (.iload 6, 2) := by decide +kernel
theorem dX4_knot_76 : decode cX4_knot 76 = .ok (.ireturn, 1) := by decide +kernel
set_option maxRecDepth 20000 in
theorem ggX4_shows_X4_bandAt : GoodIn wsX4_shows wsX4_bandAt := goodIn_ca (goodIn_r _ [5, 6, 7, 8, 9, 4, 10, 11, 12, 48, 49, 50, 51, 52] (by decide +kernel) (by decide +kernel)) (goodIn_sub (fun _ h => List.mem_cons_of_mem _ (List.mem_append_right _ h)) (by decide +kernel))
set_option maxRecDepth 20000 in
theorem gX4_shows_X4_bandAt : GoodIn wsX4_shows (wsV RX4 44 RX4 yX4_bandAt wsX4_bandAt) := goodIn_app (goodIn_of _ (by decide +kernel)) ggX4_shows_X4_bandAt
set_option maxRecDepth 20000 in
theorem ggX4_shows_X4_needElement : GoodIn wsX4_shows wsX4_needElement := goodIn_ca (goodIn_r _ [10, 11, 12] (by decide +kernel) (by decide +kernel)) (goodIn_sub (fun _ h => List.mem_cons_of_mem _ (List.mem_append_right _ h)) (by decide +kernel))
set_option maxRecDepth 20000 in
theorem gX4_shows_X4_needElement : GoodIn wsX4_shows (va_wsS RX4 48 yX4_needElement wsX4_needElement) := goodIn_app (goodIn_of _ (by decide +kernel)) ggX4_shows_X4_needElement
set_option maxRecDepth 20000 in
theorem ggX4_shows_X4_knotsIn : GoodIn wsX4_shows wsX4_knotsIn := goodIn_r _ [15] (by decide +kernel) (by decide +kernel)
set_option maxRecDepth 20000 in
theorem gX4_shows_X4_knotsIn : GoodIn wsX4_shows (va_wsS RX4 65 yX4_knotsIn wsX4_knotsIn) := goodIn_app (goodIn_of _ (by decide +kernel)) ggX4_shows_X4_knotsIn
set_option maxRecDepth 20000 in
theorem ggX4_shows_X0_walk : GoodIn wsX4_shows wsX0_walk := goodIn_r _ [20, 21, 22, 23, 14, 4, 15, 24, 25, 26, 19, 27, 28, 29, 30, 31, 32, 33, 34, 35, 36, 37, 38, 40, 41, 42, 43, 44, 45, 46, 47] (by decide +kernel) (by decide +kernel)
set_option maxRecDepth 20000 in
theorem gX4_shows_X0_walk : GoodIn wsX4_shows (wsV RX4 76 RX0 yX0_walk wsX0_walk) := goodIn_app (goodIn_of _ (by decide +kernel)) ggX4_shows_X0_walk
set_option maxRecDepth 20000 in
theorem ggX4_shows_X4_spotOf : GoodIn wsX4_shows wsX4_spotOf := goodIn_r _ [38] (by decide +kernel) (by decide +kernel)
set_option maxRecDepth 20000 in
theorem gX4_shows_X4_spotOf : GoodIn wsX4_shows (va_wsS RX4 83 yX4_spotOf wsX4_spotOf) := goodIn_app (goodIn_of _ (by decide +kernel)) ggX4_shows_X4_spotOf
theorem dX4_shows_0 : decode cX4_shows 0 = .ok (.aload_n 0, 1) := by decide +kernel
theorem dX4_shows_1 : decode cX4_shows 1 = .ok (.iload_n 1, 1) := by decide +kernel
theorem dX4_shows_2 : decode cX4_shows 2 = .ok (.invokevirtual 44, 3) := by decide +kernel
theorem dX4_shows_5 : decode cX4_shows 5 = .ok (.astore 4, 2) := by decide +kernel
theorem dX4_shows_7 : decode cX4_shows 7 = .ok (.iload_n 2, 1) := by decide +kernel
theorem dX4_shows_8 : decode cX4_shows 8 = .ok (.aload 4, 2) := by decide +kernel
theorem dX4_shows_10 : decode cX4_shows 10 = .ok (.getfield 59, 3) := by decide +kernel
theorem dX4_shows_13 : decode cX4_shows 13 = .ok (.invokestatic 48, 3) := by decide +kernel
theorem dX4_shows_16 : decode cX4_shows 16 = .ok (.iload_n 3, 1) := by decide +kernel
theorem dX4_shows_17 : decode cX4_shows 17 = .ok (.aload 4, 2) := by decide +kernel
theorem dX4_shows_19 : decode cX4_shows 19 = .ok (.getfield 41, 3) := by decide +kernel
theorem dX4_shows_22 : decode cX4_shows 22 = .ok (.iload_n 2, 1) := by decide +kernel
theorem dX4_shows_23 : decode cX4_shows 23 = .ok (.invokestatic 65, 3) := by decide +kernel
theorem dX4_shows_26 : decode cX4_shows 26 = .ok (.invokestatic 48, 3) := by decide +kernel
theorem dX4_shows_29 : decode cX4_shows 29 = .ok (.aload 4, 2) := by decide +kernel
theorem dX4_shows_31 : decode cX4_shows 31 = .ok (.iload_n 2, 1) := by decide +kernel
theorem dX4_shows_32 : decode cX4_shows 32 = .ok (.iconst 1, 1) := by decide +kernel
theorem dX4_shows_33 : decode cX4_shows 33 = .ok (.iadd, 1) := by decide +kernel
theorem dX4_shows_34 : decode cX4_shows 34 = .ok (.invokevirtual 76, 3) := by decide +kernel
theorem dX4_shows_37 : decode cX4_shows 37 = .ok (.aload 4, 2) := by decide +kernel
theorem dX4_shows_39 : decode cX4_shows 39 = .ok (.getfield 80, 3) := by decide +kernel
theorem dX4_shows_42 : decode cX4_shows 42 = .ok (.iload_n 2, 1) := by decide +kernel
theorem dX4_shows_43 : decode cX4_shows 43 = .ok (.iload_n 3, 1) := by decide +kernel
theorem dX4_shows_44 : decode cX4_shows 44 = .ok (.invokestatic 83, 3) := by decide +kernel
theorem dX4_shows_47 : decode cX4_shows 47 = .ok (.iaload, 1) := by decide +kernel
theorem dX4_shows_48 : decode cX4_shows 48 = .ok (.ireturn, 1) := by decide +kernel
set_option maxRecDepth 20000 in
theorem ggX4_thread_X4_bandAt : GoodIn wsX4_thread wsX4_bandAt := goodIn_ca (goodIn_r _ [5, 6, 7, 8, 9, 4, 10, 11, 12, 46, 47, 48, 49, 50] (by decide +kernel) (by decide +kernel)) (goodIn_sub (fun _ h => List.mem_cons_of_mem _ (List.mem_append_right _ h)) (by decide +kernel))
set_option maxRecDepth 20000 in
theorem gX4_thread_X4_bandAt : GoodIn wsX4_thread (wsV RX4 44 RX4 yX4_bandAt wsX4_bandAt) := goodIn_app (goodIn_of _ (by decide +kernel)) ggX4_thread_X4_bandAt
set_option maxRecDepth 20000 in
theorem ggX4_thread_X4_needElement : GoodIn wsX4_thread wsX4_needElement := goodIn_ca (goodIn_r _ [10, 11, 12] (by decide +kernel) (by decide +kernel)) (goodIn_sub (fun _ h => List.mem_cons_of_mem _ (List.mem_append_right _ h)) (by decide +kernel))
set_option maxRecDepth 20000 in
theorem gX4_thread_X4_needElement : GoodIn wsX4_thread (va_wsS RX4 48 yX4_needElement wsX4_needElement) := goodIn_app (goodIn_of _ (by decide +kernel)) ggX4_thread_X4_needElement
set_option maxRecDepth 20000 in
theorem ggX4_thread_X0_walk : GoodIn wsX4_thread wsX0_walk := goodIn_r _ [17, 18, 19, 20, 21, 4, 22, 23, 24, 25, 16, 26, 27, 28, 29, 30, 31, 32, 33, 34, 35, 36, 37, 38, 39, 40, 41, 42, 43, 44, 45] (by decide +kernel) (by decide +kernel)
set_option maxRecDepth 20000 in
theorem gX4_thread_X0_walk : GoodIn wsX4_thread (wsV RX4 76 RX0 yX0_walk wsX0_walk) := goodIn_app (goodIn_of _ (by decide +kernel)) ggX4_thread_X0_walk
theorem dX4_thread_0 : decode cX4_thread 0 = .ok (.aload_n 0, 1) := by decide +kernel
theorem dX4_thread_1 : decode cX4_thread 1 = .ok (.iload_n 1, 1) := by decide +kernel
theorem dX4_thread_2 : decode cX4_thread 2 = .ok (.invokevirtual 44, 3) := by decide +kernel
theorem dX4_thread_5 : decode cX4_thread 5 = .ok (.astore 4, 2) := by decide +kernel
theorem dX4_thread_7 : decode cX4_thread 7 = .ok (.iload_n 2, 1) := by decide +kernel
theorem dX4_thread_8 : decode cX4_thread 8 = .ok (.aload 4, 2) := by decide +kernel
theorem dX4_thread_10 : decode cX4_thread 10 = .ok (.getfield 59, 3) := by decide +kernel
theorem dX4_thread_13 : decode cX4_thread 13 = .ok (.iconst 1, 1) := by decide +kernel
theorem dX4_thread_14 : decode cX4_thread 14 = .ok (.iadd, 1) := by decide +kernel
theorem dX4_thread_15 : decode cX4_thread 15 = .ok (.invokestatic 48, 3) := by decide +kernel
theorem dX4_thread_18 : decode cX4_thread 18 = .ok (.iload_n 3, 1) := by decide +kernel
theorem dX4_thread_19 : decode cX4_thread 19 = .ok (.aload 4, 2) := by decide +kernel
theorem dX4_thread_21 : decode cX4_thread 21 = .ok (.getfield 41, 3) := by decide +kernel
theorem dX4_thread_24 : decode cX4_thread 24 = .ok (.invokestatic 48, 3) := by decide +kernel
theorem dX4_thread_27 : decode cX4_thread 27 = .ok (.aload 4, 2) := by decide +kernel
theorem dX4_thread_29 : decode cX4_thread 29 = .ok (.iload_n 2, 1) := by decide +kernel
theorem dX4_thread_30 : decode cX4_thread 30 = .ok (.invokevirtual 76, 3) := by decide +kernel
theorem dX4_thread_33 : decode cX4_thread 33 = .ok (.aload 4, 2) := by decide +kernel
theorem dX4_thread_35 : decode cX4_thread 35 = .ok (.getfield 86, 3) := by decide +kernel
theorem dX4_thread_38 : decode cX4_thread 38 = .ok (.iload_n 3, 1) := by decide +kernel
theorem dX4_thread_39 : decode cX4_thread 39 = .ok (.iaload, 1) := by decide +kernel
theorem dX4_thread_40 : decode cX4_thread 40 = .ok (.ireturn, 1) := by decide +kernel
set_option maxRecDepth 20000 in
theorem ggX4_used_X4_bandAt : GoodIn wsX4_used wsX4_bandAt := goodIn_ca (goodIn_r _ [5, 6, 7, 8, 9, 4, 10, 11, 12, 46, 47, 48, 49, 50] (by decide +kernel) (by decide +kernel)) (goodIn_sub (fun _ h => List.mem_cons_of_mem _ (List.mem_append_right _ h)) (by decide +kernel))
set_option maxRecDepth 20000 in
theorem gX4_used_X4_bandAt : GoodIn wsX4_used (wsV RX4 44 RX4 yX4_bandAt wsX4_bandAt) := goodIn_app (goodIn_of _ (by decide +kernel)) ggX4_used_X4_bandAt
set_option maxRecDepth 20000 in
theorem ggX4_used_X4_needElement : GoodIn wsX4_used wsX4_needElement := goodIn_ca (goodIn_r _ [10, 11, 12] (by decide +kernel) (by decide +kernel)) (goodIn_sub (fun _ h => List.mem_cons_of_mem _ (List.mem_append_right _ h)) (by decide +kernel))
set_option maxRecDepth 20000 in
theorem gX4_used_X4_needElement : GoodIn wsX4_used (va_wsS RX4 48 yX4_needElement wsX4_needElement) := goodIn_app (goodIn_of _ (by decide +kernel)) ggX4_used_X4_needElement
set_option maxRecDepth 20000 in
theorem ggX4_used_X0_walk : GoodIn wsX4_used wsX0_walk := goodIn_r _ [17, 18, 19, 20, 21, 4, 22, 23, 24, 25, 16, 26, 27, 28, 29, 30, 31, 32, 33, 34, 35, 36, 37, 38, 39, 40, 41, 42, 43, 44, 45] (by decide +kernel) (by decide +kernel)
set_option maxRecDepth 20000 in
theorem gX4_used_X0_walk : GoodIn wsX4_used (wsV RX4 76 RX0 yX0_walk wsX0_walk) := goodIn_app (goodIn_of _ (by decide +kernel)) ggX4_used_X0_walk
theorem dX4_used_0 : decode cX4_used 0 = .ok (.aload_n 0, 1) := by decide +kernel
theorem dX4_used_1 : decode cX4_used 1 = .ok (.iload_n 1, 1) := by decide +kernel
theorem dX4_used_2 : decode cX4_used 2 = .ok (.invokevirtual 44, 3) := by decide +kernel
theorem dX4_used_5 : decode cX4_used 5 = .ok (.astore_n 3, 1) := by decide +kernel
theorem dX4_used_6 : decode cX4_used 6 = .ok (.iload_n 2, 1) := by decide +kernel
theorem dX4_used_7 : decode cX4_used 7 = .ok (.aload_n 3, 1) := by decide +kernel
theorem dX4_used_8 : decode cX4_used 8 = .ok (.getfield 41, 3) := by decide +kernel
theorem dX4_used_11 : decode cX4_used 11 = .ok (.invokestatic 48, 3) := by decide +kernel
theorem dX4_used_14 : decode cX4_used 14 = .ok (.aload_n 3, 1) := by decide +kernel
theorem dX4_used_15 : decode cX4_used 15 = .ok (.aload_n 3, 1) := by decide +kernel
theorem dX4_used_16 : decode cX4_used 16 = .ok (.getfield 59, 3) := by decide +kernel
theorem dX4_used_19 : decode cX4_used 19 = .ok (.invokevirtual 76, 3) := by decide +kernel
theorem dX4_used_22 : decode cX4_used 22 = .ok (.aload_n 3, 1) := by decide +kernel
theorem dX4_used_23 : decode cX4_used 23 = .ok (.getfield 89, 3) := by decide +kernel
theorem dX4_used_26 : decode cX4_used 26 = .ok (.iload_n 2, 1) := by decide +kernel
theorem dX4_used_27 : decode cX4_used 27 = .ok (.iaload, 1) := by decide +kernel
theorem dX4_used_28 : decode cX4_used 28 = .ok (.ireturn, 1) := by decide +kernel
set_option maxRecDepth 20000 in
theorem ggX4_home_X4_bandAt : GoodIn wsX4_home wsX4_bandAt := goodIn_ca (goodIn_r _ [5, 6, 7, 8, 9, 4, 10, 11, 12, 56, 57, 58, 59, 60] (by decide +kernel) (by decide +kernel)) (goodIn_sub (fun _ h => List.mem_cons_of_mem _ (List.mem_append_right _ h)) (by decide +kernel))
set_option maxRecDepth 20000 in
theorem gX4_home_X4_bandAt : GoodIn wsX4_home (wsV RX4 44 RX4 yX4_bandAt wsX4_bandAt) := goodIn_app (goodIn_of _ (by decide +kernel)) ggX4_home_X4_bandAt
set_option maxRecDepth 20000 in
theorem ggX4_home_X4_needElement : GoodIn wsX4_home wsX4_needElement := goodIn_ca (goodIn_r _ [10, 11, 12] (by decide +kernel) (by decide +kernel)) (goodIn_sub (fun _ h => List.mem_cons_of_mem _ (List.mem_append_right _ h)) (by decide +kernel))
set_option maxRecDepth 20000 in
theorem gX4_home_X4_needElement : GoodIn wsX4_home (va_wsS RX4 48 yX4_needElement wsX4_needElement) := goodIn_app (goodIn_of _ (by decide +kernel)) ggX4_home_X4_needElement
set_option maxRecDepth 20000 in
theorem ggX4_home_X0_timesToHome : GoodIn wsX4_home wsX0_timesToHome := goodIn_r _ [17, 18, 19, 20, 21, 22, 23, 24, 16, 25, 26, 27, 4, 28, 29, 30, 31, 32, 33, 34, 35, 36, 37, 38, 39, 40, 41, 42, 43, 44, 45, 46, 47, 48, 49, 50, 51, 52, 53, 54, 55] (by decide +kernel) (by decide +kernel)
set_option maxRecDepth 20000 in
theorem gX4_home_X0_timesToHome : GoodIn wsX4_home (wsV RX4 92 RX0 yX0_timesToHome wsX0_timesToHome) := goodIn_app (goodIn_of _ (by decide +kernel)) ggX4_home_X0_timesToHome
theorem dX4_home_0 : decode cX4_home 0 = .ok (.aload_n 0, 1) := by decide +kernel
theorem dX4_home_1 : decode cX4_home 1 = .ok (.iload_n 1, 1) := by decide +kernel
theorem dX4_home_2 : decode cX4_home 2 = .ok (.invokevirtual 44, 3) := by decide +kernel
theorem dX4_home_5 : decode cX4_home 5 = .ok (.astore_n 3, 1) := by decide +kernel
theorem dX4_home_6 : decode cX4_home 6 = .ok (.iload_n 2, 1) := by decide +kernel
theorem dX4_home_7 : decode cX4_home 7 = .ok (.iconst 2, 1) := by decide +kernel
theorem dX4_home_8 : decode cX4_home 8 = .ok (.invokestatic 48, 3) := by decide +kernel
theorem dX4_home_11 : decode cX4_home 11 = .ok (.aload_n 3, 1) := by decide +kernel
theorem dX4_home_12 : decode cX4_home 12 = .ok (.getfield 59, 3) := by decide +kernel
theorem dX4_home_15 : decode cX4_home 15 = .ok (.iconst 1, 1) := by decide +kernel
theorem dX4_home_16 : decode cX4_home 16 = .ok (.iand, 1) := by decide +kernel
theorem dX4_home_17 : decode cX4_home 17 = .ok (.iconst 1, 1) := by decide +kernel
theorem dX4_home_18 : decode cX4_home 18 = .ok (.if_icmp .ne 5, 3) := by decide +kernel
theorem dX4_home_21 : decode cX4_home 21 = .ok (.iconst (-1), 1) := by decide +kernel
theorem dX4_home_22 : decode cX4_home 22 = .ok (.ireturn, 1) := by decide +kernel
theorem dX4_home_23 : decode cX4_home 23 = .ok (.aload_n 3, 1) := by decide +kernel
theorem dX4_home_24 : decode cX4_home 24 = .ok (.iload_n 2, 1) := by decide +kernel
theorem dX4_home_25 : decode cX4_home 25 = .ok (.iconst 1, 1) := by decide +kernel
theorem dX4_home_26 : decode cX4_home 26 = .ok (.if_icmp .ne 7, 3) := by decide +kernel
theorem dX4_home_29 : decode cX4_home 29 = .ok (.iconst 1, 1) := by decide +kernel
theorem dX4_home_30 : decode cX4_home 30 = .ok (.goto 4, 3) := by decide +kernel
theorem dX4_home_33 : decode cX4_home 33 = .ok (.iconst 0, 1) := by decide +kernel
theorem dX4_home_34 : decode cX4_home 34 = .ok (.invokevirtual 92, 3) := by decide +kernel
theorem dX4_home_37 : decode cX4_home 37 = .ok (.ireturn, 1) := by decide +kernel
set_option maxRecDepth 20000 in
theorem ggX4_unlike_X4_bandAt : GoodIn wsX4_unlike wsX4_bandAt := goodIn_ca (goodIn_r _ [7, 8, 9, 10, 11, 6, 12, 13, 14, 50, 51, 52, 53, 54] (by decide +kernel) (by decide +kernel)) (goodIn_sub (fun _ h => List.mem_cons_of_mem _ (List.mem_append_right _ h)) (by decide +kernel))
set_option maxRecDepth 20000 in
theorem gX4_unlike_X4_bandAt : GoodIn wsX4_unlike (wsV RX4 44 RX4 yX4_bandAt wsX4_bandAt) := goodIn_app (goodIn_of _ (by decide +kernel)) ggX4_unlike_X4_bandAt
set_option maxRecDepth 20000 in
theorem ggX4_unlike_X0_walk : GoodIn wsX4_unlike wsX0_walk := goodIn_r _ [19, 20, 21, 22, 23, 6, 24, 25, 26, 27, 18, 28, 29, 30, 31, 32, 33, 34, 35, 36, 37, 38, 39, 42, 43, 44, 45, 46, 47, 48, 49] (by decide +kernel) (by decide +kernel)
set_option maxRecDepth 20000 in
theorem gX4_unlike_X0_walk : GoodIn wsX4_unlike (wsV RX4 76 RX0 yX0_walk wsX0_walk) := goodIn_app (goodIn_of _ (by decide +kernel)) ggX4_unlike_X0_walk
set_option maxRecDepth 20000 in
theorem ggX4_unlike_X4_knotsIn : GoodIn wsX4_unlike wsX4_knotsIn := goodIn_r _ [24] (by decide +kernel) (by decide +kernel)
set_option maxRecDepth 20000 in
theorem gX4_unlike_X4_knotsIn : GoodIn wsX4_unlike (va_wsS RX4 65 yX4_knotsIn wsX4_knotsIn) := goodIn_app (goodIn_of _ (by decide +kernel)) ggX4_unlike_X4_knotsIn
set_option maxRecDepth 20000 in
theorem ggX4_unlike_X4_spotOf : GoodIn wsX4_unlike wsX4_spotOf := goodIn_r _ [39] (by decide +kernel) (by decide +kernel)
set_option maxRecDepth 20000 in
theorem gX4_unlike_X4_spotOf : GoodIn wsX4_unlike (va_wsS RX4 83 yX4_spotOf wsX4_spotOf) := goodIn_app (goodIn_of _ (by decide +kernel)) ggX4_unlike_X4_spotOf
theorem dX4_unlike_0 : decode cX4_unlike 0 = .ok (.aload_n 0, 1) := by decide +kernel
theorem dX4_unlike_1 : decode cX4_unlike 1 = .ok (.iload_n 1, 1) := by decide +kernel
theorem dX4_unlike_2 : decode cX4_unlike 2 = .ok (.invokevirtual 44, 3) := by decide +kernel
theorem dX4_unlike_5 : decode cX4_unlike 5 = .ok (.astore_n 3, 1) := by decide +kernel
theorem dX4_unlike_6 : decode cX4_unlike 6 = .ok (.aload_n 0, 1) := by decide +kernel
theorem dX4_unlike_7 : decode cX4_unlike 7 = .ok (.iload_n 2, 1) := by decide +kernel
theorem dX4_unlike_8 : decode cX4_unlike 8 = .ok (.invokevirtual 44, 3) := by decide +kernel
theorem dX4_unlike_11 : decode cX4_unlike 11 = .ok (.astore 4, 2) := by decide +kernel
theorem dX4_unlike_13 : decode cX4_unlike 13 = .ok (.aload_n 3, 1) := by decide +kernel
theorem dX4_unlike_14 : decode cX4_unlike 14 = .ok (.getfield 41, 3) := by decide +kernel
theorem dX4_unlike_17 : decode cX4_unlike 17 = .ok (.aload 4, 2) := by decide +kernel
theorem dX4_unlike_19 : decode cX4_unlike 19 = .ok (.getfield 41, 3) := by decide +kernel
theorem dX4_unlike_22 : decode cX4_unlike 22 = .ok (.if_icmp .ne 15, 3) := by decide +kernel
theorem dX4_unlike_25 : decode cX4_unlike 25 = .ok (.aload_n 3, 1) := by decide +kernel
theorem dX4_unlike_26 : decode cX4_unlike 26 = .ok (.getfield 59, 3) := by decide +kernel
theorem dX4_unlike_29 : decode cX4_unlike 29 = .ok (.aload 4, 2) := by decide +kernel
theorem dX4_unlike_31 : decode cX4_unlike 31 = .ok (.getfield 59, 3) := by decide +kernel
theorem dX4_unlike_34 : decode cX4_unlike 34 = .ok (.if_icmp .eq 13, 3) := by decide +kernel
theorem dX4_unlike_37 : decode cX4_unlike 37 = .ok (.new 96, 3) := by decide +kernel
theorem dX4_unlike_40 : decode cX4_unlike 40 = .ok (.dup, 1) := by decide +kernel
theorem dX4_unlike_41 : decode cX4_unlike 41 = .ok (.ldc 98, 2) := by decide +kernel
theorem dX4_unlike_43 : decode cX4_unlike 43 = .ok (.invokespecial 100, 3) := by decide +kernel
theorem dX4_unlike_46 : decode cX4_unlike 46 = .ok (.athrow, 1) := by decide +kernel
theorem dX4_unlike_47 : decode cX4_unlike 47 = .ok (.aload_n 3, 1) := by decide +kernel
theorem dX4_unlike_48 : decode cX4_unlike 48 = .ok (.aload_n 3, 1) := by decide +kernel
theorem dX4_unlike_49 : decode cX4_unlike 49 = .ok (.getfield 59, 3) := by decide +kernel
theorem dX4_unlike_52 : decode cX4_unlike 52 = .ok (.invokevirtual 76, 3) := by decide +kernel
theorem dX4_unlike_55 : decode cX4_unlike 55 = .ok (.aload 4, 2) := by decide +kernel
theorem dX4_unlike_57 : decode cX4_unlike 57 = .ok (.aload 4, 2) := by decide +kernel
theorem dX4_unlike_59 : decode cX4_unlike 59 = .ok (.getfield 59, 3) := by decide +kernel
theorem dX4_unlike_62 : decode cX4_unlike 62 = .ok (.invokevirtual 76, 3) := by decide +kernel
theorem dX4_unlike_65 : decode cX4_unlike 65 = .ok (.iconst 0, 1) := by decide +kernel
theorem dX4_unlike_66 : decode cX4_unlike 66 = .ok (.istore 5, 2) := by decide +kernel
theorem dX4_unlike_68 : decode cX4_unlike 68 = .ok (.iconst 0, 1) := by decide +kernel
theorem dX4_unlike_69 : decode cX4_unlike 69 = .ok (.istore 6, 2) := by decide +kernel
theorem dX4_unlike_71 : decode cX4_unlike 71 = .ok (.iload 6, 2) := by decide +kernel
theorem dX4_unlike_73 : decode cX4_unlike 73 = .ok (.aload_n 3, 1) := by decide +kernel
theorem dX4_unlike_74 : decode cX4_unlike 74 = .ok (.getfield 59, 3) := by decide +kernel
theorem dX4_unlike_77 : decode cX4_unlike 77 = .ok (.if_icmp .ge 66, 3) := by decide +kernel
theorem dX4_unlike_80 : decode cX4_unlike 80 = .ok (.aload_n 3, 1) := by decide +kernel
theorem dX4_unlike_81 : decode cX4_unlike 81 = .ok (.getfield 41, 3) := by decide +kernel
theorem dX4_unlike_84 : decode cX4_unlike 84 = .ok (.iload 6, 2) := by decide +kernel
theorem dX4_unlike_86 : decode cX4_unlike 86 = .ok (.invokestatic 65, 3) := by decide +kernel
theorem dX4_unlike_89 : decode cX4_unlike 89 = .ok (.istore 7, 2) := by decide +kernel
theorem dX4_unlike_91 : decode cX4_unlike 91 = .ok (.iconst 0, 1) := by decide +kernel
theorem dX4_unlike_92 : decode cX4_unlike 92 = .ok (.istore 8, 2) := by decide +kernel
theorem dX4_unlike_94 : decode cX4_unlike 94 = .ok (.iload 8, 2) := by decide +kernel
theorem dX4_unlike_96 : decode cX4_unlike 96 = .ok (.iload 7, 2) := by decide +kernel
theorem dX4_unlike_98 : decode cX4_unlike 98 = .ok (.if_icmp .ge 39, 3) := by decide +kernel
theorem dX4_unlike_101 : decode cX4_unlike 101 = .ok (.iload 6, 2) := by decide +kernel
theorem dX4_unlike_103 : decode cX4_unlike 103 = .ok (.iload 8, 2) := by decide +kernel
theorem dX4_unlike_105 : decode cX4_unlike 105 = .ok (.invokestatic 83, 3) := by decide +kernel
theorem dX4_unlike_108 : decode cX4_unlike 108 = .ok (.istore 9, 2) := by decide +kernel
theorem dX4_unlike_110 : decode cX4_unlike 110 = .ok (.aload_n 3, 1) := by decide +kernel
theorem dX4_unlike_111 : decode cX4_unlike 111 = .ok (.getfield 80, 3) := by decide +kernel
theorem dX4_unlike_114 : decode cX4_unlike 114 = .ok (.iload 9, 2) := by decide +kernel
theorem dX4_unlike_116 : decode cX4_unlike 116 = .ok (.iaload, 1) := by decide +kernel
theorem dX4_unlike_117 : decode cX4_unlike 117 = .ok (.aload 4, 2) := by decide +kernel
theorem dX4_unlike_119 : decode cX4_unlike 119 = .ok (.getfield 80, 3) := by decide +kernel
theorem dX4_unlike_122 : decode cX4_unlike 122 = .ok (.iload 9, 2) := by decide +kernel
theorem dX4_unlike_124 : decode cX4_unlike 124 = .ok (.iaload, 1) := by decide +kernel
theorem dX4_unlike_125 : decode cX4_unlike 125 = .ok (.if_icmp .eq 6, 3) := by decide +kernel
theorem dX4_unlike_128 : decode cX4_unlike 128 = .ok (.iinc 5 1, 3) := by decide +kernel
theorem dX4_unlike_131 : decode cX4_unlike 131 = .ok (.iinc 8 1, 3) := by decide +kernel
theorem dX4_unlike_134 : decode cX4_unlike 134 = .ok (.goto (-40), 3) := by decide +kernel
theorem dX4_unlike_137 : decode cX4_unlike 137 = .ok (.iinc 6 1, 3) := by decide +kernel
theorem dX4_unlike_140 : decode cX4_unlike 140 = .ok (.goto (-69), 3) := by decide +kernel
theorem dX4_unlike_143 : decode cX4_unlike 143 = .ok (.iload 5, 2) := by decide +kernel
theorem dX4_unlike_145 : decode cX4_unlike 145 = .ok (.ireturn, 1) := by decide +kernel
set_option maxRecDepth 20000 in
theorem ggX4_picture_X4_mayBeThreads : GoodIn wsX4_picture wsX4_mayBeThreads := goodIn_r _ [6] (by decide +kernel) (by decide +kernel)
set_option maxRecDepth 20000 in
theorem gX4_picture_X4_mayBeThreads : GoodIn wsX4_picture (va_wsS RX4 37 yX4_mayBeThreads wsX4_mayBeThreads) := goodIn_app (goodIn_of _ (by decide +kernel)) ggX4_picture_X4_mayBeThreads
set_option maxRecDepth 20000 in
theorem ggX4_picture_X2_begin : GoodIn wsX4_picture wsX2_begin := goodIn_r _ [11, 12, 13, 14, 15, 21, 22, 23, 24, 25, 26, 27, 28, 29, 30] (by decide +kernel) (by decide +kernel)
set_option maxRecDepth 20000 in
theorem gX4_picture_X2_begin : GoodIn wsX4_picture (wsV RX4 103 RX2 yX2_begin wsX2_begin) := goodIn_app (goodIn_of _ (by decide +kernel)) ggX4_picture_X2_begin
theorem dX4_picture_0 : decode cX4_picture 0 = .ok (.aload_n 0, 1) := by decide +kernel
theorem dX4_picture_1 : decode cX4_picture 1 = .ok (.getfield 32, 3) := by decide +kernel
theorem dX4_picture_4 : decode cX4_picture 4 = .ok (.bipush 8, 2) := by decide +kernel
theorem dX4_picture_6 : decode cX4_picture 6 = .ok (.if_icmp .ge 21, 3) := by decide +kernel
theorem dX4_picture_9 : decode cX4_picture 9 = .ok (.iload_n 1, 1) := by decide +kernel
theorem dX4_picture_10 : decode cX4_picture 10 = .ok (.invokestatic 37, 3) := by decide +kernel
theorem dX4_picture_13 : decode cX4_picture 13 = .ok (.ifCond .eq 14, 3) := by decide +kernel
theorem dX4_picture_16 : decode cX4_picture 16 = .ok (.iload_n 2, 1) := by decide +kernel
theorem dX4_picture_17 : decode cX4_picture 17 = .ok (.iconst 1, 1) := by decide +kernel
theorem dX4_picture_18 : decode cX4_picture 18 = .ok (.if_icmp .lt 9, 3) := by decide +kernel
theorem dX4_picture_21 : decode cX4_picture 21 = .ok (.iload_n 2, 1) := by decide +kernel
theorem dX4_picture_22 : decode cX4_picture 22 = .ok (.bipush 16, 2) := by decide +kernel
theorem dX4_picture_24 : decode cX4_picture 24 = .ok (.if_icmp .le 5, 3) := by decide +kernel
theorem dX4_picture_27 : decode cX4_picture 27 = .ok (.iconst (-1), 1) := by decide +kernel
theorem dX4_picture_28 : decode cX4_picture 28 = .ok (.ireturn, 1) := by decide +kernel
theorem dX4_picture_29 : decode cX4_picture 29 = .ok (.aload_n 0, 1) := by decide +kernel
theorem dX4_picture_30 : decode cX4_picture 30 = .ok (.getfield 17, 3) := by decide +kernel
theorem dX4_picture_33 : decode cX4_picture 33 = .ok (.aload_n 0, 1) := by decide +kernel
theorem dX4_picture_34 : decode cX4_picture 34 = .ok (.getfield 32, 3) := by decide +kernel
theorem dX4_picture_37 : decode cX4_picture 37 = .ok (.aaload, 1) := by decide +kernel
theorem dX4_picture_38 : decode cX4_picture 38 = .ok (.iload_n 1, 1) := by decide +kernel
theorem dX4_picture_39 : decode cX4_picture 39 = .ok (.iload_n 2, 1) := by decide +kernel
theorem dX4_picture_40 : decode cX4_picture 40 = .ok (.invokevirtual 103, 3) := by decide +kernel
theorem dX4_picture_43 : decode cX4_picture 43 = .ok (.aload_n 0, 1) := by decide +kernel
theorem dX4_picture_44 : decode cX4_picture 44 = .ok (.dup, 1) := by decide +kernel
theorem dX4_picture_45 : decode cX4_picture 45 = .ok (.getfield 32, 3) := by decide +kernel
theorem dX4_picture_48 : decode cX4_picture 48 = .ok (.dup_x1, 1) := by decide +kernel
theorem dX4_picture_49 : decode cX4_picture 49 = .ok (.iconst 1, 1) := by decide +kernel
theorem dX4_picture_50 : decode cX4_picture 50 = .ok (.iadd, 1) := by decide +kernel
theorem dX4_picture_51 : decode cX4_picture 51 = .ok (.putfield 32, 3) := by decide +kernel
theorem dX4_picture_54 : decode cX4_picture 54 = .ok (.ireturn, 1) := by decide +kernel
set_option maxRecDepth 20000 in
theorem ggX4_see_X4_pictureAt : GoodIn wsX4_see wsX4_pictureAt := goodIn_ca (goodIn_r _ [5, 6, 7, 8, 9, 4, 10, 11, 12, 34, 35, 36, 37, 38] (by decide +kernel) (by decide +kernel)) (goodIn_sub (fun _ h => List.mem_cons_of_mem _ (List.mem_append_left _ (List.mem_append_right _ h))) (by decide +kernel))
set_option maxRecDepth 20000 in
theorem gX4_see_X4_pictureAt : GoodIn wsX4_see (wsV RX4 106 RX4 yX4_pictureAt wsX4_pictureAt) := goodIn_app (goodIn_of _ (by decide +kernel)) ggX4_see_X4_pictureAt
set_option maxRecDepth 20000 in
theorem ggX4_see_X4_needElement : GoodIn wsX4_see wsX4_needElement := goodIn_ca (goodIn_r _ [10, 11, 12] (by decide +kernel) (by decide +kernel)) (goodIn_sub (fun _ h => List.mem_cons_of_mem _ (List.mem_append_left _ (List.mem_append_right _ h))) (by decide +kernel))
set_option maxRecDepth 20000 in
theorem gX4_see_X4_needElement : GoodIn wsX4_see (va_wsS RX4 48 yX4_needElement wsX4_needElement) := goodIn_app (goodIn_of _ (by decide +kernel)) ggX4_see_X4_needElement
set_option maxRecDepth 20000 in
theorem ggX4_see_X4_knotsIn : GoodIn wsX4_see wsX4_knotsIn := goodIn_r _ [15] (by decide +kernel) (by decide +kernel)
set_option maxRecDepth 20000 in
theorem gX4_see_X4_knotsIn : GoodIn wsX4_see (va_wsS RX4 65 yX4_knotsIn wsX4_knotsIn) := goodIn_app (goodIn_of _ (by decide +kernel)) ggX4_see_X4_knotsIn
set_option maxRecDepth 20000 in
theorem ggX4_see_X4_needArgument : GoodIn wsX4_see wsX4_needArgument := goodIn_ca (goodIn_r _ [18, 19, 20] (by decide +kernel) (by decide +kernel)) (goodIn_sub (fun _ h => List.mem_cons_of_mem _ (List.mem_append_right _ h)) (by decide +kernel))
set_option maxRecDepth 20000 in
theorem gX4_see_X4_needArgument : GoodIn wsX4_see (va_wsS RX4 52 yX4_needArgument wsX4_needArgument) := goodIn_app (goodIn_of _ (by decide +kernel)) ggX4_see_X4_needArgument
set_option maxRecDepth 20000 in
theorem ggX4_see_X4_spotOf : GoodIn wsX4_see wsX4_spotOf := goodIn_r _ [23] (by decide +kernel) (by decide +kernel)
set_option maxRecDepth 20000 in
theorem gX4_see_X4_spotOf : GoodIn wsX4_see (va_wsS RX4 83 yX4_spotOf wsX4_spotOf) := goodIn_app (goodIn_of _ (by decide +kernel)) ggX4_see_X4_spotOf
theorem dX4_see_0 : decode cX4_see 0 = .ok (.aload_n 0, 1) := by decide +kernel
theorem dX4_see_1 : decode cX4_see 1 = .ok (.iload_n 1, 1) := by decide +kernel
theorem dX4_see_2 : decode cX4_see 2 = .ok (.invokevirtual 106, 3) := by decide +kernel
theorem dX4_see_5 : decode cX4_see 5 = .ok (.astore 5, 2) := by decide +kernel
theorem dX4_see_7 : decode cX4_see 7 = .ok (.iload_n 2, 1) := by decide +kernel
theorem dX4_see_8 : decode cX4_see 8 = .ok (.aload 5, 2) := by decide +kernel
theorem dX4_see_10 : decode cX4_see 10 = .ok (.getfield 110, 3) := by decide +kernel
theorem dX4_see_13 : decode cX4_see 13 = .ok (.invokestatic 48, 3) := by decide +kernel
theorem dX4_see_16 : decode cX4_see 16 = .ok (.iload_n 3, 1) := by decide +kernel
theorem dX4_see_17 : decode cX4_see 17 = .ok (.aload 5, 2) := by decide +kernel
theorem dX4_see_19 : decode cX4_see 19 = .ok (.getfield 111, 3) := by decide +kernel
theorem dX4_see_22 : decode cX4_see 22 = .ok (.iload_n 2, 1) := by decide +kernel
theorem dX4_see_23 : decode cX4_see 23 = .ok (.invokestatic 65, 3) := by decide +kernel
theorem dX4_see_26 : decode cX4_see 26 = .ok (.invokestatic 48, 3) := by decide +kernel
theorem dX4_see_29 : decode cX4_see 29 = .ok (.iload 4, 2) := by decide +kernel
theorem dX4_see_31 : decode cX4_see 31 = .ok (.iconst 5, 1) := by decide +kernel
theorem dX4_see_32 : decode cX4_see 32 = .ok (.invokestatic 52, 3) := by decide +kernel
theorem dX4_see_35 : decode cX4_see 35 = .ok (.iload_n 2, 1) := by decide +kernel
theorem dX4_see_36 : decode cX4_see 36 = .ok (.iload_n 3, 1) := by decide +kernel
theorem dX4_see_37 : decode cX4_see 37 = .ok (.invokestatic 83, 3) := by decide +kernel
theorem dX4_see_40 : decode cX4_see 40 = .ok (.istore 6, 2) := by decide +kernel
theorem dX4_see_42 : decode cX4_see 42 = .ok (.aload 5, 2) := by decide +kernel
theorem dX4_see_44 : decode cX4_see 44 = .ok (.getfield 112, 3) := by decide +kernel
theorem dX4_see_47 : decode cX4_see 47 = .ok (.iload 6, 2) := by decide +kernel
theorem dX4_see_49 : decode cX4_see 49 = .ok (.iaload, 1) := by decide +kernel
theorem dX4_see_50 : decode cX4_see 50 = .ok (.istore 7, 2) := by decide +kernel
theorem dX4_see_52 : decode cX4_see 52 = .ok (.aload 5, 2) := by decide +kernel
theorem dX4_see_54 : decode cX4_see 54 = .ok (.getfield 112, 3) := by decide +kernel
theorem dX4_see_57 : decode cX4_see 57 = .ok (.iload 6, 2) := by decide +kernel
theorem dX4_see_59 : decode cX4_see 59 = .ok (.iload 4, 2) := by decide +kernel
theorem dX4_see_61 : decode cX4_see 61 = .ok (.iastore, 1) := by decide +kernel
theorem dX4_see_62 : decode cX4_see 62 = .ok (.aload 5, 2) := by decide +kernel
theorem dX4_see_64 : decode cX4_see 64 = .ok (.iconst 0, 1) := by decide +kernel
theorem dX4_see_65 : decode cX4_see 65 = .ok (.putfield 115, 3) := by decide +kernel
theorem dX4_see_68 : decode cX4_see 68 = .ok (.iload 7, 2) := by decide +kernel
theorem dX4_see_70 : decode cX4_see 70 = .ok (.ireturn, 1) := by decide +kernel
set_option maxRecDepth 20000 in
theorem ggX4_must_X4_pictureAt : GoodIn wsX4_must wsX4_pictureAt := goodIn_ca (goodIn_r _ [5, 6, 7, 8, 9, 4, 10, 11, 12, 28, 29, 30, 31, 32] (by decide +kernel) (by decide +kernel)) (goodIn_sub (fun _ h => List.mem_cons_of_mem _ (List.mem_append_left _ (List.mem_append_right _ h))) (by decide +kernel))
set_option maxRecDepth 20000 in
theorem gX4_must_X4_pictureAt : GoodIn wsX4_must (wsV RX4 106 RX4 yX4_pictureAt wsX4_pictureAt) := goodIn_app (goodIn_of _ (by decide +kernel)) ggX4_must_X4_pictureAt
set_option maxRecDepth 20000 in
theorem ggX4_must_X4_needElement : GoodIn wsX4_must wsX4_needElement := goodIn_ca (goodIn_r _ [10, 11, 12] (by decide +kernel) (by decide +kernel)) (goodIn_sub (fun _ h => List.mem_cons_of_mem _ (List.mem_append_left _ (List.mem_append_right _ h))) (by decide +kernel))
set_option maxRecDepth 20000 in
theorem gX4_must_X4_needElement : GoodIn wsX4_must (va_wsS RX4 48 yX4_needElement wsX4_needElement) := goodIn_app (goodIn_of _ (by decide +kernel)) ggX4_must_X4_needElement
set_option maxRecDepth 20000 in
theorem ggX4_must_X4_needArgument : GoodIn wsX4_must wsX4_needArgument := goodIn_ca (goodIn_r _ [15, 16, 17] (by decide +kernel) (by decide +kernel)) (goodIn_sub (fun _ h => List.mem_cons_of_mem _ (List.mem_append_right _ h)) (by decide +kernel))
set_option maxRecDepth 20000 in
theorem gX4_must_X4_needArgument : GoodIn wsX4_must (va_wsS RX4 52 yX4_needArgument wsX4_needArgument) := goodIn_app (goodIn_of _ (by decide +kernel)) ggX4_must_X4_needArgument
theorem dX4_must_0 : decode cX4_must 0 = .ok (.aload_n 0, 1) := by decide +kernel
theorem dX4_must_1 : decode cX4_must 1 = .ok (.iload_n 1, 1) := by decide +kernel
theorem dX4_must_2 : decode cX4_must 2 = .ok (.invokevirtual 106, 3) := by decide +kernel
theorem dX4_must_5 : decode cX4_must 5 = .ok (.astore 4, 2) := by decide +kernel
theorem dX4_must_7 : decode cX4_must 7 = .ok (.iload_n 2, 1) := by decide +kernel
theorem dX4_must_8 : decode cX4_must 8 = .ok (.aload 4, 2) := by decide +kernel
theorem dX4_must_10 : decode cX4_must 10 = .ok (.getfield 111, 3) := by decide +kernel
theorem dX4_must_13 : decode cX4_must 13 = .ok (.invokestatic 48, 3) := by decide +kernel
theorem dX4_must_16 : decode cX4_must 16 = .ok (.iload_n 3, 1) := by decide +kernel
theorem dX4_must_17 : decode cX4_must 17 = .ok (.iconst 5, 1) := by decide +kernel
theorem dX4_must_18 : decode cX4_must 18 = .ok (.invokestatic 52, 3) := by decide +kernel
theorem dX4_must_21 : decode cX4_must 21 = .ok (.aload 4, 2) := by decide +kernel
theorem dX4_must_23 : decode cX4_must 23 = .ok (.getfield 119, 3) := by decide +kernel
theorem dX4_must_26 : decode cX4_must 26 = .ok (.iload_n 2, 1) := by decide +kernel
theorem dX4_must_27 : decode cX4_must 27 = .ok (.iaload, 1) := by decide +kernel
theorem dX4_must_28 : decode cX4_must 28 = .ok (.istore 5, 2) := by decide +kernel
theorem dX4_must_30 : decode cX4_must 30 = .ok (.aload 4, 2) := by decide +kernel
theorem dX4_must_32 : decode cX4_must 32 = .ok (.getfield 119, 3) := by decide +kernel
theorem dX4_must_35 : decode cX4_must 35 = .ok (.iload_n 2, 1) := by decide +kernel
theorem dX4_must_36 : decode cX4_must 36 = .ok (.iload_n 3, 1) := by decide +kernel
theorem dX4_must_37 : decode cX4_must 37 = .ok (.iastore, 1) := by decide +kernel
theorem dX4_must_38 : decode cX4_must 38 = .ok (.aload 4, 2) := by decide +kernel
theorem dX4_must_40 : decode cX4_must 40 = .ok (.iconst 0, 1) := by decide +kernel
theorem dX4_must_41 : decode cX4_must 41 = .ok (.putfield 115, 3) := by decide +kernel
theorem dX4_must_44 : decode cX4_must 44 = .ok (.iload 5, 2) := by decide +kernel
theorem dX4_must_46 : decode cX4_must 46 = .ok (.ireturn, 1) := by decide +kernel
set_option maxRecDepth 20000 in
theorem ggX4_copy_X4_pictureAt : GoodIn wsX4_copy wsX4_pictureAt := goodIn_ca (goodIn_r _ [5, 6, 7, 8, 9, 4, 10, 11, 12, 62, 63, 64, 65, 66] (by decide +kernel) (by decide +kernel)) (goodIn_sub (fun _ h => List.mem_cons_of_mem _ (List.mem_append_right _ h)) (by decide +kernel))
set_option maxRecDepth 20000 in
theorem gX4_copy_X4_pictureAt : GoodIn wsX4_copy (wsV RX4 106 RX4 yX4_pictureAt wsX4_pictureAt) := goodIn_app (goodIn_of _ (by decide +kernel)) ggX4_copy_X4_pictureAt
set_option maxRecDepth 20000 in
theorem ggX4_copy_X4_bandAt : GoodIn wsX4_copy wsX4_bandAt := goodIn_ca (goodIn_r _ [16, 17, 18, 8, 9, 4, 10, 11, 12, 62, 63, 64, 65, 66] (by decide +kernel) (by decide +kernel)) (goodIn_sub (fun _ h => List.mem_cons_of_mem _ (List.mem_append_right _ h)) (by decide +kernel))
set_option maxRecDepth 20000 in
theorem gX4_copy_X4_bandAt : GoodIn wsX4_copy (wsV RX4 44 RX4 yX4_bandAt wsX4_bandAt) := goodIn_app (goodIn_of _ (by decide +kernel)) ggX4_copy_X4_bandAt
set_option maxRecDepth 20000 in
theorem ggX4_copy_X0_walk : GoodIn wsX4_copy wsX0_walk := goodIn_r _ [23, 24, 25, 26, 27, 4, 28, 29, 30, 31, 22, 32, 33, 34, 35, 36, 37, 38, 39, 40, 41, 42, 43, 54, 55, 56, 57, 58, 59, 60, 61] (by decide +kernel) (by decide +kernel)
set_option maxRecDepth 20000 in
theorem gX4_copy_X0_walk : GoodIn wsX4_copy (wsV RX4 76 RX0 yX0_walk wsX0_walk) := goodIn_app (goodIn_of _ (by decide +kernel)) ggX4_copy_X0_walk
theorem dX4_copy_0 : decode cX4_copy 0 = .ok (.aload_n 0, 1) := by decide +kernel
theorem dX4_copy_1 : decode cX4_copy 1 = .ok (.iload_n 1, 1) := by decide +kernel
theorem dX4_copy_2 : decode cX4_copy 2 = .ok (.invokevirtual 106, 3) := by decide +kernel
theorem dX4_copy_5 : decode cX4_copy 5 = .ok (.astore_n 3, 1) := by decide +kernel
theorem dX4_copy_6 : decode cX4_copy 6 = .ok (.aload_n 0, 1) := by decide +kernel
theorem dX4_copy_7 : decode cX4_copy 7 = .ok (.iload_n 2, 1) := by decide +kernel
theorem dX4_copy_8 : decode cX4_copy 8 = .ok (.invokevirtual 44, 3) := by decide +kernel
theorem dX4_copy_11 : decode cX4_copy 11 = .ok (.astore 4, 2) := by decide +kernel
theorem dX4_copy_13 : decode cX4_copy 13 = .ok (.aload_n 3, 1) := by decide +kernel
theorem dX4_copy_14 : decode cX4_copy 14 = .ok (.getfield 111, 3) := by decide +kernel
theorem dX4_copy_17 : decode cX4_copy 17 = .ok (.aload 4, 2) := by decide +kernel
theorem dX4_copy_19 : decode cX4_copy 19 = .ok (.getfield 41, 3) := by decide +kernel
theorem dX4_copy_22 : decode cX4_copy 22 = .ok (.if_icmp .ne 15, 3) := by decide +kernel
theorem dX4_copy_25 : decode cX4_copy 25 = .ok (.aload_n 3, 1) := by decide +kernel
theorem dX4_copy_26 : decode cX4_copy 26 = .ok (.getfield 110, 3) := by decide +kernel
theorem dX4_copy_29 : decode cX4_copy 29 = .ok (.aload 4, 2) := by decide +kernel
theorem dX4_copy_31 : decode cX4_copy 31 = .ok (.getfield 59, 3) := by decide +kernel
theorem dX4_copy_34 : decode cX4_copy 34 = .ok (.if_icmp .eq 5, 3) := by decide +kernel
theorem dX4_copy_37 : decode cX4_copy 37 = .ok (.iconst 0, 1) := by decide +kernel
theorem dX4_copy_38 : decode cX4_copy 38 = .ok (.ireturn, 1) := by decide +kernel
theorem dX4_copy_39 : decode cX4_copy 39 = .ok (.aload 4, 2) := by decide +kernel
theorem dX4_copy_41 : decode cX4_copy 41 = .ok (.aload 4, 2) := by decide +kernel
theorem dX4_copy_43 : decode cX4_copy 43 = .ok (.getfield 59, 3) := by decide +kernel
theorem dX4_copy_46 : decode cX4_copy 46 = .ok (.invokevirtual 76, 3) := by decide +kernel
theorem dX4_copy_49 : decode cX4_copy 49 = .ok (.iconst 0, 1) := by decide +kernel
theorem dX4_copy_50 : decode cX4_copy 50 = .ok (.istore 5, 2) := by decide +kernel
theorem dX4_copy_52 : decode cX4_copy 52 = .ok (.iload 5, 2) := by decide +kernel
theorem dX4_copy_54 : decode cX4_copy 54 = .ok (.bipush 48, 2) := by decide +kernel
theorem dX4_copy_56 : decode cX4_copy 56 = .ok (.if_icmp .ge 24, 3) := by decide +kernel
theorem dX4_copy_59 : decode cX4_copy 59 = .ok (.aload_n 3, 1) := by decide +kernel
theorem dX4_copy_60 : decode cX4_copy 60 = .ok (.getfield 112, 3) := by decide +kernel
theorem dX4_copy_63 : decode cX4_copy 63 = .ok (.iload 5, 2) := by decide +kernel
theorem dX4_copy_65 : decode cX4_copy 65 = .ok (.aload 4, 2) := by decide +kernel
theorem dX4_copy_67 : decode cX4_copy 67 = .ok (.getfield 80, 3) := by decide +kernel
theorem dX4_copy_70 : decode cX4_copy 70 = .ok (.iload 5, 2) := by decide +kernel
theorem dX4_copy_72 : decode cX4_copy 72 = .ok (.iaload, 1) := by decide +kernel
theorem dX4_copy_73 : decode cX4_copy 73 = .ok (.iastore, 1) := by decide +kernel
theorem dX4_copy_74 : decode cX4_copy 74 = .ok (.iinc 5 1, 3) := by decide +kernel
theorem dX4_copy_77 : decode cX4_copy 77 = .ok (.goto (-25), 3) := by decide +kernel
theorem dX4_copy_80 : decode cX4_copy 80 = .ok (.aload_n 3, 1) := by decide +kernel
theorem dX4_copy_81 : decode cX4_copy 81 = .ok (.iconst 0, 1) := by decide +kernel
theorem dX4_copy_82 : decode cX4_copy 82 = .ok (.putfield 115, 3) := by decide +kernel
theorem dX4_copy_85 : decode cX4_copy 85 = .ok (.iconst 1, 1) := by decide +kernel
theorem dX4_copy_86 : decode cX4_copy 86 = .ok (.ireturn, 1) := by decide +kernel
set_option maxRecDepth 20000 in
theorem ggX4_starts_X4_workedOutAt : GoodIn wsX4_starts wsX4_workedOutAt := goodIn_ca (goodIn_r _ [5, 6, 7, 8, 9, 4, 10, 11, 12, 13, 14, 15, 16, 17, 18, 19, 20, 21, 22, 23, 24, 25, 26, 27, 28, 29, 30, 31, 32, 33, 34, 35, 36, 37, 38, 39, 40, 41, 42, 43, 44, 45, 46, 47, 48, 49, 50, 51, 52, 53, 54, 55, 56, 57, 58, 59, 60, 61, 62, 63, 64, 65, 66, 67, 68, 69, 70, 71, 72, 73, 74, 75, 76, 77, 78, 79, 80, 81, 82, 83, 84, 85, 86, 87, 88, 89, 90, 91, 92, 93, 94, 95, 96, 97, 98, 99, 100, 101, 102, 103, 104, 105, 106, 107, 108, 109, 110, 111, 112, 113, 114, 115, 116, 117, 118, 119, 120, 121, 122, 123, 124, 125, 126, 127, 128, 129, 130, 131, 132, 133, 134, 135, 136, 137, 138, 139, 140, 141, 142, 143, 144, 145, 146, 147, 148, 149] (by decide +kernel) (by decide +kernel)) (goodIn_sub (fun _ h => List.mem_cons_of_mem _ (List.mem_append_right _ h)) (by decide +kernel))
set_option maxRecDepth 20000 in
theorem gX4_starts_X4_workedOutAt : GoodIn wsX4_starts (wsV RX4 122 RX4 yX4_workedOutAt wsX4_workedOutAt) := goodIn_app (goodIn_of _ (by decide +kernel)) ggX4_starts_X4_workedOutAt
theorem dX4_starts_0 : decode cX4_starts 0 = .ok (.aload_n 0, 1) := by decide +kernel
theorem dX4_starts_1 : decode cX4_starts 1 = .ok (.iload_n 1, 1) := by decide +kernel
theorem dX4_starts_2 : decode cX4_starts 2 = .ok (.invokevirtual 122, 3) := by decide +kernel
theorem dX4_starts_5 : decode cX4_starts 5 = .ok (.getfield 125, 3) := by decide +kernel
theorem dX4_starts_8 : decode cX4_starts 8 = .ok (.ireturn, 1) := by decide +kernel
set_option maxRecDepth 20000 in
theorem ggX4_start_X4_pictureAt : GoodIn wsX4_start wsX4_pictureAt := goodIn_ca (goodIn_r _ [5, 6, 7, 8, 9, 4, 10, 11, 12, 139, 140, 141, 142, 143] (by decide +kernel) (by decide +kernel)) (goodIn_sub (fun _ h => List.mem_cons_of_mem _ (List.mem_append_right _ h)) (by decide +kernel))
set_option maxRecDepth 20000 in
theorem gX4_start_X4_pictureAt : GoodIn wsX4_start (wsV RX4 106 RX4 yX4_pictureAt wsX4_pictureAt) := goodIn_app (goodIn_of _ (by decide +kernel)) ggX4_start_X4_pictureAt
set_option maxRecDepth 20000 in
theorem ggX4_start_X4_needElement : GoodIn wsX4_start wsX4_needElement := goodIn_ca (goodIn_r _ [10, 11, 12] (by decide +kernel) (by decide +kernel)) (goodIn_sub (fun _ h => List.mem_cons_of_mem _ (List.mem_append_right _ h)) (by decide +kernel))
set_option maxRecDepth 20000 in
theorem gX4_start_X4_needElement : GoodIn wsX4_start (va_wsS RX4 48 yX4_needElement wsX4_needElement) := goodIn_app (goodIn_of _ (by decide +kernel)) ggX4_start_X4_needElement
set_option maxRecDepth 20000 in
theorem ggX4_start_X4_workedOutAt : GoodIn wsX4_start wsX4_workedOutAt := goodIn_ca (goodIn_r _ [16, 17, 1, 2, 3, 4, 5, 6, 7, 8, 9, 10, 11, 12, 18, 19, 20, 21, 22, 23, 24, 25, 26, 27, 28, 29, 30, 31, 32, 33, 34, 35, 36, 37, 38, 39, 40, 41, 42, 43, 44, 45, 46, 47, 48, 49, 50, 51, 52, 53, 54, 55, 56, 57, 58, 59, 60, 61, 62, 63, 64, 65, 66, 67, 68, 69, 70, 71, 72, 73, 74, 75, 76, 77, 78, 79, 80, 81, 82, 83, 84, 85, 86, 87, 88, 89, 90, 91, 92, 93, 94, 95, 96, 97, 98, 99, 100, 101, 102, 103, 104, 105, 106, 107, 108, 109, 110, 111, 112, 113, 114, 115, 116, 117, 118, 119, 120, 121, 122, 123, 124, 125, 126, 127, 129, 130, 131, 132, 133, 134, 135, 136, 137, 138, 139, 140, 141, 142, 143, 144, 145, 146, 147, 148, 149, 150] (by decide +kernel) (by decide +kernel)) (goodIn_sub (fun _ h => List.mem_cons_of_mem _ (List.mem_append_right _ h)) (by decide +kernel))
set_option maxRecDepth 20000 in
theorem gX4_start_X4_workedOutAt : GoodIn wsX4_start (wsV RX4 122 RX4 yX4_workedOutAt wsX4_workedOutAt) := goodIn_app (goodIn_of _ (by decide +kernel)) ggX4_start_X4_workedOutAt
set_option maxRecDepth 20000 in
theorem ggX4_start_X4_colourIn : GoodIn wsX4_start wsX4_colourIn := goodIn_r _ [110, 111, 112, 4, 113] (by decide +kernel) (by decide +kernel)
set_option maxRecDepth 20000 in
theorem gX4_start_X4_colourIn : GoodIn wsX4_start (va_wsS RX4 131 yX4_colourIn wsX4_colourIn) := goodIn_app (goodIn_of _ (by decide +kernel)) ggX4_start_X4_colourIn
theorem dX4_start_0 : decode cX4_start 0 = .ok (.iload_n 2, 1) := by decide +kernel
theorem dX4_start_1 : decode cX4_start 1 = .ok (.aload_n 0, 1) := by decide +kernel
theorem dX4_start_2 : decode cX4_start 2 = .ok (.iload_n 1, 1) := by decide +kernel
theorem dX4_start_3 : decode cX4_start 3 = .ok (.invokevirtual 106, 3) := by decide +kernel
theorem dX4_start_6 : decode cX4_start 6 = .ok (.getfield 111, 3) := by decide +kernel
theorem dX4_start_9 : decode cX4_start 9 = .ok (.invokestatic 48, 3) := by decide +kernel
theorem dX4_start_12 : decode cX4_start 12 = .ok (.aload_n 0, 1) := by decide +kernel
theorem dX4_start_13 : decode cX4_start 13 = .ok (.iload_n 1, 1) := by decide +kernel
theorem dX4_start_14 : decode cX4_start 14 = .ok (.invokevirtual 122, 3) := by decide +kernel
theorem dX4_start_17 : decode cX4_start 17 = .ok (.astore_n 3, 1) := by decide +kernel
theorem dX4_start_18 : decode cX4_start 18 = .ok (.aload_n 3, 1) := by decide +kernel
theorem dX4_start_19 : decode cX4_start 19 = .ok (.getfield 125, 3) := by decide +kernel
theorem dX4_start_22 : decode cX4_start 22 = .ok (.ifCond .ne 7, 3) := by decide +kernel
theorem dX4_start_25 : decode cX4_start 25 = .ok (.iconst (-1), 1) := by decide +kernel
theorem dX4_start_26 : decode cX4_start 26 = .ok (.goto 11, 3) := by decide +kernel
theorem dX4_start_29 : decode cX4_start 29 = .ok (.aload_n 3, 1) := by decide +kernel
theorem dX4_start_30 : decode cX4_start 30 = .ok (.getfield 128, 3) := by decide +kernel
theorem dX4_start_33 : decode cX4_start 33 = .ok (.iload_n 2, 1) := by decide +kernel
theorem dX4_start_34 : decode cX4_start 34 = .ok (.invokestatic 131, 3) := by decide +kernel
theorem dX4_start_37 : decode cX4_start 37 = .ok (.ireturn, 1) := by decide +kernel
set_option maxRecDepth 20000 in
theorem ggX4_tie_X4_workedOutAt : GoodIn wsX4_tie wsX4_workedOutAt := goodIn_ca (goodIn_r _ [7, 8, 9, 10, 11, 6, 12, 13, 14, 15, 16, 17, 18, 19, 20, 21, 22, 23, 24, 25, 26, 27, 28, 29, 30, 31, 32, 33, 34, 35, 36, 37, 38, 39, 40, 41, 42, 43, 44, 45, 46, 47, 48, 49, 50, 51, 52, 53, 54, 55, 56, 57, 58, 59, 60, 61, 62, 63, 64, 65, 66, 67, 68, 69, 70, 71, 72, 73, 74, 75, 76, 77, 78, 79, 80, 81, 82, 83, 84, 85, 86, 87, 88, 89, 90, 91, 92, 93, 94, 95, 96, 97, 98, 99, 100, 101, 102, 103, 104, 105, 106, 107, 108, 109, 110, 111, 112, 113, 114, 115, 116, 117, 118, 119, 120, 121, 122, 123, 124, 125, 126, 127, 128, 129, 139, 140, 141, 142, 143, 144, 145, 146, 147, 148, 149, 150, 151, 152, 153, 154, 155, 156, 157, 158, 159, 160] (by decide +kernel) (by decide +kernel)) (goodIn_sub (fun _ h => List.mem_cons_of_mem _ (List.mem_append_right _ h)) (by decide +kernel))
set_option maxRecDepth 20000 in
theorem gX4_tie_X4_workedOutAt : GoodIn wsX4_tie (wsV RX4 122 RX4 yX4_workedOutAt wsX4_workedOutAt) := goodIn_app (goodIn_of _ (by decide +kernel)) ggX4_tie_X4_workedOutAt
set_option maxRecDepth 20000 in
theorem ggX4_tie_X0_become : GoodIn wsX4_tie wsX0_become := goodIn_r _ [134, 135, 136, 137, 138, 111, 6, 112, 113, 114, 115, 139, 140, 141, 142, 143, 144, 145, 146, 147, 148, 161, 162, 163, 164, 165, 166, 167, 168] (by decide +kernel) (by decide +kernel)
set_option maxRecDepth 20000 in
theorem gX4_tie_X0_become : GoodIn wsX4_tie (wsV RX4 134 RX0 yX0_become wsX0_become) := goodIn_app (goodIn_of _ (by decide +kernel)) ggX4_tie_X0_become
theorem dX4_tie_0 : decode cX4_tie 0 = .ok (.aload_n 0, 1) := by decide +kernel
theorem dX4_tie_1 : decode cX4_tie 1 = .ok (.iload_n 1, 1) := by decide +kernel
theorem dX4_tie_2 : decode cX4_tie 2 = .ok (.invokevirtual 122, 3) := by decide +kernel
theorem dX4_tie_5 : decode cX4_tie 5 = .ok (.astore_n 2, 1) := by decide +kernel
theorem dX4_tie_6 : decode cX4_tie 6 = .ok (.aload_n 2, 1) := by decide +kernel
theorem dX4_tie_7 : decode cX4_tie 7 = .ok (.getfield 125, 3) := by decide +kernel
theorem dX4_tie_10 : decode cX4_tie 10 = .ok (.ifCond .eq 12, 3) := by decide +kernel
theorem dX4_tie_13 : decode cX4_tie 13 = .ok (.aload_n 0, 1) := by decide +kernel
theorem dX4_tie_14 : decode cX4_tie 14 = .ok (.getfield 28, 3) := by decide +kernel
theorem dX4_tie_17 : decode cX4_tie 17 = .ok (.bipush 8, 2) := by decide +kernel
theorem dX4_tie_19 : decode cX4_tie 19 = .ok (.if_icmp .lt 5, 3) := by decide +kernel
theorem dX4_tie_22 : decode cX4_tie 22 = .ok (.iconst (-1), 1) := by decide +kernel
theorem dX4_tie_23 : decode cX4_tie 23 = .ok (.ireturn, 1) := by decide +kernel
theorem dX4_tie_24 : decode cX4_tie 24 = .ok (.aload_n 0, 1) := by decide +kernel
theorem dX4_tie_25 : decode cX4_tie 25 = .ok (.getfield 11, 3) := by decide +kernel
theorem dX4_tie_28 : decode cX4_tie 28 = .ok (.aload_n 0, 1) := by decide +kernel
theorem dX4_tie_29 : decode cX4_tie 29 = .ok (.getfield 28, 3) := by decide +kernel
theorem dX4_tie_32 : decode cX4_tie 32 = .ok (.aaload, 1) := by decide +kernel
theorem dX4_tie_33 : decode cX4_tie 33 = .ok (.aload_n 2, 1) := by decide +kernel
theorem dX4_tie_34 : decode cX4_tie 34 = .ok (.invokevirtual 134, 3) := by decide +kernel
theorem dX4_tie_37 : decode cX4_tie 37 = .ok (.aload_n 0, 1) := by decide +kernel
theorem dX4_tie_38 : decode cX4_tie 38 = .ok (.dup, 1) := by decide +kernel
theorem dX4_tie_39 : decode cX4_tie 39 = .ok (.getfield 28, 3) := by decide +kernel
theorem dX4_tie_42 : decode cX4_tie 42 = .ok (.dup_x1, 1) := by decide +kernel
theorem dX4_tie_43 : decode cX4_tie 43 = .ok (.iconst 1, 1) := by decide +kernel
theorem dX4_tie_44 : decode cX4_tie 44 = .ok (.iadd, 1) := by decide +kernel
theorem dX4_tie_45 : decode cX4_tie 45 = .ok (.putfield 28, 3) := by decide +kernel
theorem dX4_tie_48 : decode cX4_tie 48 = .ok (.ireturn, 1) := by decide +kernel
set_option maxRecDepth 20000 in
theorem ggX4_suspect_X4_workedOutAt : GoodIn wsX4_suspect wsX4_workedOutAt := goodIn_ca (goodIn_r _ [5, 6, 7, 8, 9, 4, 10, 11, 12, 13, 14, 15, 16, 17, 18, 19, 20, 21, 22, 23, 24, 25, 26, 27, 28, 29, 30, 31, 32, 33, 34, 35, 36, 37, 38, 39, 40, 41, 42, 43, 44, 45, 46, 47, 48, 49, 50, 51, 52, 53, 54, 55, 56, 57, 58, 59, 60, 61, 62, 63, 64, 65, 66, 67, 68, 69, 70, 71, 72, 73, 74, 75, 76, 77, 78, 79, 80, 81, 82, 83, 84, 85, 86, 87, 88, 89, 90, 91, 92, 93, 94, 95, 96, 97, 98, 99, 100, 101, 102, 103, 104, 105, 106, 107, 108, 109, 110, 111, 112, 113, 114, 115, 116, 117, 118, 119, 120, 121, 122, 123, 124, 125, 126, 127, 128, 129, 130, 131, 132, 133, 134, 135, 136, 137, 138, 139, 140, 141, 142, 143, 144, 145, 146, 147, 148, 149] (by decide +kernel) (by decide +kernel)) (goodIn_sub (fun _ h => List.mem_cons_of_mem _ (List.mem_append_right _ h)) (by decide +kernel))
set_option maxRecDepth 20000 in
theorem gX4_suspect_X4_workedOutAt : GoodIn wsX4_suspect (wsV RX4 122 RX4 yX4_workedOutAt wsX4_workedOutAt) := goodIn_app (goodIn_of _ (by decide +kernel)) ggX4_suspect_X4_workedOutAt
set_option maxRecDepth 20000 in
theorem ggX4_suspect_X4_needElement : GoodIn wsX4_suspect wsX4_needElement := goodIn_ca (goodIn_r _ [15, 16, 17] (by decide +kernel) (by decide +kernel)) (goodIn_sub (fun _ h => List.mem_cons_of_mem _ (List.mem_append_right _ h)) (by decide +kernel))
set_option maxRecDepth 20000 in
theorem gX4_suspect_X4_needElement : GoodIn wsX4_suspect (va_wsS RX4 48 yX4_needElement wsX4_needElement) := goodIn_app (goodIn_of _ (by decide +kernel)) ggX4_suspect_X4_needElement
theorem dX4_suspect_0 : decode cX4_suspect 0 = .ok (.aload_n 0, 1) := by decide +kernel
theorem dX4_suspect_1 : decode cX4_suspect 1 = .ok (.iload_n 1, 1) := by decide +kernel
theorem dX4_suspect_2 : decode cX4_suspect 2 = .ok (.invokevirtual 122, 3) := by decide +kernel
theorem dX4_suspect_5 : decode cX4_suspect 5 = .ok (.astore_n 3, 1) := by decide +kernel
theorem dX4_suspect_6 : decode cX4_suspect 6 = .ok (.iload_n 2, 1) := by decide +kernel
theorem dX4_suspect_7 : decode cX4_suspect 7 = .ok (.iconst (-1), 1) := by decide +kernel
theorem dX4_suspect_8 : decode cX4_suspect 8 = .ok (.if_icmp .ne 8, 3) := by decide +kernel
theorem dX4_suspect_11 : decode cX4_suspect 11 = .ok (.aload_n 3, 1) := by decide +kernel
theorem dX4_suspect_12 : decode cX4_suspect 12 = .ok (.getfield 138, 3) := by decide +kernel
theorem dX4_suspect_15 : decode cX4_suspect 15 = .ok (.ireturn, 1) := by decide +kernel
theorem dX4_suspect_16 : decode cX4_suspect 16 = .ok (.iload_n 2, 1) := by decide +kernel
theorem dX4_suspect_17 : decode cX4_suspect 17 = .ok (.aload_n 3, 1) := by decide +kernel
theorem dX4_suspect_18 : decode cX4_suspect 18 = .ok (.getfield 138, 3) := by decide +kernel
theorem dX4_suspect_21 : decode cX4_suspect 21 = .ok (.invokestatic 48, 3) := by decide +kernel
theorem dX4_suspect_24 : decode cX4_suspect 24 = .ok (.aload_n 3, 1) := by decide +kernel
theorem dX4_suspect_25 : decode cX4_suspect 25 = .ok (.getfield 141, 3) := by decide +kernel
theorem dX4_suspect_28 : decode cX4_suspect 28 = .ok (.iload_n 2, 1) := by decide +kernel
theorem dX4_suspect_29 : decode cX4_suspect 29 = .ok (.iaload, 1) := by decide +kernel
theorem dX4_suspect_30 : decode cX4_suspect 30 = .ok (.ireturn, 1) := by decide +kernel
set_option maxRecDepth 20000 in
theorem ggX4_count_X4_needElement : GoodIn wsX4_count wsX4_needElement := goodIn_ca (goodIn_r _ [6, 7, 8] (by decide +kernel) (by decide +kernel)) (goodIn_sub (fun _ h => List.mem_cons_of_mem _ (List.mem_append_right _ h)) (by decide +kernel))
set_option maxRecDepth 20000 in
theorem gX4_count_X4_needElement : GoodIn wsX4_count (va_wsS RX4 48 yX4_needElement wsX4_needElement) := goodIn_app (goodIn_of _ (by decide +kernel)) ggX4_count_X4_needElement
theorem dX4_count_0 : decode cX4_count 0 = .ok (.iload_n 1, 1) := by decide +kernel
theorem dX4_count_1 : decode cX4_count 1 = .ok (.iconst 2, 1) := by decide +kernel
theorem dX4_count_2 : decode cX4_count 2 = .ok (.invokestatic 48, 3) := by decide +kernel
theorem dX4_count_5 : decode cX4_count 5 = .ok (.iload_n 1, 1) := by decide +kernel
theorem dX4_count_6 : decode cX4_count 6 = .ok (.ifCond .ne 10, 3) := by decide +kernel
theorem dX4_count_9 : decode cX4_count 9 = .ok (.aload_n 0, 1) := by decide +kernel
theorem dX4_count_10 : decode cX4_count 10 = .ok (.getfield 28, 3) := by decide +kernel
theorem dX4_count_13 : decode cX4_count 13 = .ok (.goto 7, 3) := by decide +kernel
theorem dX4_count_16 : decode cX4_count 16 = .ok (.aload_n 0, 1) := by decide +kernel
theorem dX4_count_17 : decode cX4_count 17 = .ok (.getfield 32, 3) := by decide +kernel
theorem dX4_count_20 : decode cX4_count 20 = .ok (.ireturn, 1) := by decide +kernel
set_option maxRecDepth 20000 in
theorem ggX4_bandAt_X4_needElement : GoodIn wsX4_bandAt wsX4_needElement := goodIn_ca (goodIn_r _ [6, 7, 8] (by decide +kernel) (by decide +kernel)) (goodIn_sub (fun _ h => List.mem_cons_of_mem _ (List.mem_append_right _ h)) (by decide +kernel))
set_option maxRecDepth 20000 in
theorem gX4_bandAt_X4_needElement : GoodIn wsX4_bandAt (va_wsS RX4 48 yX4_needElement wsX4_needElement) := goodIn_app (goodIn_of _ (by decide +kernel)) ggX4_bandAt_X4_needElement
theorem dX4_bandAt_0 : decode cX4_bandAt 0 = .ok (.iload_n 1, 1) := by decide +kernel
theorem dX4_bandAt_1 : decode cX4_bandAt 1 = .ok (.aload_n 0, 1) := by decide +kernel
theorem dX4_bandAt_2 : decode cX4_bandAt 2 = .ok (.getfield 28, 3) := by decide +kernel
theorem dX4_bandAt_5 : decode cX4_bandAt 5 = .ok (.invokestatic 48, 3) := by decide +kernel
theorem dX4_bandAt_8 : decode cX4_bandAt 8 = .ok (.aload_n 0, 1) := by decide +kernel
theorem dX4_bandAt_9 : decode cX4_bandAt 9 = .ok (.getfield 11, 3) := by decide +kernel
theorem dX4_bandAt_12 : decode cX4_bandAt 12 = .ok (.iload_n 1, 1) := by decide +kernel
theorem dX4_bandAt_13 : decode cX4_bandAt 13 = .ok (.aaload, 1) := by decide +kernel
theorem dX4_bandAt_14 : decode cX4_bandAt 14 = .ok (.areturn, 1) := by decide +kernel
set_option maxRecDepth 20000 in
theorem ggX4_pictureAt_X4_needElement : GoodIn wsX4_pictureAt wsX4_needElement := goodIn_ca (goodIn_r _ [6, 7, 8] (by decide +kernel) (by decide +kernel)) (goodIn_sub (fun _ h => List.mem_cons_of_mem _ (List.mem_append_right _ h)) (by decide +kernel))
set_option maxRecDepth 20000 in
theorem gX4_pictureAt_X4_needElement : GoodIn wsX4_pictureAt (va_wsS RX4 48 yX4_needElement wsX4_needElement) := goodIn_app (goodIn_of _ (by decide +kernel)) ggX4_pictureAt_X4_needElement
theorem dX4_pictureAt_0 : decode cX4_pictureAt 0 = .ok (.iload_n 1, 1) := by decide +kernel
theorem dX4_pictureAt_1 : decode cX4_pictureAt 1 = .ok (.aload_n 0, 1) := by decide +kernel
theorem dX4_pictureAt_2 : decode cX4_pictureAt 2 = .ok (.getfield 32, 3) := by decide +kernel
theorem dX4_pictureAt_5 : decode cX4_pictureAt 5 = .ok (.invokestatic 48, 3) := by decide +kernel
theorem dX4_pictureAt_8 : decode cX4_pictureAt 8 = .ok (.aload_n 0, 1) := by decide +kernel
theorem dX4_pictureAt_9 : decode cX4_pictureAt 9 = .ok (.getfield 17, 3) := by decide +kernel
theorem dX4_pictureAt_12 : decode cX4_pictureAt 12 = .ok (.iload_n 1, 1) := by decide +kernel
theorem dX4_pictureAt_13 : decode cX4_pictureAt 13 = .ok (.aaload, 1) := by decide +kernel
theorem dX4_pictureAt_14 : decode cX4_pictureAt 14 = .ok (.areturn, 1) := by decide +kernel
set_option maxRecDepth 20000 in
theorem ggX4_workedOutAt_X4_pictureAt : GoodIn wsX4_workedOutAt wsX4_pictureAt := goodIn_ca (goodIn_r _ [6, 7, 8, 9, 10, 5, 11, 12, 13, 134, 135, 136, 137, 138] (by decide +kernel) (by decide +kernel)) (goodIn_sub (fun _ h => List.mem_cons_of_mem _ (List.mem_append_right _ h)) (by decide +kernel))
set_option maxRecDepth 20000 in
theorem gX4_workedOutAt_X4_pictureAt : GoodIn wsX4_workedOutAt (wsV RX4 106 RX4 yX4_pictureAt wsX4_pictureAt) := goodIn_app (goodIn_of _ (by decide +kernel)) ggX4_workedOutAt_X4_pictureAt
set_option maxRecDepth 20000 in
theorem ggX4_workedOutAt_X1_workOut : GoodIn wsX4_workedOutAt wsX1_workOut := goodIn_r _ [18, 19, 20, 21, 22, 23, 17, 24, 25, 26, 27, 28, 29, 5, 30, 31, 32, 33, 34, 35, 36, 37, 38, 39, 40, 41, 42, 43, 44, 45, 46, 47, 48, 49, 50, 51, 52, 53, 54, 55, 56, 57, 58, 59, 60, 61, 62, 63, 64, 65, 66, 67, 68, 69, 70, 71, 72, 73, 74, 75, 76, 77, 78, 79, 80, 81, 82, 83, 84, 85, 86, 87, 88, 89, 90, 91, 92, 93, 94, 95, 96, 97, 98, 99, 100, 101, 102, 103, 104, 105, 106, 107, 108, 109, 110, 111, 112, 113, 114, 115, 116, 117, 118, 119, 120, 121, 122, 123, 139, 140, 141, 142, 143, 144, 124, 125, 126, 127, 128, 129, 130, 131, 132, 133, 145] (by decide +kernel) (by decide +kernel)
set_option maxRecDepth 20000 in
theorem gX4_workedOutAt_X1_workOut : GoodIn wsX4_workedOutAt (wsV RX4 144 RX1 yX1_workOut wsX1_workOut) := goodIn_app (goodIn_of _ (by decide +kernel)) ggX4_workedOutAt_X1_workOut
theorem dX4_workedOutAt_0 : decode cX4_workedOutAt 0 = .ok (.aload_n 0, 1) := by decide +kernel
theorem dX4_workedOutAt_1 : decode cX4_workedOutAt 1 = .ok (.iload_n 1, 1) := by decide +kernel
theorem dX4_workedOutAt_2 : decode cX4_workedOutAt 2 = .ok (.invokevirtual 106, 3) := by decide +kernel
theorem dX4_workedOutAt_5 : decode cX4_workedOutAt 5 = .ok (.astore_n 2, 1) := by decide +kernel
theorem dX4_workedOutAt_6 : decode cX4_workedOutAt 6 = .ok (.aload_n 2, 1) := by decide +kernel
theorem dX4_workedOutAt_7 : decode cX4_workedOutAt 7 = .ok (.getfield 115, 3) := by decide +kernel
theorem dX4_workedOutAt_10 : decode cX4_workedOutAt 10 = .ok (.ifCond .ne 11, 3) := by decide +kernel
theorem dX4_workedOutAt_13 : decode cX4_workedOutAt 13 = .ok (.aload_n 0, 1) := by decide +kernel
theorem dX4_workedOutAt_14 : decode cX4_workedOutAt 14 = .ok (.getfield 24, 3) := by decide +kernel
theorem dX4_workedOutAt_17 : decode cX4_workedOutAt 17 = .ok (.aload_n 2, 1) := by decide +kernel
theorem dX4_workedOutAt_18 : decode cX4_workedOutAt 18 = .ok (.invokevirtual 144, 3) := by decide +kernel
theorem dX4_workedOutAt_21 : decode cX4_workedOutAt 21 = .ok (.aload_n 2, 1) := by decide +kernel
theorem dX4_workedOutAt_22 : decode cX4_workedOutAt 22 = .ok (.areturn, 1) := by decide +kernel
theorem dX4_needElement_0 : decode cX4_needElement 0 = .ok (.iload_n 0, 1) := by decide +kernel
theorem dX4_needElement_1 : decode cX4_needElement 1 = .ok (.ifCond .lt 8, 3) := by decide +kernel
theorem dX4_needElement_4 : decode cX4_needElement 4 = .ok (.iload_n 0, 1) := by decide +kernel
theorem dX4_needElement_5 : decode cX4_needElement 5 = .ok (.iload_n 1, 1) := by decide +kernel
theorem dX4_needElement_6 : decode cX4_needElement 6 = .ok (.if_icmp .lt 13, 3) := by decide +kernel
theorem dX4_needElement_9 : decode cX4_needElement 9 = .ok (.new 147, 3) := by decide +kernel
theorem dX4_needElement_12 : decode cX4_needElement 12 = .ok (.dup, 1) := by decide +kernel
theorem dX4_needElement_13 : decode cX4_needElement 13 = .ok (.ldc 149, 2) := by decide +kernel
theorem dX4_needElement_15 : decode cX4_needElement 15 = .ok (.invokespecial 151, 3) := by decide +kernel
theorem dX4_needElement_18 : decode cX4_needElement 18 = .ok (.athrow, 1) := by decide +kernel
theorem dX4_needElement_19 : decode cX4_needElement 19 = .ok (.return_, 1) := by decide +kernel
theorem dX4_needArgument_0 : decode cX4_needArgument 0 = .ok (.iload_n 0, 1) := by decide +kernel
theorem dX4_needArgument_1 : decode cX4_needArgument 1 = .ok (.ifCond .lt 8, 3) := by decide +kernel
theorem dX4_needArgument_4 : decode cX4_needArgument 4 = .ok (.iload_n 0, 1) := by decide +kernel
theorem dX4_needArgument_5 : decode cX4_needArgument 5 = .ok (.iload_n 1, 1) := by decide +kernel
theorem dX4_needArgument_6 : decode cX4_needArgument 6 = .ok (.if_icmp .lt 13, 3) := by decide +kernel
theorem dX4_needArgument_9 : decode cX4_needArgument 9 = .ok (.new 96, 3) := by decide +kernel
theorem dX4_needArgument_12 : decode cX4_needArgument 12 = .ok (.dup, 1) := by decide +kernel
theorem dX4_needArgument_13 : decode cX4_needArgument 13 = .ok (.ldc 152, 2) := by decide +kernel
theorem dX4_needArgument_15 : decode cX4_needArgument 15 = .ok (.invokespecial 100, 3) := by decide +kernel
theorem dX4_needArgument_18 : decode cX4_needArgument 18 = .ok (.athrow, 1) := by decide +kernel
theorem dX4_needArgument_19 : decode cX4_needArgument 19 = .ok (.return_, 1) := by decide +kernel
theorem dX4_mayBeThreads_0 : decode cX4_mayBeThreads 0 = .ok (.iload_n 0, 1) := by decide +kernel
theorem dX4_mayBeThreads_1 : decode cX4_mayBeThreads 1 = .ok (.iconst 2, 1) := by decide +kernel
theorem dX4_mayBeThreads_2 : decode cX4_mayBeThreads 2 = .ok (.if_icmp .lt 13, 3) := by decide +kernel
theorem dX4_mayBeThreads_5 : decode cX4_mayBeThreads 5 = .ok (.iload_n 0, 1) := by decide +kernel
theorem dX4_mayBeThreads_6 : decode cX4_mayBeThreads 6 = .ok (.bipush 6, 2) := by decide +kernel
theorem dX4_mayBeThreads_8 : decode cX4_mayBeThreads 8 = .ok (.if_icmp .gt 7, 3) := by decide +kernel
theorem dX4_mayBeThreads_11 : decode cX4_mayBeThreads 11 = .ok (.iconst 1, 1) := by decide +kernel
theorem dX4_mayBeThreads_12 : decode cX4_mayBeThreads 12 = .ok (.goto 4, 3) := by decide +kernel
theorem dX4_mayBeThreads_15 : decode cX4_mayBeThreads 15 = .ok (.iconst 0, 1) := by decide +kernel
theorem dX4_mayBeThreads_16 : decode cX4_mayBeThreads 16 = .ok (.ireturn, 1) := by decide +kernel
theorem dX4_knotsIn_0 : decode cX4_knotsIn 0 = .ok (.iload_n 0, 1) := by decide +kernel
theorem dX4_knotsIn_1 : decode cX4_knotsIn 1 = .ok (.iload_n 1, 1) := by decide +kernel
theorem dX4_knotsIn_2 : decode cX4_knotsIn 2 = .ok (.iconst 1, 1) := by decide +kernel
theorem dX4_knotsIn_3 : decode cX4_knotsIn 3 = .ok (.iand, 1) := by decide +kernel
theorem dX4_knotsIn_4 : decode cX4_knotsIn 4 = .ok (.isub, 1) := by decide +kernel
theorem dX4_knotsIn_5 : decode cX4_knotsIn 5 = .ok (.iconst 1, 1) := by decide +kernel
theorem dX4_knotsIn_6 : decode cX4_knotsIn 6 = .ok (.ishr, 1) := by decide +kernel
theorem dX4_knotsIn_7 : decode cX4_knotsIn 7 = .ok (.ireturn, 1) := by decide +kernel
theorem dX4_leftPlaceOf_0 : decode cX4_leftPlaceOf 0 = .ok (.iconst 2, 1) := by decide +kernel
theorem dX4_leftPlaceOf_1 : decode cX4_leftPlaceOf 1 = .ok (.iload_n 1, 1) := by decide +kernel
theorem dX4_leftPlaceOf_2 : decode cX4_leftPlaceOf 2 = .ok (.imul, 1) := by decide +kernel
theorem dX4_leftPlaceOf_3 : decode cX4_leftPlaceOf 3 = .ok (.iload_n 0, 1) := by decide +kernel
theorem dX4_leftPlaceOf_4 : decode cX4_leftPlaceOf 4 = .ok (.iconst 1, 1) := by decide +kernel
theorem dX4_leftPlaceOf_5 : decode cX4_leftPlaceOf 5 = .ok (.iand, 1) := by decide +kernel
theorem dX4_leftPlaceOf_6 : decode cX4_leftPlaceOf 6 = .ok (.iadd, 1) := by decide +kernel
theorem dX4_leftPlaceOf_7 : decode cX4_leftPlaceOf 7 = .ok (.ireturn, 1) := by decide +kernel
theorem dX4_spotOf_0 : decode cX4_spotOf 0 = .ok (.iconst 3, 1) := by decide +kernel
theorem dX4_spotOf_1 : decode cX4_spotOf 1 = .ok (.iload_n 0, 1) := by decide +kernel
theorem dX4_spotOf_2 : decode cX4_spotOf 2 = .ok (.imul, 1) := by decide +kernel
theorem dX4_spotOf_3 : decode cX4_spotOf 3 = .ok (.iload_n 1, 1) := by decide +kernel
theorem dX4_spotOf_4 : decode cX4_spotOf 4 = .ok (.iadd, 1) := by decide +kernel
theorem dX4_spotOf_5 : decode cX4_spotOf 5 = .ok (.ireturn, 1) := by decide +kernel
theorem dX4_kindIn_0 : decode cX4_kindIn 0 = .ok (.iload_n 0, 1) := by decide +kernel
theorem dX4_kindIn_1 : decode cX4_kindIn 1 = .ok (.iconst 2, 1) := by decide +kernel
theorem dX4_kindIn_2 : decode cX4_kindIn 2 = .ok (.iload_n 1, 1) := by decide +kernel
theorem dX4_kindIn_3 : decode cX4_kindIn 3 = .ok (.imul, 1) := by decide +kernel
theorem dX4_kindIn_4 : decode cX4_kindIn 4 = .ok (.ishr, 1) := by decide +kernel
theorem dX4_kindIn_5 : decode cX4_kindIn 5 = .ok (.iconst 3, 1) := by decide +kernel
theorem dX4_kindIn_6 : decode cX4_kindIn 6 = .ok (.iand, 1) := by decide +kernel
theorem dX4_kindIn_7 : decode cX4_kindIn 7 = .ok (.ireturn, 1) := by decide +kernel
theorem dX4_withKind_0 : decode cX4_withKind 0 = .ok (.iload_n 0, 1) := by decide +kernel
theorem dX4_withKind_1 : decode cX4_withKind 1 = .ok (.iconst 3, 1) := by decide +kernel
theorem dX4_withKind_2 : decode cX4_withKind 2 = .ok (.iconst 2, 1) := by decide +kernel
theorem dX4_withKind_3 : decode cX4_withKind 3 = .ok (.iload_n 1, 1) := by decide +kernel
theorem dX4_withKind_4 : decode cX4_withKind 4 = .ok (.imul, 1) := by decide +kernel
theorem dX4_withKind_5 : decode cX4_withKind 5 = .ok (.ishl, 1) := by decide +kernel
theorem dX4_withKind_6 : decode cX4_withKind 6 = .ok (.iconst (-1), 1) := by decide +kernel
theorem dX4_withKind_7 : decode cX4_withKind 7 = .ok (.ixor, 1) := by decide +kernel
theorem dX4_withKind_8 : decode cX4_withKind 8 = .ok (.iand, 1) := by decide +kernel
theorem dX4_withKind_9 : decode cX4_withKind 9 = .ok (.iload_n 2, 1) := by decide +kernel
theorem dX4_withKind_10 : decode cX4_withKind 10 = .ok (.iconst 2, 1) := by decide +kernel
theorem dX4_withKind_11 : decode cX4_withKind 11 = .ok (.iload_n 1, 1) := by decide +kernel
theorem dX4_withKind_12 : decode cX4_withKind 12 = .ok (.imul, 1) := by decide +kernel
theorem dX4_withKind_13 : decode cX4_withKind 13 = .ok (.ishl, 1) := by decide +kernel
theorem dX4_withKind_14 : decode cX4_withKind 14 = .ok (.ior, 1) := by decide +kernel
theorem dX4_withKind_15 : decode cX4_withKind 15 = .ok (.ireturn, 1) := by decide +kernel
theorem dX4_showingPlace_0 : decode cX4_showingPlace 0 = .ok (.iload_n 0, 1) := by decide +kernel
theorem dX4_showingPlace_1 : decode cX4_showingPlace 1 = .ok (.iload_n 1, 1) := by decide +kernel
theorem dX4_showingPlace_2 : decode cX4_showingPlace 2 = .ok (.iconst 1, 1) := by decide +kernel
theorem dX4_showingPlace_3 : decode cX4_showingPlace 3 = .ok (.iand, 1) := by decide +kernel
theorem dX4_showingPlace_4 : decode cX4_showingPlace 4 = .ok (.iadd, 1) := by decide +kernel
theorem dX4_showingPlace_5 : decode cX4_showingPlace 5 = .ok (.ireturn, 1) := by decide +kernel
theorem dX4_bitOf_0 : decode cX4_bitOf 0 = .ok (.iconst 2, 1) := by decide +kernel
theorem dX4_bitOf_1 : decode cX4_bitOf 1 = .ok (.iconst 5, 1) := by decide +kernel
theorem dX4_bitOf_2 : decode cX4_bitOf 2 = .ok (.iload_n 0, 1) := by decide +kernel
theorem dX4_bitOf_3 : decode cX4_bitOf 3 = .ok (.isub, 1) := by decide +kernel
theorem dX4_bitOf_4 : decode cX4_bitOf 4 = .ok (.imul, 1) := by decide +kernel
theorem dX4_bitOf_5 : decode cX4_bitOf 5 = .ok (.ireturn, 1) := by decide +kernel
set_option maxRecDepth 20000 in
theorem ggX4_colourIn_X4_bitOf : GoodIn wsX4_colourIn wsX4_bitOf := goodIn_r _ [4] (by decide +kernel) (by decide +kernel)
set_option maxRecDepth 20000 in
theorem gX4_colourIn_X4_bitOf : GoodIn wsX4_colourIn (va_wsS RX4 154 yX4_bitOf wsX4_bitOf) := goodIn_app (goodIn_of _ (by decide +kernel)) ggX4_colourIn_X4_bitOf
theorem dX4_colourIn_0 : decode cX4_colourIn 0 = .ok (.iload_n 0, 1) := by decide +kernel
theorem dX4_colourIn_1 : decode cX4_colourIn 1 = .ok (.iload_n 1, 1) := by decide +kernel
theorem dX4_colourIn_2 : decode cX4_colourIn 2 = .ok (.invokestatic 154, 3) := by decide +kernel
theorem dX4_colourIn_5 : decode cX4_colourIn 5 = .ok (.ishr, 1) := by decide +kernel
theorem dX4_colourIn_6 : decode cX4_colourIn 6 = .ok (.iconst 3, 1) := by decide +kernel
theorem dX4_colourIn_7 : decode cX4_colourIn 7 = .ok (.iand, 1) := by decide +kernel
theorem dX4_colourIn_8 : decode cX4_colourIn 8 = .ok (.ireturn, 1) := by decide +kernel
theorem dX4_exchanged_0 : decode cX4_exchanged 0 = .ok (.iload_n 0, 1) := by decide +kernel
theorem dX4_exchanged_1 : decode cX4_exchanged 1 = .ok (.iload_n 1, 1) := by decide +kernel
theorem dX4_exchanged_2 : decode cX4_exchanged 2 = .ok (.ishr, 1) := by decide +kernel
theorem dX4_exchanged_3 : decode cX4_exchanged 3 = .ok (.iload_n 0, 1) := by decide +kernel
theorem dX4_exchanged_4 : decode cX4_exchanged 4 = .ok (.iload_n 1, 1) := by decide +kernel
theorem dX4_exchanged_5 : decode cX4_exchanged 5 = .ok (.iconst 2, 1) := by decide +kernel
theorem dX4_exchanged_6 : decode cX4_exchanged 6 = .ok (.iadd, 1) := by decide +kernel
theorem dX4_exchanged_7 : decode cX4_exchanged 7 = .ok (.ishr, 1) := by decide +kernel
theorem dX4_exchanged_8 : decode cX4_exchanged 8 = .ok (.ixor, 1) := by decide +kernel
theorem dX4_exchanged_9 : decode cX4_exchanged 9 = .ok (.iconst 3, 1) := by decide +kernel
theorem dX4_exchanged_10 : decode cX4_exchanged 10 = .ok (.iand, 1) := by decide +kernel
theorem dX4_exchanged_11 : decode cX4_exchanged 11 = .ok (.istore_n 2, 1) := by decide +kernel
theorem dX4_exchanged_12 : decode cX4_exchanged 12 = .ok (.iload_n 0, 1) := by decide +kernel
theorem dX4_exchanged_13 : decode cX4_exchanged 13 = .ok (.iload_n 2, 1) := by decide +kernel
theorem dX4_exchanged_14 : decode cX4_exchanged 14 = .ok (.iload_n 1, 1) := by decide +kernel
theorem dX4_exchanged_15 : decode cX4_exchanged 15 = .ok (.ishl, 1) := by decide +kernel
theorem dX4_exchanged_16 : decode cX4_exchanged 16 = .ok (.ixor, 1) := by decide +kernel
theorem dX4_exchanged_17 : decode cX4_exchanged 17 = .ok (.iload_n 2, 1) := by decide +kernel
theorem dX4_exchanged_18 : decode cX4_exchanged 18 = .ok (.iload_n 1, 1) := by decide +kernel
theorem dX4_exchanged_19 : decode cX4_exchanged 19 = .ok (.iconst 2, 1) := by decide +kernel
theorem dX4_exchanged_20 : decode cX4_exchanged 20 = .ok (.iadd, 1) := by decide +kernel
theorem dX4_exchanged_21 : decode cX4_exchanged 21 = .ok (.ishl, 1) := by decide +kernel
theorem dX4_exchanged_22 : decode cX4_exchanged 22 = .ok (.ixor, 1) := by decide +kernel
theorem dX4_exchanged_23 : decode cX4_exchanged 23 = .ok (.ireturn, 1) := by decide +kernel
theorem dX5_init_0 : decode cX5_init 0 = .ok (.aload_n 0, 1) := by decide +kernel
theorem dX5_init_1 : decode cX5_init 1 = .ok (.invokespecial 1, 3) := by decide +kernel
theorem dX5_init_4 : decode cX5_init 4 = .ok (.aload_n 0, 1) := by decide +kernel
theorem dX5_init_5 : decode cX5_init 5 = .ok (.bipush 8, 2) := by decide +kernel
theorem dX5_init_7 : decode cX5_init 7 = .ok (.newarray .int, 2) := by decide +kernel
theorem dX5_init_9 : decode cX5_init 9 = .ok (.putfield 7, 3) := by decide +kernel
theorem dX5_init_12 : decode cX5_init 12 = .ok (.aload_n 0, 1) := by decide +kernel
theorem dX5_init_13 : decode cX5_init 13 = .ok (.bipush 8, 2) := by decide +kernel
theorem dX5_init_15 : decode cX5_init 15 = .ok (.newarray .int, 2) := by decide +kernel
theorem dX5_init_17 : decode cX5_init 17 = .ok (.putfield 13, 3) := by decide +kernel
theorem dX5_init_20 : decode cX5_init 20 = .ok (.aload_n 0, 1) := by decide +kernel
theorem dX5_init_21 : decode cX5_init 21 = .ok (.bipush 48, 2) := by decide +kernel
theorem dX5_init_23 : decode cX5_init 23 = .ok (.newarray .int, 2) := by decide +kernel
theorem dX5_init_25 : decode cX5_init 25 = .ok (.putfield 16, 3) := by decide +kernel
theorem dX5_init_28 : decode cX5_init 28 = .ok (.aload_n 0, 1) := by decide +kernel
theorem dX5_init_29 : decode cX5_init 29 = .ok (.sipush 384, 3) := by decide +kernel
theorem dX5_init_32 : decode cX5_init 32 = .ok (.newarray .int, 2) := by decide +kernel
theorem dX5_init_34 : decode cX5_init 34 = .ok (.putfield 19, 3) := by decide +kernel
theorem dX5_init_37 : decode cX5_init 37 = .ok (.aload_n 0, 1) := by decide +kernel
theorem dX5_init_38 : decode cX5_init 38 = .ok (.bipush 8, 2) := by decide +kernel
theorem dX5_init_40 : decode cX5_init 40 = .ok (.newarray .int, 2) := by decide +kernel
theorem dX5_init_42 : decode cX5_init 42 = .ok (.putfield 22, 3) := by decide +kernel
theorem dX5_init_45 : decode cX5_init 45 = .ok (.aload_n 0, 1) := by decide +kernel
theorem dX5_init_46 : decode cX5_init 46 = .ok (.bipush 8, 2) := by decide +kernel
theorem dX5_init_48 : decode cX5_init 48 = .ok (.newarray .int, 2) := by decide +kernel
theorem dX5_init_50 : decode cX5_init 50 = .ok (.putfield 25, 3) := by decide +kernel
theorem dX5_init_53 : decode cX5_init 53 = .ok (.aload_n 0, 1) := by decide +kernel
theorem dX5_init_54 : decode cX5_init 54 = .ok (.sipush 384, 3) := by decide +kernel
theorem dX5_init_57 : decode cX5_init 57 = .ok (.newarray .int, 2) := by decide +kernel
theorem dX5_init_59 : decode cX5_init 59 = .ok (.putfield 28, 3) := by decide +kernel
theorem dX5_init_62 : decode cX5_init 62 = .ok (.aload_n 0, 1) := by decide +kernel
theorem dX5_init_63 : decode cX5_init 63 = .ok (.bipush 48, 2) := by decide +kernel
theorem dX5_init_65 : decode cX5_init 65 = .ok (.newarray .int, 2) := by decide +kernel
theorem dX5_init_67 : decode cX5_init 67 = .ok (.putfield 31, 3) := by decide +kernel
theorem dX5_init_70 : decode cX5_init 70 = .ok (.aload_n 0, 1) := by decide +kernel
theorem dX5_init_71 : decode cX5_init 71 = .ok (.bipush 6, 2) := by decide +kernel
theorem dX5_init_73 : decode cX5_init 73 = .ok (.newarray .int, 2) := by decide +kernel
theorem dX5_init_75 : decode cX5_init 75 = .ok (.putfield 34, 3) := by decide +kernel
theorem dX5_init_78 : decode cX5_init 78 = .ok (.aload_n 0, 1) := by decide +kernel
theorem dX5_init_79 : decode cX5_init 79 = .ok (.bipush 6, 2) := by decide +kernel
theorem dX5_init_81 : decode cX5_init 81 = .ok (.newarray .int, 2) := by decide +kernel
theorem dX5_init_83 : decode cX5_init 83 = .ok (.putfield 37, 3) := by decide +kernel
theorem dX5_init_86 : decode cX5_init 86 = .ok (.aload_n 0, 1) := by decide +kernel
theorem dX5_init_87 : decode cX5_init 87 = .ok (.bipush 6, 2) := by decide +kernel
theorem dX5_init_89 : decode cX5_init 89 = .ok (.newarray .int, 2) := by decide +kernel
theorem dX5_init_91 : decode cX5_init 91 = .ok (.putfield 40, 3) := by decide +kernel
theorem dX5_init_94 : decode cX5_init 94 = .ok (.aload_n 0, 1) := by decide +kernel
theorem dX5_init_95 : decode cX5_init 95 = .ok (.ldc 43, 2) := by decide +kernel
theorem dX5_init_97 : decode cX5_init 97 = .ok (.newarray .boolean, 2) := by decide +kernel
theorem dX5_init_99 : decode cX5_init 99 = .ok (.putfield 44, 3) := by decide +kernel
theorem dX5_init_102 : decode cX5_init 102 = .ok (.return_, 1) := by decide +kernel
theorem dX5_thrown_0 : decode cX5_thrown 0 = .ok (.aload_n 0, 1) := by decide +kernel
theorem dX5_thrown_1 : decode cX5_thrown 1 = .ok (.getfield 48, 3) := by decide +kernel
theorem dX5_thrown_4 : decode cX5_thrown 4 = .ok (.ireturn, 1) := by decide +kernel
theorem dX5_right_0 : decode cX5_right 0 = .ok (.aload_n 0, 1) := by decide +kernel
theorem dX5_right_1 : decode cX5_right 1 = .ok (.getfield 48, 3) := by decide +kernel
theorem dX5_right_4 : decode cX5_right 4 = .ok (.ifCond .ne 12, 3) := by decide +kernel
theorem dX5_right_7 : decode cX5_right 7 = .ok (.iload_n 1, 1) := by decide +kernel
theorem dX5_right_8 : decode cX5_right 8 = .ok (.ifCond .ne 8, 3) := by decide +kernel
theorem dX5_right_11 : decode cX5_right 11 = .ok (.aload_n 0, 1) := by decide +kernel
theorem dX5_right_12 : decode cX5_right 12 = .ok (.iload_n 2, 1) := by decide +kernel
theorem dX5_right_13 : decode cX5_right 13 = .ok (.putfield 48, 3) := by decide +kernel
theorem dX5_right_16 : decode cX5_right 16 = .ok (.aload_n 0, 1) := by decide +kernel
theorem dX5_right_17 : decode cX5_right 17 = .ok (.getfield 48, 3) := by decide +kernel
theorem dX5_right_20 : decode cX5_right 20 = .ok (.ifCond .ne 7, 3) := by decide +kernel
theorem dX5_right_23 : decode cX5_right 23 = .ok (.iconst 1, 1) := by decide +kernel
theorem dX5_right_24 : decode cX5_right 24 = .ok (.goto 4, 3) := by decide +kernel
theorem dX5_right_27 : decode cX5_right 27 = .ok (.iconst 0, 1) := by decide +kernel
theorem dX5_right_28 : decode cX5_right 28 = .ok (.ireturn, 1) := by decide +kernel
theorem dX5_knots_0 : decode cX5_knots 0 = .ok (.iload_n 1, 1) := by decide +kernel
theorem dX5_knots_1 : decode cX5_knots 1 = .ok (.iconst 2, 1) := by decide +kernel
theorem dX5_knots_2 : decode cX5_knots 2 = .ok (.irem, 1) := by decide +kernel
theorem dX5_knots_3 : decode cX5_knots 3 = .ok (.ifCond .ne 9, 3) := by decide +kernel
theorem dX5_knots_6 : decode cX5_knots 6 = .ok (.iload_n 0, 1) := by decide +kernel
theorem dX5_knots_7 : decode cX5_knots 7 = .ok (.iconst 2, 1) := by decide +kernel
theorem dX5_knots_8 : decode cX5_knots 8 = .ok (.idiv, 1) := by decide +kernel
theorem dX5_knots_9 : decode cX5_knots 9 = .ok (.goto 8, 3) := by decide +kernel
theorem dX5_knots_12 : decode cX5_knots 12 = .ok (.iload_n 0, 1) := by decide +kernel
theorem dX5_knots_13 : decode cX5_knots 13 = .ok (.iconst 1, 1) := by decide +kernel
theorem dX5_knots_14 : decode cX5_knots 14 = .ok (.isub, 1) := by decide +kernel
theorem dX5_knots_15 : decode cX5_knots 15 = .ok (.iconst 2, 1) := by decide +kernel
theorem dX5_knots_16 : decode cX5_knots 16 = .ok (.idiv, 1) := by decide +kernel
theorem dX5_knots_17 : decode cX5_knots 17 = .ok (.ireturn, 1) := by decide +kernel
theorem dX5_left_0 : decode cX5_left 0 = .ok (.iconst 2, 1) := by decide +kernel
theorem dX5_left_1 : decode cX5_left 1 = .ok (.iload_n 1, 1) := by decide +kernel
theorem dX5_left_2 : decode cX5_left 2 = .ok (.imul, 1) := by decide +kernel
theorem dX5_left_3 : decode cX5_left 3 = .ok (.iload_n 0, 1) := by decide +kernel
theorem dX5_left_4 : decode cX5_left 4 = .ok (.iconst 2, 1) := by decide +kernel
theorem dX5_left_5 : decode cX5_left 5 = .ok (.irem, 1) := by decide +kernel
theorem dX5_left_6 : decode cX5_left 6 = .ok (.iadd, 1) := by decide +kernel
theorem dX5_left_7 : decode cX5_left 7 = .ok (.ireturn, 1) := by decide +kernel
set_option maxRecDepth 20000 in
theorem ggX5_isBand_X5_right : GoodIn wsX5_isBand wsX5_right := goodIn_r _ [7, 1, 8, 9, 10, 11, 12, 13, 14, 15, 16, 17, 18, 19, 20, 21, 22] (by decide +kernel) (by decide +kernel)
set_option maxRecDepth 20000 in
theorem gX5_isBand_X5_right : GoodIn wsX5_isBand (wsV RX5 55 RX5 yX5_right wsX5_right) := goodIn_app (goodIn_of _ (by decide +kernel)) ggX5_isBand_X5_right
theorem dX5_isBand_0 : decode cX5_isBand 0 = .ok (.aload_n 0, 1) := by decide +kernel
theorem dX5_isBand_1 : decode cX5_isBand 1 = .ok (.iconst 0, 1) := by decide +kernel
theorem dX5_isBand_2 : decode cX5_isBand 2 = .ok (.putfield 48, 3) := by decide +kernel
theorem dX5_isBand_5 : decode cX5_isBand 5 = .ok (.aload_n 0, 1) := by decide +kernel
theorem dX5_isBand_6 : decode cX5_isBand 6 = .ok (.iload_n 1, 1) := by decide +kernel
theorem dX5_isBand_7 : decode cX5_isBand 7 = .ok (.ifCond .lt 15, 3) := by decide +kernel
theorem dX5_isBand_10 : decode cX5_isBand 10 = .ok (.iload_n 1, 1) := by decide +kernel
theorem dX5_isBand_11 : decode cX5_isBand 11 = .ok (.aload_n 0, 1) := by decide +kernel
theorem dX5_isBand_12 : decode cX5_isBand 12 = .ok (.getfield 52, 3) := by decide +kernel
theorem dX5_isBand_15 : decode cX5_isBand 15 = .ok (.if_icmp .ge 7, 3) := by decide +kernel
theorem dX5_isBand_18 : decode cX5_isBand 18 = .ok (.iconst 1, 1) := by decide +kernel
theorem dX5_isBand_19 : decode cX5_isBand 19 = .ok (.goto 4, 3) := by decide +kernel
theorem dX5_isBand_22 : decode cX5_isBand 22 = .ok (.iconst 0, 1) := by decide +kernel
theorem dX5_isBand_23 : decode cX5_isBand 23 = .ok (.iconst 1, 1) := by decide +kernel
theorem dX5_isBand_24 : decode cX5_isBand 24 = .ok (.invokevirtual 55, 3) := by decide +kernel
theorem dX5_isBand_27 : decode cX5_isBand 27 = .ok (.ireturn, 1) := by decide +kernel
theorem dX5_band_0 : decode cX5_band 0 = .ok (.aload_n 0, 1) := by decide +kernel
theorem dX5_band_1 : decode cX5_band 1 = .ok (.iconst 0, 1) := by decide +kernel
theorem dX5_band_2 : decode cX5_band 2 = .ok (.putfield 48, 3) := by decide +kernel
theorem dX5_band_5 : decode cX5_band 5 = .ok (.aload_n 0, 1) := by decide +kernel
theorem dX5_band_6 : decode cX5_band 6 = .ok (.getfield 52, 3) := by decide +kernel
theorem dX5_band_9 : decode cX5_band 9 = .ok (.bipush 8, 2) := by decide +kernel
theorem dX5_band_11 : decode cX5_band 11 = .ok (.if_icmp .eq 14, 3) := by decide +kernel
theorem dX5_band_14 : decode cX5_band 14 = .ok (.iload_n 1, 1) := by decide +kernel
theorem dX5_band_15 : decode cX5_band 15 = .ok (.iconst 2, 1) := by decide +kernel
theorem dX5_band_16 : decode cX5_band 16 = .ok (.if_icmp .lt 9, 3) := by decide +kernel
theorem dX5_band_19 : decode cX5_band 19 = .ok (.iload_n 1, 1) := by decide +kernel
theorem dX5_band_20 : decode cX5_band 20 = .ok (.bipush 6, 2) := by decide +kernel
theorem dX5_band_22 : decode cX5_band 22 = .ok (.if_icmp .le 5, 3) := by decide +kernel
theorem dX5_band_25 : decode cX5_band 25 = .ok (.iconst (-1), 1) := by decide +kernel
theorem dX5_band_26 : decode cX5_band 26 = .ok (.ireturn, 1) := by decide +kernel
theorem dX5_band_27 : decode cX5_band 27 = .ok (.aload_n 0, 1) := by decide +kernel
theorem dX5_band_28 : decode cX5_band 28 = .ok (.getfield 7, 3) := by decide +kernel
theorem dX5_band_31 : decode cX5_band 31 = .ok (.aload_n 0, 1) := by decide +kernel
theorem dX5_band_32 : decode cX5_band 32 = .ok (.getfield 52, 3) := by decide +kernel
theorem dX5_band_35 : decode cX5_band 35 = .ok (.iload_n 1, 1) := by decide +kernel
theorem dX5_band_36 : decode cX5_band 36 = .ok (.iastore, 1) := by decide +kernel
theorem dX5_band_37 : decode cX5_band 37 = .ok (.aload_n 0, 1) := by decide +kernel
theorem dX5_band_38 : decode cX5_band 38 = .ok (.dup, 1) := by decide +kernel
theorem dX5_band_39 : decode cX5_band 39 = .ok (.getfield 52, 3) := by decide +kernel
theorem dX5_band_42 : decode cX5_band 42 = .ok (.iconst 1, 1) := by decide +kernel
theorem dX5_band_43 : decode cX5_band 43 = .ok (.iadd, 1) := by decide +kernel
theorem dX5_band_44 : decode cX5_band 44 = .ok (.putfield 52, 3) := by decide +kernel
theorem dX5_band_47 : decode cX5_band 47 = .ok (.aload_n 0, 1) := by decide +kernel
theorem dX5_band_48 : decode cX5_band 48 = .ok (.getfield 52, 3) := by decide +kernel
theorem dX5_band_51 : decode cX5_band 51 = .ok (.iconst 1, 1) := by decide +kernel
theorem dX5_band_52 : decode cX5_band 52 = .ok (.isub, 1) := by decide +kernel
theorem dX5_band_53 : decode cX5_band 53 = .ok (.ireturn, 1) := by decide +kernel
set_option maxRecDepth 20000 in
theorem ggX5_colour_X5_isBand : GoodIn wsX5_colour wsX5_isBand := goodIn_r _ [7, 8, 9, 10, 11, 12, 6, 13, 14, 15, 16, 17, 18, 19, 20, 21, 22, 23, 24, 25, 26, 27, 28] (by decide +kernel) (by decide +kernel)
set_option maxRecDepth 20000 in
theorem gX5_colour_X5_isBand : GoodIn wsX5_colour (wsV RX5 59 RX5 yX5_isBand wsX5_isBand) := goodIn_app (goodIn_of _ (by decide +kernel)) ggX5_colour_X5_isBand
set_option maxRecDepth 20000 in
theorem ggX5_colour_X5_right : GoodIn wsX5_colour wsX5_right := goodIn_r _ [13, 8, 14, 15, 16, 17, 18, 19, 20, 21, 22, 23, 24, 25, 26, 27, 28] (by decide +kernel) (by decide +kernel)
set_option maxRecDepth 20000 in
theorem gX5_colour_X5_right : GoodIn wsX5_colour (wsV RX5 55 RX5 yX5_right wsX5_right) := goodIn_app (goodIn_of _ (by decide +kernel)) ggX5_colour_X5_right
theorem dX5_colour_0 : decode cX5_colour 0 = .ok (.aload_n 0, 1) := by decide +kernel
theorem dX5_colour_1 : decode cX5_colour 1 = .ok (.iload_n 1, 1) := by decide +kernel
theorem dX5_colour_2 : decode cX5_colour 2 = .ok (.invokevirtual 59, 3) := by decide +kernel
theorem dX5_colour_5 : decode cX5_colour 5 = .ok (.ifCond .eq 52, 3) := by decide +kernel
theorem dX5_colour_8 : decode cX5_colour 8 = .ok (.aload_n 0, 1) := by decide +kernel
theorem dX5_colour_9 : decode cX5_colour 9 = .ok (.iload_n 2, 1) := by decide +kernel
theorem dX5_colour_10 : decode cX5_colour 10 = .ok (.ifCond .lt 17, 3) := by decide +kernel
theorem dX5_colour_13 : decode cX5_colour 13 = .ok (.iload_n 2, 1) := by decide +kernel
theorem dX5_colour_14 : decode cX5_colour 14 = .ok (.aload_n 0, 1) := by decide +kernel
theorem dX5_colour_15 : decode cX5_colour 15 = .ok (.getfield 7, 3) := by decide +kernel
theorem dX5_colour_18 : decode cX5_colour 18 = .ok (.iload_n 1, 1) := by decide +kernel
theorem dX5_colour_19 : decode cX5_colour 19 = .ok (.iaload, 1) := by decide +kernel
theorem dX5_colour_20 : decode cX5_colour 20 = .ok (.if_icmp .ge 7, 3) := by decide +kernel
theorem dX5_colour_23 : decode cX5_colour 23 = .ok (.iconst 1, 1) := by decide +kernel
theorem dX5_colour_24 : decode cX5_colour 24 = .ok (.goto 4, 3) := by decide +kernel
theorem dX5_colour_27 : decode cX5_colour 27 = .ok (.iconst 0, 1) := by decide +kernel
theorem dX5_colour_28 : decode cX5_colour 28 = .ok (.iconst 1, 1) := by decide +kernel
theorem dX5_colour_29 : decode cX5_colour 29 = .ok (.invokevirtual 55, 3) := by decide +kernel
theorem dX5_colour_32 : decode cX5_colour 32 = .ok (.ifCond .eq 25, 3) := by decide +kernel
theorem dX5_colour_35 : decode cX5_colour 35 = .ok (.aload_n 0, 1) := by decide +kernel
theorem dX5_colour_36 : decode cX5_colour 36 = .ok (.iload_n 3, 1) := by decide +kernel
theorem dX5_colour_37 : decode cX5_colour 37 = .ok (.ifCond .lt 12, 3) := by decide +kernel
theorem dX5_colour_40 : decode cX5_colour 40 = .ok (.iload_n 3, 1) := by decide +kernel
theorem dX5_colour_41 : decode cX5_colour 41 = .ok (.iconst 3, 1) := by decide +kernel
theorem dX5_colour_42 : decode cX5_colour 42 = .ok (.if_icmp .gt 7, 3) := by decide +kernel
theorem dX5_colour_45 : decode cX5_colour 45 = .ok (.iconst 1, 1) := by decide +kernel
theorem dX5_colour_46 : decode cX5_colour 46 = .ok (.goto 4, 3) := by decide +kernel
theorem dX5_colour_49 : decode cX5_colour 49 = .ok (.iconst 0, 1) := by decide +kernel
theorem dX5_colour_50 : decode cX5_colour 50 = .ok (.iconst 2, 1) := by decide +kernel
theorem dX5_colour_51 : decode cX5_colour 51 = .ok (.invokevirtual 55, 3) := by decide +kernel
theorem dX5_colour_54 : decode cX5_colour 54 = .ok (.ifCond .ne 5, 3) := by decide +kernel
theorem dX5_colour_57 : decode cX5_colour 57 = .ok (.iconst 0, 1) := by decide +kernel
theorem dX5_colour_58 : decode cX5_colour 58 = .ok (.ireturn, 1) := by decide +kernel
theorem dX5_colour_59 : decode cX5_colour 59 = .ok (.aload_n 0, 1) := by decide +kernel
theorem dX5_colour_60 : decode cX5_colour 60 = .ok (.getfield 16, 3) := by decide +kernel
theorem dX5_colour_63 : decode cX5_colour 63 = .ok (.bipush 6, 2) := by decide +kernel
theorem dX5_colour_65 : decode cX5_colour 65 = .ok (.iload_n 1, 1) := by decide +kernel
theorem dX5_colour_66 : decode cX5_colour 66 = .ok (.imul, 1) := by decide +kernel
theorem dX5_colour_67 : decode cX5_colour 67 = .ok (.iload_n 2, 1) := by decide +kernel
theorem dX5_colour_68 : decode cX5_colour 68 = .ok (.iadd, 1) := by decide +kernel
theorem dX5_colour_69 : decode cX5_colour 69 = .ok (.iaload, 1) := by decide +kernel
theorem dX5_colour_70 : decode cX5_colour 70 = .ok (.istore 4, 2) := by decide +kernel
theorem dX5_colour_72 : decode cX5_colour 72 = .ok (.aload_n 0, 1) := by decide +kernel
theorem dX5_colour_73 : decode cX5_colour 73 = .ok (.getfield 16, 3) := by decide +kernel
theorem dX5_colour_76 : decode cX5_colour 76 = .ok (.bipush 6, 2) := by decide +kernel
theorem dX5_colour_78 : decode cX5_colour 78 = .ok (.iload_n 1, 1) := by decide +kernel
theorem dX5_colour_79 : decode cX5_colour 79 = .ok (.imul, 1) := by decide +kernel
theorem dX5_colour_80 : decode cX5_colour 80 = .ok (.iload_n 2, 1) := by decide +kernel
theorem dX5_colour_81 : decode cX5_colour 81 = .ok (.iadd, 1) := by decide +kernel
theorem dX5_colour_82 : decode cX5_colour 82 = .ok (.iload_n 3, 1) := by decide +kernel
theorem dX5_colour_83 : decode cX5_colour 83 = .ok (.iastore, 1) := by decide +kernel
theorem dX5_colour_84 : decode cX5_colour 84 = .ok (.iload 4, 2) := by decide +kernel
theorem dX5_colour_86 : decode cX5_colour 86 = .ok (.ireturn, 1) := by decide +kernel
set_option maxRecDepth 20000 in
theorem ggX5_row_X5_isBand : GoodIn wsX5_row wsX5_isBand := goodIn_r _ [7, 8, 9, 10, 11, 12, 6, 13, 14, 15, 16, 17, 18, 19, 20, 21, 22, 23, 24, 25, 26, 27, 28] (by decide +kernel) (by decide +kernel)
set_option maxRecDepth 20000 in
theorem gX5_row_X5_isBand : GoodIn wsX5_row (wsV RX5 59 RX5 yX5_isBand wsX5_isBand) := goodIn_app (goodIn_of _ (by decide +kernel)) ggX5_row_X5_isBand
theorem dX5_row_0 : decode cX5_row 0 = .ok (.aload_n 0, 1) := by decide +kernel
theorem dX5_row_1 : decode cX5_row 1 = .ok (.iload_n 1, 1) := by decide +kernel
theorem dX5_row_2 : decode cX5_row 2 = .ok (.invokevirtual 59, 3) := by decide +kernel
theorem dX5_row_5 : decode cX5_row 5 = .ok (.ifCond .ne 5, 3) := by decide +kernel
theorem dX5_row_8 : decode cX5_row 8 = .ok (.iconst 0, 1) := by decide +kernel
theorem dX5_row_9 : decode cX5_row 9 = .ok (.ireturn, 1) := by decide +kernel
theorem dX5_row_10 : decode cX5_row 10 = .ok (.aload_n 0, 1) := by decide +kernel
theorem dX5_row_11 : decode cX5_row 11 = .ok (.getfield 13, 3) := by decide +kernel
theorem dX5_row_14 : decode cX5_row 14 = .ok (.iload_n 1, 1) := by decide +kernel
theorem dX5_row_15 : decode cX5_row 15 = .ok (.iaload, 1) := by decide +kernel
theorem dX5_row_16 : decode cX5_row 16 = .ok (.bipush 16, 2) := by decide +kernel
theorem dX5_row_18 : decode cX5_row 18 = .ok (.if_icmp .ne 5, 3) := by decide +kernel
theorem dX5_row_21 : decode cX5_row 21 = .ok (.iconst (-1), 1) := by decide +kernel
theorem dX5_row_22 : decode cX5_row 22 = .ok (.ireturn, 1) := by decide +kernel
theorem dX5_row_23 : decode cX5_row 23 = .ok (.iconst 0, 1) := by decide +kernel
theorem dX5_row_24 : decode cX5_row 24 = .ok (.istore_n 3, 1) := by decide +kernel
theorem dX5_row_25 : decode cX5_row 25 = .ok (.iload_n 3, 1) := by decide +kernel
theorem dX5_row_26 : decode cX5_row 26 = .ok (.iconst 3, 1) := by decide +kernel
theorem dX5_row_27 : decode cX5_row 27 = .ok (.if_icmp .ge 36, 3) := by decide +kernel
theorem dX5_row_30 : decode cX5_row 30 = .ok (.aload_n 0, 1) := by decide +kernel
theorem dX5_row_31 : decode cX5_row 31 = .ok (.getfield 19, 3) := by decide +kernel
theorem dX5_row_34 : decode cX5_row 34 = .ok (.bipush 48, 2) := by decide +kernel
theorem dX5_row_36 : decode cX5_row 36 = .ok (.iload_n 1, 1) := by decide +kernel
theorem dX5_row_37 : decode cX5_row 37 = .ok (.imul, 1) := by decide +kernel
theorem dX5_row_38 : decode cX5_row 38 = .ok (.iconst 3, 1) := by decide +kernel
theorem dX5_row_39 : decode cX5_row 39 = .ok (.aload_n 0, 1) := by decide +kernel
theorem dX5_row_40 : decode cX5_row 40 = .ok (.getfield 13, 3) := by decide +kernel
theorem dX5_row_43 : decode cX5_row 43 = .ok (.iload_n 1, 1) := by decide +kernel
theorem dX5_row_44 : decode cX5_row 44 = .ok (.iaload, 1) := by decide +kernel
theorem dX5_row_45 : decode cX5_row 45 = .ok (.imul, 1) := by decide +kernel
theorem dX5_row_46 : decode cX5_row 46 = .ok (.iadd, 1) := by decide +kernel
theorem dX5_row_47 : decode cX5_row 47 = .ok (.iload_n 3, 1) := by decide +kernel
theorem dX5_row_48 : decode cX5_row 48 = .ok (.iadd, 1) := by decide +kernel
theorem dX5_row_49 : decode cX5_row 49 = .ok (.iload_n 2, 1) := by decide +kernel
theorem dX5_row_50 : decode cX5_row 50 = .ok (.iconst 2, 1) := by decide +kernel
theorem dX5_row_51 : decode cX5_row 51 = .ok (.iload_n 3, 1) := by decide +kernel
theorem dX5_row_52 : decode cX5_row 52 = .ok (.imul, 1) := by decide +kernel
theorem dX5_row_53 : decode cX5_row 53 = .ok (.ishr, 1) := by decide +kernel
theorem dX5_row_54 : decode cX5_row 54 = .ok (.iconst 3, 1) := by decide +kernel
theorem dX5_row_55 : decode cX5_row 55 = .ok (.iand, 1) := by decide +kernel
theorem dX5_row_56 : decode cX5_row 56 = .ok (.iastore, 1) := by decide +kernel
theorem dX5_row_57 : decode cX5_row 57 = .ok (.iinc 3 1, 3) := by decide +kernel
theorem dX5_row_60 : decode cX5_row 60 = .ok (.goto (-35), 3) := by decide +kernel
theorem dX5_row_63 : decode cX5_row 63 = .ok (.aload_n 0, 1) := by decide +kernel
theorem dX5_row_64 : decode cX5_row 64 = .ok (.getfield 13, 3) := by decide +kernel
theorem dX5_row_67 : decode cX5_row 67 = .ok (.iload_n 1, 1) := by decide +kernel
theorem dX5_row_68 : decode cX5_row 68 = .ok (.dup2, 1) := by decide +kernel
theorem dX5_row_69 : decode cX5_row 69 = .ok (.iaload, 1) := by decide +kernel
theorem dX5_row_70 : decode cX5_row 70 = .ok (.iconst 1, 1) := by decide +kernel
theorem dX5_row_71 : decode cX5_row 71 = .ok (.iadd, 1) := by decide +kernel
theorem dX5_row_72 : decode cX5_row 72 = .ok (.iastore, 1) := by decide +kernel
theorem dX5_row_73 : decode cX5_row 73 = .ok (.aload_n 0, 1) := by decide +kernel
theorem dX5_row_74 : decode cX5_row 74 = .ok (.getfield 13, 3) := by decide +kernel
theorem dX5_row_77 : decode cX5_row 77 = .ok (.iload_n 1, 1) := by decide +kernel
theorem dX5_row_78 : decode cX5_row 78 = .ok (.iaload, 1) := by decide +kernel
theorem dX5_row_79 : decode cX5_row 79 = .ok (.ireturn, 1) := by decide +kernel
set_option maxRecDepth 20000 in
theorem ggX5_isKnot_X5_isBand : GoodIn wsX5_isKnot wsX5_isBand := goodIn_r _ [7, 8, 9, 10, 11, 12, 6, 13, 17, 18, 19, 20, 21, 22, 23, 24, 25, 26, 27, 28, 29, 30, 31] (by decide +kernel) (by decide +kernel)
set_option maxRecDepth 20000 in
theorem gX5_isKnot_X5_isBand : GoodIn wsX5_isKnot (wsV RX5 59 RX5 yX5_isBand wsX5_isBand) := goodIn_app (goodIn_of _ (by decide +kernel)) ggX5_isKnot_X5_isBand
set_option maxRecDepth 20000 in
theorem ggX5_isKnot_X5_knots : GoodIn wsX5_isKnot wsX5_knots := goodIn_r _ [16] (by decide +kernel) (by decide +kernel)
set_option maxRecDepth 20000 in
theorem gX5_isKnot_X5_knots : GoodIn wsX5_isKnot (va_wsS RX5 63 yX5_knots wsX5_knots) := goodIn_app (goodIn_of _ (by decide +kernel)) ggX5_isKnot_X5_knots
set_option maxRecDepth 20000 in
theorem ggX5_isKnot_X5_right : GoodIn wsX5_isKnot wsX5_right := goodIn_r _ [13, 8, 17, 18, 19, 20, 21, 22, 23, 24, 25, 26, 27, 28, 29, 30, 31] (by decide +kernel) (by decide +kernel)
set_option maxRecDepth 20000 in
theorem gX5_isKnot_X5_right : GoodIn wsX5_isKnot (wsV RX5 55 RX5 yX5_right wsX5_right) := goodIn_app (goodIn_of _ (by decide +kernel)) ggX5_isKnot_X5_right
theorem dX5_isKnot_0 : decode cX5_isKnot 0 = .ok (.aload_n 0, 1) := by decide +kernel
theorem dX5_isKnot_1 : decode cX5_isKnot 1 = .ok (.iload_n 1, 1) := by decide +kernel
theorem dX5_isKnot_2 : decode cX5_isKnot 2 = .ok (.invokevirtual 59, 3) := by decide +kernel
theorem dX5_isKnot_5 : decode cX5_isKnot 5 = .ok (.ifCond .eq 52, 3) := by decide +kernel
theorem dX5_isKnot_8 : decode cX5_isKnot 8 = .ok (.aload_n 0, 1) := by decide +kernel
theorem dX5_isKnot_9 : decode cX5_isKnot 9 = .ok (.iload_n 2, 1) := by decide +kernel
theorem dX5_isKnot_10 : decode cX5_isKnot 10 = .ok (.ifCond .lt 35, 3) := by decide +kernel
theorem dX5_isKnot_13 : decode cX5_isKnot 13 = .ok (.iload_n 2, 1) := by decide +kernel
theorem dX5_isKnot_14 : decode cX5_isKnot 14 = .ok (.aload_n 0, 1) := by decide +kernel
theorem dX5_isKnot_15 : decode cX5_isKnot 15 = .ok (.getfield 13, 3) := by decide +kernel
theorem dX5_isKnot_18 : decode cX5_isKnot 18 = .ok (.iload_n 1, 1) := by decide +kernel
theorem dX5_isKnot_19 : decode cX5_isKnot 19 = .ok (.iaload, 1) := by decide +kernel
theorem dX5_isKnot_20 : decode cX5_isKnot 20 = .ok (.if_icmp .ge 25, 3) := by decide +kernel
theorem dX5_isKnot_23 : decode cX5_isKnot 23 = .ok (.iload_n 3, 1) := by decide +kernel
theorem dX5_isKnot_24 : decode cX5_isKnot 24 = .ok (.ifCond .lt 21, 3) := by decide +kernel
theorem dX5_isKnot_27 : decode cX5_isKnot 27 = .ok (.iload_n 3, 1) := by decide +kernel
theorem dX5_isKnot_28 : decode cX5_isKnot 28 = .ok (.aload_n 0, 1) := by decide +kernel
theorem dX5_isKnot_29 : decode cX5_isKnot 29 = .ok (.getfield 7, 3) := by decide +kernel
theorem dX5_isKnot_32 : decode cX5_isKnot 32 = .ok (.iload_n 1, 1) := by decide +kernel
theorem dX5_isKnot_33 : decode cX5_isKnot 33 = .ok (.iaload, 1) := by decide +kernel
theorem dX5_isKnot_34 : decode cX5_isKnot 34 = .ok (.iload_n 2, 1) := by decide +kernel
theorem dX5_isKnot_35 : decode cX5_isKnot 35 = .ok (.invokestatic 63, 3) := by decide +kernel
theorem dX5_isKnot_38 : decode cX5_isKnot 38 = .ok (.if_icmp .ge 7, 3) := by decide +kernel
theorem dX5_isKnot_41 : decode cX5_isKnot 41 = .ok (.iconst 1, 1) := by decide +kernel
theorem dX5_isKnot_42 : decode cX5_isKnot 42 = .ok (.goto 4, 3) := by decide +kernel
theorem dX5_isKnot_45 : decode cX5_isKnot 45 = .ok (.iconst 0, 1) := by decide +kernel
theorem dX5_isKnot_46 : decode cX5_isKnot 46 = .ok (.iconst 1, 1) := by decide +kernel
theorem dX5_isKnot_47 : decode cX5_isKnot 47 = .ok (.invokevirtual 55, 3) := by decide +kernel
theorem dX5_isKnot_50 : decode cX5_isKnot 50 = .ok (.ifCond .eq 7, 3) := by decide +kernel
theorem dX5_isKnot_53 : decode cX5_isKnot 53 = .ok (.iconst 1, 1) := by decide +kernel
theorem dX5_isKnot_54 : decode cX5_isKnot 54 = .ok (.goto 4, 3) := by decide +kernel
theorem dX5_isKnot_57 : decode cX5_isKnot 57 = .ok (.iconst 0, 1) := by decide +kernel
theorem dX5_isKnot_58 : decode cX5_isKnot 58 = .ok (.ireturn, 1) := by decide +kernel
set_option maxRecDepth 20000 in
theorem ggX5_knot_X5_isKnot : GoodIn wsX5_knot wsX5_isKnot := goodIn_r _ [6, 7, 8, 9, 10, 11, 5, 12, 13, 14, 15, 16, 17, 18, 19, 20, 21, 22, 23, 24, 25, 26, 27, 28, 29, 30, 31, 32, 33, 34, 35, 36] (by decide +kernel) (by decide +kernel)
set_option maxRecDepth 20000 in
theorem gX5_knot_X5_isKnot : GoodIn wsX5_knot (wsV RX5 67 RX5 yX5_isKnot wsX5_isKnot) := goodIn_app (goodIn_of _ (by decide +kernel)) ggX5_knot_X5_isKnot
set_option maxRecDepth 20000 in
theorem ggX5_knot_X5_right : GoodIn wsX5_knot wsX5_right := goodIn_r _ [18, 13, 22, 23, 24, 25, 26, 27, 28, 29, 30, 31, 32, 33, 34, 35, 36] (by decide +kernel) (by decide +kernel)
set_option maxRecDepth 20000 in
theorem gX5_knot_X5_right : GoodIn wsX5_knot (wsV RX5 55 RX5 yX5_right wsX5_right) := goodIn_app (goodIn_of _ (by decide +kernel)) ggX5_knot_X5_right
theorem dX5_knot_0 : decode cX5_knot 0 = .ok (.aload_n 0, 1) := by decide +kernel
theorem dX5_knot_1 : decode cX5_knot 1 = .ok (.iload_n 1, 1) := by decide +kernel
theorem dX5_knot_2 : decode cX5_knot 2 = .ok (.iload_n 2, 1) := by decide +kernel
theorem dX5_knot_3 : decode cX5_knot 3 = .ok (.iload_n 3, 1) := by decide +kernel
theorem dX5_knot_4 : decode cX5_knot 4 = .ok (.invokevirtual 67, 3) := by decide +kernel
theorem dX5_knot_7 : decode cX5_knot 7 = .ok (.ifCond .eq 28, 3) := by decide +kernel
theorem dX5_knot_10 : decode cX5_knot 10 = .ok (.aload_n 0, 1) := by decide +kernel
theorem dX5_knot_11 : decode cX5_knot 11 = .ok (.iload 4, 2) := by decide +kernel
theorem dX5_knot_13 : decode cX5_knot 13 = .ok (.iconst (-1), 1) := by decide +kernel
theorem dX5_knot_14 : decode cX5_knot 14 = .ok (.if_icmp .lt 13, 3) := by decide +kernel
theorem dX5_knot_17 : decode cX5_knot 17 = .ok (.iload 4, 2) := by decide +kernel
theorem dX5_knot_19 : decode cX5_knot 19 = .ok (.iconst 3, 1) := by decide +kernel
theorem dX5_knot_20 : decode cX5_knot 20 = .ok (.if_icmp .gt 7, 3) := by decide +kernel
theorem dX5_knot_23 : decode cX5_knot 23 = .ok (.iconst 1, 1) := by decide +kernel
theorem dX5_knot_24 : decode cX5_knot 24 = .ok (.goto 4, 3) := by decide +kernel
theorem dX5_knot_27 : decode cX5_knot 27 = .ok (.iconst 0, 1) := by decide +kernel
theorem dX5_knot_28 : decode cX5_knot 28 = .ok (.iconst 2, 1) := by decide +kernel
theorem dX5_knot_29 : decode cX5_knot 29 = .ok (.invokevirtual 55, 3) := by decide +kernel
theorem dX5_knot_32 : decode cX5_knot 32 = .ok (.ifCond .ne 5, 3) := by decide +kernel
theorem dX5_knot_35 : decode cX5_knot 35 = .ok (.iconst 0, 1) := by decide +kernel
theorem dX5_knot_36 : decode cX5_knot 36 = .ok (.ireturn, 1) := by decide +kernel
theorem dX5_knot_37 : decode cX5_knot 37 = .ok (.aload_n 0, 1) := by decide +kernel
theorem dX5_knot_38 : decode cX5_knot 38 = .ok (.getfield 19, 3) := by decide +kernel
theorem dX5_knot_41 : decode cX5_knot 41 = .ok (.bipush 48, 2) := by decide +kernel
theorem dX5_knot_43 : decode cX5_knot 43 = .ok (.iload_n 1, 1) := by decide +kernel
theorem dX5_knot_44 : decode cX5_knot 44 = .ok (.imul, 1) := by decide +kernel
theorem dX5_knot_45 : decode cX5_knot 45 = .ok (.iconst 3, 1) := by decide +kernel
theorem dX5_knot_46 : decode cX5_knot 46 = .ok (.iload_n 2, 1) := by decide +kernel
theorem dX5_knot_47 : decode cX5_knot 47 = .ok (.imul, 1) := by decide +kernel
theorem dX5_knot_48 : decode cX5_knot 48 = .ok (.iadd, 1) := by decide +kernel
theorem dX5_knot_49 : decode cX5_knot 49 = .ok (.iload_n 3, 1) := by decide +kernel
theorem dX5_knot_50 : decode cX5_knot 50 = .ok (.iadd, 1) := by decide +kernel
theorem dX5_knot_51 : decode cX5_knot 51 = .ok (.iaload, 1) := by decide +kernel
theorem dX5_knot_52 : decode cX5_knot 52 = .ok (.istore 5, 2) := by decide +kernel
theorem dX5_knot_54 : decode cX5_knot 54 = .ok (.iload 4, 2) := by decide +kernel
theorem dX5_knot_56 : decode cX5_knot 56 = .ok (.iconst (-1), 1) := by decide +kernel
theorem dX5_knot_57 : decode cX5_knot 57 = .ok (.if_icmp .eq 20, 3) := by decide +kernel
theorem dX5_knot_60 : decode cX5_knot 60 = .ok (.aload_n 0, 1) := by decide +kernel
theorem dX5_knot_61 : decode cX5_knot 61 = .ok (.getfield 19, 3) := by decide +kernel
theorem dX5_knot_64 : decode cX5_knot 64 = .ok (.bipush 48, 2) := by decide +kernel
theorem dX5_knot_66 : decode cX5_knot 66 = .ok (.iload_n 1, 1) := by decide +kernel
theorem dX5_knot_67 : decode cX5_knot 67 = .ok (.imul, 1) := by decide +kernel
theorem dX5_knot_68 : decode cX5_knot 68 = .ok (.iconst 3, 1) := by decide +kernel
theorem dX5_knot_69 : decode cX5_knot 69 = .ok (.iload_n 2, 1) := by decide +kernel
theorem dX5_knot_70 : decode cX5_knot 70 = .ok (.imul, 1) := by decide +kernel
theorem dX5_knot_71 : decode cX5_knot 71 = .ok (.iadd, 1) := by decide +kernel
theorem dX5_knot_72 : decode cX5_knot 72 = .ok (.iload_n 3, 1) := by decide +kernel
theorem dX5_knot_73 : decode cX5_knot 73 = .ok (.iadd, 1) := by decide +kernel
theorem dX5_knot_74 : decode cX5_knot 74 = .ok (.iload 4, 2) := by decide +kernel
theorem dX5_knot_76 : decode cX5_knot 76 = .ok (.iastore, 1) := by decide +kernel
theorem dX5_knot_77 : decode cX5_knot 77 = .ok (.iload 5, 2) := by decide +kernel
theorem dX5_knot_79 : decode cX5_knot 79 = .ok (.ireturn, 1) := by decide +kernel
set_option maxRecDepth 20000 in
theorem ggX5_stands_X5_knots : GoodIn wsX5_stands wsX5_knots := goodIn_r _ [7] (by decide +kernel) (by decide +kernel)
set_option maxRecDepth 20000 in
theorem gX5_stands_X5_knots : GoodIn wsX5_stands (va_wsS RX5 63 yX5_knots wsX5_knots) := goodIn_app (goodIn_of _ (by decide +kernel)) ggX5_stands_X5_knots
set_option maxRecDepth 20000 in
theorem ggX5_stands_X5_left : GoodIn wsX5_stands wsX5_left := goodIn_r _ [10] (by decide +kernel) (by decide +kernel)
set_option maxRecDepth 20000 in
theorem gX5_stands_X5_left : GoodIn wsX5_stands (va_wsS RX5 71 yX5_left wsX5_left) := goodIn_app (goodIn_of _ (by decide +kernel)) ggX5_stands_X5_left
theorem dX5_stands_0 : decode cX5_stands 0 = .ok (.iconst 0, 1) := by decide +kernel
theorem dX5_stands_1 : decode cX5_stands 1 = .ok (.istore_n 3, 1) := by decide +kernel
theorem dX5_stands_2 : decode cX5_stands 2 = .ok (.iload_n 3, 1) := by decide +kernel
theorem dX5_stands_3 : decode cX5_stands 3 = .ok (.bipush 6, 2) := by decide +kernel
theorem dX5_stands_5 : decode cX5_stands 5 = .ok (.if_icmp .ge 16, 3) := by decide +kernel
theorem dX5_stands_8 : decode cX5_stands 8 = .ok (.aload_n 0, 1) := by decide +kernel
theorem dX5_stands_9 : decode cX5_stands 9 = .ok (.getfield 34, 3) := by decide +kernel
theorem dX5_stands_12 : decode cX5_stands 12 = .ok (.iload_n 3, 1) := by decide +kernel
theorem dX5_stands_13 : decode cX5_stands 13 = .ok (.iload_n 3, 1) := by decide +kernel
theorem dX5_stands_14 : decode cX5_stands 14 = .ok (.iastore, 1) := by decide +kernel
theorem dX5_stands_15 : decode cX5_stands 15 = .ok (.iinc 3 1, 3) := by decide +kernel
theorem dX5_stands_18 : decode cX5_stands 18 = .ok (.goto (-16), 3) := by decide +kernel
theorem dX5_stands_21 : decode cX5_stands 21 = .ok (.iconst 0, 1) := by decide +kernel
theorem dX5_stands_22 : decode cX5_stands 22 = .ok (.istore_n 3, 1) := by decide +kernel
theorem dX5_stands_23 : decode cX5_stands 23 = .ok (.iload_n 3, 1) := by decide +kernel
theorem dX5_stands_24 : decode cX5_stands 24 = .ok (.iload_n 2, 1) := by decide +kernel
theorem dX5_stands_25 : decode cX5_stands 25 = .ok (.if_icmp .ge 100, 3) := by decide +kernel
theorem dX5_stands_28 : decode cX5_stands 28 = .ok (.iconst 0, 1) := by decide +kernel
theorem dX5_stands_29 : decode cX5_stands 29 = .ok (.istore 4, 2) := by decide +kernel
theorem dX5_stands_31 : decode cX5_stands 31 = .ok (.iload 4, 2) := by decide +kernel
theorem dX5_stands_33 : decode cX5_stands 33 = .ok (.aload_n 0, 1) := by decide +kernel
theorem dX5_stands_34 : decode cX5_stands 34 = .ok (.getfield 7, 3) := by decide +kernel
theorem dX5_stands_37 : decode cX5_stands 37 = .ok (.iload_n 1, 1) := by decide +kernel
theorem dX5_stands_38 : decode cX5_stands 38 = .ok (.iaload, 1) := by decide +kernel
theorem dX5_stands_39 : decode cX5_stands 39 = .ok (.iload_n 3, 1) := by decide +kernel
theorem dX5_stands_40 : decode cX5_stands 40 = .ok (.invokestatic 63, 3) := by decide +kernel
theorem dX5_stands_43 : decode cX5_stands 43 = .ok (.if_icmp .ge 76, 3) := by decide +kernel
theorem dX5_stands_46 : decode cX5_stands 46 = .ok (.aload_n 0, 1) := by decide +kernel
theorem dX5_stands_47 : decode cX5_stands 47 = .ok (.getfield 19, 3) := by decide +kernel
theorem dX5_stands_50 : decode cX5_stands 50 = .ok (.bipush 48, 2) := by decide +kernel
theorem dX5_stands_52 : decode cX5_stands 52 = .ok (.iload_n 1, 1) := by decide +kernel
theorem dX5_stands_53 : decode cX5_stands 53 = .ok (.imul, 1) := by decide +kernel
theorem dX5_stands_54 : decode cX5_stands 54 = .ok (.iconst 3, 1) := by decide +kernel
theorem dX5_stands_55 : decode cX5_stands 55 = .ok (.iload_n 3, 1) := by decide +kernel
theorem dX5_stands_56 : decode cX5_stands 56 = .ok (.imul, 1) := by decide +kernel
theorem dX5_stands_57 : decode cX5_stands 57 = .ok (.iadd, 1) := by decide +kernel
theorem dX5_stands_58 : decode cX5_stands 58 = .ok (.iload 4, 2) := by decide +kernel
theorem dX5_stands_60 : decode cX5_stands 60 = .ok (.iadd, 1) := by decide +kernel
theorem dX5_stands_61 : decode cX5_stands 61 = .ok (.iaload, 1) := by decide +kernel
theorem dX5_stands_62 : decode cX5_stands 62 = .ok (.iconst 1, 1) := by decide +kernel
theorem dX5_stands_63 : decode cX5_stands 63 = .ok (.if_icmp .le 6, 3) := by decide +kernel
theorem dX5_stands_66 : decode cX5_stands 66 = .ok (.goto 47, 3) := by decide +kernel
theorem dX5_stands_69 : decode cX5_stands 69 = .ok (.iload_n 3, 1) := by decide +kernel
theorem dX5_stands_70 : decode cX5_stands 70 = .ok (.iload 4, 2) := by decide +kernel
theorem dX5_stands_72 : decode cX5_stands 72 = .ok (.invokestatic 71, 3) := by decide +kernel
theorem dX5_stands_75 : decode cX5_stands 75 = .ok (.istore 5, 2) := by decide +kernel
theorem dX5_stands_77 : decode cX5_stands 77 = .ok (.aload_n 0, 1) := by decide +kernel
theorem dX5_stands_78 : decode cX5_stands 78 = .ok (.getfield 34, 3) := by decide +kernel
theorem dX5_stands_81 : decode cX5_stands 81 = .ok (.iload 5, 2) := by decide +kernel
theorem dX5_stands_83 : decode cX5_stands 83 = .ok (.iaload, 1) := by decide +kernel
theorem dX5_stands_84 : decode cX5_stands 84 = .ok (.istore 6, 2) := by decide +kernel
theorem dX5_stands_86 : decode cX5_stands 86 = .ok (.aload_n 0, 1) := by decide +kernel
theorem dX5_stands_87 : decode cX5_stands 87 = .ok (.getfield 34, 3) := by decide +kernel
theorem dX5_stands_90 : decode cX5_stands 90 = .ok (.iload 5, 2) := by decide +kernel
theorem dX5_stands_92 : decode cX5_stands 92 = .ok (.aload_n 0, 1) := by decide +kernel
theorem dX5_stands_93 : decode cX5_stands 93 = .ok (.getfield 34, 3) := by decide +kernel
theorem dX5_stands_96 : decode cX5_stands 96 = .ok (.iload 5, 2) := by decide +kernel
theorem dX5_stands_98 : decode cX5_stands 98 = .ok (.iconst 1, 1) := by decide +kernel
theorem dX5_stands_99 : decode cX5_stands 99 = .ok (.iadd, 1) := by decide +kernel
theorem dX5_stands_100 : decode cX5_stands 100 = .ok (.iaload, 1) := by decide +kernel
theorem dX5_stands_101 : decode cX5_stands 101 = .ok (.iastore, 1) := by decide +kernel
theorem dX5_stands_102 : decode cX5_stands 102 = .ok (.aload_n 0, 1) := by decide +kernel
theorem dX5_stands_103 : decode cX5_stands 103 = .ok (.getfield 34, 3) := by decide +kernel
theorem dX5_stands_106 : decode cX5_stands 106 = .ok (.iload 5, 2) := by decide +kernel
theorem dX5_stands_108 : decode cX5_stands 108 = .ok (.iconst 1, 1) := by decide +kernel
theorem dX5_stands_109 : decode cX5_stands 109 = .ok (.iadd, 1) := by decide +kernel
theorem dX5_stands_110 : decode cX5_stands 110 = .ok (.iload 6, 2) := by decide +kernel
theorem dX5_stands_112 : decode cX5_stands 112 = .ok (.iastore, 1) := by decide +kernel
theorem dX5_stands_113 : decode cX5_stands 113 = .ok (.iinc 4 1, 3) := by decide +kernel
theorem dX5_stands_116 : decode cX5_stands 116 = .ok (.goto (-85), 3) := by decide +kernel
theorem dX5_stands_119 : decode cX5_stands 119 = .ok (.iinc 3 1, 3) := by decide +kernel
theorem dX5_stands_122 : decode cX5_stands 122 = .ok (.goto (-99), 3) := by decide +kernel
theorem dX5_stands_125 : decode cX5_stands 125 = .ok (.return_, 1) := by decide +kernel
set_option maxRecDepth 20000 in
theorem ggX5_of_X5_left : GoodIn wsX5_of wsX5_left := goodIn_r _ [6] (by decide +kernel) (by decide +kernel)
set_option maxRecDepth 20000 in
theorem gX5_of_X5_left : GoodIn wsX5_of (va_wsS RX5 71 yX5_left wsX5_left) := goodIn_app (goodIn_of _ (by decide +kernel)) ggX5_of_X5_left
theorem dX5_of_0 : decode cX5_of 0 = .ok (.aload_n 0, 1) := by decide +kernel
theorem dX5_of_1 : decode cX5_of 1 = .ok (.getfield 19, 3) := by decide +kernel
theorem dX5_of_4 : decode cX5_of 4 = .ok (.bipush 48, 2) := by decide +kernel
theorem dX5_of_6 : decode cX5_of 6 = .ok (.iload_n 1, 1) := by decide +kernel
theorem dX5_of_7 : decode cX5_of 7 = .ok (.imul, 1) := by decide +kernel
theorem dX5_of_8 : decode cX5_of 8 = .ok (.iconst 3, 1) := by decide +kernel
theorem dX5_of_9 : decode cX5_of 9 = .ok (.iload_n 2, 1) := by decide +kernel
theorem dX5_of_10 : decode cX5_of 10 = .ok (.imul, 1) := by decide +kernel
theorem dX5_of_11 : decode cX5_of 11 = .ok (.iadd, 1) := by decide +kernel
theorem dX5_of_12 : decode cX5_of 12 = .ok (.iload_n 3, 1) := by decide +kernel
theorem dX5_of_13 : decode cX5_of 13 = .ok (.iadd, 1) := by decide +kernel
theorem dX5_of_14 : decode cX5_of 14 = .ok (.iaload, 1) := by decide +kernel
theorem dX5_of_15 : decode cX5_of 15 = .ok (.iconst 2, 1) := by decide +kernel
theorem dX5_of_16 : decode cX5_of 16 = .ok (.irem, 1) := by decide +kernel
theorem dX5_of_17 : decode cX5_of 17 = .ok (.ifCond .ne 7, 3) := by decide +kernel
theorem dX5_of_20 : decode cX5_of 20 = .ok (.iconst 1, 1) := by decide +kernel
theorem dX5_of_21 : decode cX5_of 21 = .ok (.goto 4, 3) := by decide +kernel
theorem dX5_of_24 : decode cX5_of 24 = .ok (.iconst 0, 1) := by decide +kernel
theorem dX5_of_25 : decode cX5_of 25 = .ok (.istore 5, 2) := by decide +kernel
theorem dX5_of_27 : decode cX5_of 27 = .ok (.aload_n 0, 1) := by decide +kernel
theorem dX5_of_28 : decode cX5_of 28 = .ok (.getfield 34, 3) := by decide +kernel
theorem dX5_of_31 : decode cX5_of 31 = .ok (.iload_n 2, 1) := by decide +kernel
theorem dX5_of_32 : decode cX5_of 32 = .ok (.iload_n 3, 1) := by decide +kernel
theorem dX5_of_33 : decode cX5_of 33 = .ok (.invokestatic 71, 3) := by decide +kernel
theorem dX5_of_36 : decode cX5_of 36 = .ok (.iload 5, 2) := by decide +kernel
theorem dX5_of_38 : decode cX5_of 38 = .ok (.iload 4, 2) := by decide +kernel
theorem dX5_of_40 : decode cX5_of 40 = .ok (.if_icmp .ne 7, 3) := by decide +kernel
theorem dX5_of_43 : decode cX5_of 43 = .ok (.iconst 0, 1) := by decide +kernel
theorem dX5_of_44 : decode cX5_of 44 = .ok (.goto 4, 3) := by decide +kernel
theorem dX5_of_47 : decode cX5_of 47 = .ok (.iconst 1, 1) := by decide +kernel
theorem dX5_of_48 : decode cX5_of 48 = .ok (.iadd, 1) := by decide +kernel
theorem dX5_of_49 : decode cX5_of 49 = .ok (.iaload, 1) := by decide +kernel
theorem dX5_of_50 : decode cX5_of 50 = .ok (.ireturn, 1) := by decide +kernel
set_option maxRecDepth 20000 in
theorem ggX5_showsOf_X5_stands : GoodIn wsX5_showsOf wsX5_stands := goodIn_r _ [6, 7, 8, 9, 10, 11, 5, 12, 13, 14, 15, 20, 21, 22, 23, 24, 25, 26, 27, 28, 29, 30, 31, 32, 33, 34] (by decide +kernel) (by decide +kernel)
set_option maxRecDepth 20000 in
theorem gX5_showsOf_X5_stands : GoodIn wsX5_showsOf (wsV RX5 74 RX5 yX5_stands wsX5_stands) := goodIn_app (goodIn_of _ (by decide +kernel)) ggX5_showsOf_X5_stands
set_option maxRecDepth 20000 in
theorem ggX5_showsOf_X5_of : GoodIn wsX5_showsOf wsX5_of := goodIn_r _ [19, 9, 7, 13, 14, 5, 15, 20, 21, 22, 23, 24, 25, 26, 27, 28, 29, 30, 31, 32, 33, 34] (by decide +kernel) (by decide +kernel)
set_option maxRecDepth 20000 in
theorem gX5_showsOf_X5_of : GoodIn wsX5_showsOf (wsV RX5 78 RX5 yX5_of wsX5_of) := goodIn_app (goodIn_of _ (by decide +kernel)) ggX5_showsOf_X5_of
theorem dX5_showsOf_0 : decode cX5_showsOf 0 = .ok (.aload_n 0, 1) := by decide +kernel
theorem dX5_showsOf_1 : decode cX5_showsOf 1 = .ok (.iload_n 1, 1) := by decide +kernel
theorem dX5_showsOf_2 : decode cX5_showsOf 2 = .ok (.iload_n 2, 1) := by decide +kernel
theorem dX5_showsOf_3 : decode cX5_showsOf 3 = .ok (.invokevirtual 74, 3) := by decide +kernel
theorem dX5_showsOf_6 : decode cX5_showsOf 6 = .ok (.aload_n 0, 1) := by decide +kernel
theorem dX5_showsOf_7 : decode cX5_showsOf 7 = .ok (.getfield 16, 3) := by decide +kernel
theorem dX5_showsOf_10 : decode cX5_showsOf 10 = .ok (.bipush 6, 2) := by decide +kernel
theorem dX5_showsOf_12 : decode cX5_showsOf 12 = .ok (.iload_n 1, 1) := by decide +kernel
theorem dX5_showsOf_13 : decode cX5_showsOf 13 = .ok (.imul, 1) := by decide +kernel
theorem dX5_showsOf_14 : decode cX5_showsOf 14 = .ok (.aload_n 0, 1) := by decide +kernel
theorem dX5_showsOf_15 : decode cX5_showsOf 15 = .ok (.iload_n 1, 1) := by decide +kernel
theorem dX5_showsOf_16 : decode cX5_showsOf 16 = .ok (.iload_n 2, 1) := by decide +kernel
theorem dX5_showsOf_17 : decode cX5_showsOf 17 = .ok (.iload_n 3, 1) := by decide +kernel
theorem dX5_showsOf_18 : decode cX5_showsOf 18 = .ok (.iconst 1, 1) := by decide +kernel
theorem dX5_showsOf_19 : decode cX5_showsOf 19 = .ok (.invokevirtual 78, 3) := by decide +kernel
theorem dX5_showsOf_22 : decode cX5_showsOf 22 = .ok (.iadd, 1) := by decide +kernel
theorem dX5_showsOf_23 : decode cX5_showsOf 23 = .ok (.iaload, 1) := by decide +kernel
theorem dX5_showsOf_24 : decode cX5_showsOf 24 = .ok (.ireturn, 1) := by decide +kernel
set_option maxRecDepth 20000 in
theorem ggX5_shows_X5_isKnot : GoodIn wsX5_shows wsX5_isKnot := goodIn_r _ [5, 6, 7, 8, 9, 10, 4, 11, 12, 13, 14, 15, 16, 17, 18, 19, 20, 39, 40, 41, 42, 43, 44, 45, 46, 47, 48, 49, 50, 51, 52, 53] (by decide +kernel) (by decide +kernel)
set_option maxRecDepth 20000 in
theorem gX5_shows_X5_isKnot : GoodIn wsX5_shows (wsV RX5 67 RX5 yX5_isKnot wsX5_isKnot) := goodIn_app (goodIn_of _ (by decide +kernel)) ggX5_shows_X5_isKnot
set_option maxRecDepth 20000 in
theorem ggX5_shows_X5_showsOf : GoodIn wsX5_shows wsX5_showsOf := goodIn_r _ [24, 25, 26, 27, 28, 4, 29, 30, 7, 31, 18, 19, 20, 32, 33, 34, 35, 36, 37, 38, 39, 40, 41, 42, 43, 44, 45, 46, 47, 48, 49, 50, 51, 52, 53] (by decide +kernel) (by decide +kernel)
set_option maxRecDepth 20000 in
theorem gX5_shows_X5_showsOf : GoodIn wsX5_shows (wsV RX5 82 RX5 yX5_showsOf wsX5_showsOf) := goodIn_app (goodIn_of _ (by decide +kernel)) ggX5_shows_X5_showsOf
theorem dX5_shows_0 : decode cX5_shows 0 = .ok (.aload_n 0, 1) := by decide +kernel
theorem dX5_shows_1 : decode cX5_shows 1 = .ok (.iload_n 1, 1) := by decide +kernel
theorem dX5_shows_2 : decode cX5_shows 2 = .ok (.iload_n 2, 1) := by decide +kernel
theorem dX5_shows_3 : decode cX5_shows 3 = .ok (.iload_n 3, 1) := by decide +kernel
theorem dX5_shows_4 : decode cX5_shows 4 = .ok (.invokevirtual 67, 3) := by decide +kernel
theorem dX5_shows_7 : decode cX5_shows 7 = .ok (.ifCond .eq 13, 3) := by decide +kernel
theorem dX5_shows_10 : decode cX5_shows 10 = .ok (.aload_n 0, 1) := by decide +kernel
theorem dX5_shows_11 : decode cX5_shows 11 = .ok (.iload_n 1, 1) := by decide +kernel
theorem dX5_shows_12 : decode cX5_shows 12 = .ok (.iload_n 2, 1) := by decide +kernel
theorem dX5_shows_13 : decode cX5_shows 13 = .ok (.iload_n 3, 1) := by decide +kernel
theorem dX5_shows_14 : decode cX5_shows 14 = .ok (.invokevirtual 82, 3) := by decide +kernel
theorem dX5_shows_17 : decode cX5_shows 17 = .ok (.goto 4, 3) := by decide +kernel
theorem dX5_shows_20 : decode cX5_shows 20 = .ok (.iconst 0, 1) := by decide +kernel
theorem dX5_shows_21 : decode cX5_shows 21 = .ok (.ireturn, 1) := by decide +kernel
set_option maxRecDepth 20000 in
theorem ggX5_thread_X5_isBand : GoodIn wsX5_thread wsX5_isBand := goodIn_r _ [8, 9, 10, 11, 12, 13, 7, 14, 26, 27, 28, 29, 30, 31, 32, 33, 34, 35, 36, 37, 38, 39, 40] (by decide +kernel) (by decide +kernel)
set_option maxRecDepth 20000 in
theorem gX5_thread_X5_isBand : GoodIn wsX5_thread (wsV RX5 59 RX5 yX5_isBand wsX5_isBand) := goodIn_app (goodIn_of _ (by decide +kernel)) ggX5_thread_X5_isBand
set_option maxRecDepth 20000 in
theorem ggX5_thread_X5_right : GoodIn wsX5_thread wsX5_right := goodIn_r _ [14, 9, 26, 27, 28, 29, 30, 31, 32, 33, 34, 35, 36, 37, 38, 39, 40] (by decide +kernel) (by decide +kernel)
set_option maxRecDepth 20000 in
theorem gX5_thread_X5_right : GoodIn wsX5_thread (wsV RX5 55 RX5 yX5_right wsX5_right) := goodIn_app (goodIn_of _ (by decide +kernel)) ggX5_thread_X5_right
set_option maxRecDepth 20000 in
theorem ggX5_thread_X5_stands : GoodIn wsX5_thread wsX5_stands := goodIn_r _ [18, 3, 2, 19, 20, 21, 7, 22, 23, 24, 25, 26, 27, 28, 29, 30, 31, 32, 33, 34, 35, 36, 37, 38, 39, 40] (by decide +kernel) (by decide +kernel)
set_option maxRecDepth 20000 in
theorem gX5_thread_X5_stands : GoodIn wsX5_thread (wsV RX5 74 RX5 yX5_stands wsX5_stands) := goodIn_app (goodIn_of _ (by decide +kernel)) ggX5_thread_X5_stands
end
section
theorem dX5_thread_0 : decode cX5_thread 0 = .ok (.aload_n 0, 1) := by decide +kernel
theorem dX5_thread_1 : decode cX5_thread 1 = .ok (.iload_n 1, 1) := by decide +kernel
theorem dX5_thread_2 : decode cX5_thread 2 = .ok (.invokevirtual 59, 3) := by decide +kernel
theorem dX5_thread_5 : decode cX5_thread 5 = .ok (.ifCond .eq 44, 3) := by decide +kernel
theorem dX5_thread_8 : decode cX5_thread 8 = .ok (.aload_n 0, 1) := by decide +kernel
theorem dX5_thread_9 : decode cX5_thread 9 = .ok (.iload_n 2, 1) := by decide +kernel
theorem dX5_thread_10 : decode cX5_thread 10 = .ok (.ifCond .lt 31, 3) := by decide +kernel
theorem dX5_thread_13 : decode cX5_thread 13 = .ok (.iload_n 2, 1) := by decide +kernel
theorem dX5_thread_14 : decode cX5_thread 14 = .ok (.aload_n 0, 1) := by decide +kernel
theorem dX5_thread_15 : decode cX5_thread 15 = .ok (.getfield 13, 3) := by decide +kernel
theorem dX5_thread_18 : decode cX5_thread 18 = .ok (.iload_n 1, 1) := by decide +kernel
theorem dX5_thread_19 : decode cX5_thread 19 = .ok (.iaload, 1) := by decide +kernel
theorem dX5_thread_20 : decode cX5_thread 20 = .ok (.if_icmp .gt 21, 3) := by decide +kernel
theorem dX5_thread_23 : decode cX5_thread 23 = .ok (.iload_n 3, 1) := by decide +kernel
theorem dX5_thread_24 : decode cX5_thread 24 = .ok (.ifCond .lt 17, 3) := by decide +kernel
theorem dX5_thread_27 : decode cX5_thread 27 = .ok (.iload_n 3, 1) := by decide +kernel
theorem dX5_thread_28 : decode cX5_thread 28 = .ok (.aload_n 0, 1) := by decide +kernel
theorem dX5_thread_29 : decode cX5_thread 29 = .ok (.getfield 7, 3) := by decide +kernel
theorem dX5_thread_32 : decode cX5_thread 32 = .ok (.iload_n 1, 1) := by decide +kernel
theorem dX5_thread_33 : decode cX5_thread 33 = .ok (.iaload, 1) := by decide +kernel
theorem dX5_thread_34 : decode cX5_thread 34 = .ok (.if_icmp .ge 7, 3) := by decide +kernel
theorem dX5_thread_37 : decode cX5_thread 37 = .ok (.iconst 1, 1) := by decide +kernel
theorem dX5_thread_38 : decode cX5_thread 38 = .ok (.goto 4, 3) := by decide +kernel
theorem dX5_thread_41 : decode cX5_thread 41 = .ok (.iconst 0, 1) := by decide +kernel
theorem dX5_thread_42 : decode cX5_thread 42 = .ok (.iconst 1, 1) := by decide +kernel
theorem dX5_thread_43 : decode cX5_thread 43 = .ok (.invokevirtual 55, 3) := by decide +kernel
theorem dX5_thread_46 : decode cX5_thread 46 = .ok (.ifCond .ne 5, 3) := by decide +kernel
theorem dX5_thread_49 : decode cX5_thread 49 = .ok (.iconst 0, 1) := by decide +kernel
theorem dX5_thread_50 : decode cX5_thread 50 = .ok (.ireturn, 1) := by decide +kernel
theorem dX5_thread_51 : decode cX5_thread 51 = .ok (.aload_n 0, 1) := by decide +kernel
theorem dX5_thread_52 : decode cX5_thread 52 = .ok (.iload_n 1, 1) := by decide +kernel
theorem dX5_thread_53 : decode cX5_thread 53 = .ok (.iload_n 2, 1) := by decide +kernel
theorem dX5_thread_54 : decode cX5_thread 54 = .ok (.invokevirtual 74, 3) := by decide +kernel
theorem dX5_thread_57 : decode cX5_thread 57 = .ok (.aload_n 0, 1) := by decide +kernel
theorem dX5_thread_58 : decode cX5_thread 58 = .ok (.getfield 34, 3) := by decide +kernel
theorem dX5_thread_61 : decode cX5_thread 61 = .ok (.iload_n 3, 1) := by decide +kernel
theorem dX5_thread_62 : decode cX5_thread 62 = .ok (.iaload, 1) := by decide +kernel
theorem dX5_thread_63 : decode cX5_thread 63 = .ok (.ireturn, 1) := by decide +kernel
set_option maxRecDepth 20000 in
theorem ggX5_used_X5_isBand : GoodIn wsX5_used wsX5_isBand := goodIn_r _ [7, 8, 9, 10, 11, 12, 6, 13, 30, 31, 32, 33, 34, 35, 36, 37, 38, 39, 40, 41, 42, 43, 44] (by decide +kernel) (by decide +kernel)
set_option maxRecDepth 20000 in
theorem gX5_used_X5_isBand : GoodIn wsX5_used (wsV RX5 59 RX5 yX5_isBand wsX5_isBand) := goodIn_app (goodIn_of _ (by decide +kernel)) ggX5_used_X5_isBand
set_option maxRecDepth 20000 in
theorem ggX5_used_X5_right : GoodIn wsX5_used wsX5_right := goodIn_r _ [13, 8, 30, 31, 32, 33, 34, 35, 36, 37, 38, 39, 40, 41, 42, 43, 44] (by decide +kernel) (by decide +kernel)
set_option maxRecDepth 20000 in
theorem gX5_used_X5_right : GoodIn wsX5_used (wsV RX5 55 RX5 yX5_right wsX5_right) := goodIn_app (goodIn_of _ (by decide +kernel)) ggX5_used_X5_right
set_option maxRecDepth 20000 in
theorem ggX5_used_X5_stands : GoodIn wsX5_used wsX5_stands := goodIn_r _ [17, 18, 1, 19, 20, 21, 6, 22, 23, 24, 25, 30, 31, 32, 33, 34, 35, 36, 37, 38, 39, 40, 41, 42, 43, 44] (by decide +kernel) (by decide +kernel)
set_option maxRecDepth 20000 in
theorem gX5_used_X5_stands : GoodIn wsX5_used (wsV RX5 74 RX5 yX5_stands wsX5_stands) := goodIn_app (goodIn_of _ (by decide +kernel)) ggX5_used_X5_stands
set_option maxRecDepth 20000 in
theorem ggX5_used_X5_knots : GoodIn wsX5_used wsX5_knots := goodIn_r _ [22] (by decide +kernel) (by decide +kernel)
set_option maxRecDepth 20000 in
theorem gX5_used_X5_knots : GoodIn wsX5_used (va_wsS RX5 63 yX5_knots wsX5_knots) := goodIn_app (goodIn_of _ (by decide +kernel)) ggX5_used_X5_knots
set_option maxRecDepth 20000 in
theorem ggX5_used_X5_of : GoodIn wsX5_used wsX5_of := goodIn_r _ [29, 19, 18, 23, 24, 6, 25, 30, 31, 32, 33, 34, 35, 36, 37, 38, 39, 40, 41, 42, 43, 44] (by decide +kernel) (by decide +kernel)
set_option maxRecDepth 20000 in
theorem gX5_used_X5_of : GoodIn wsX5_used (wsV RX5 78 RX5 yX5_of wsX5_of) := goodIn_app (goodIn_of _ (by decide +kernel)) ggX5_used_X5_of
theorem dX5_used_0 : decode cX5_used 0 = .ok (.aload_n 0, 1) := by decide +kernel
theorem dX5_used_1 : decode cX5_used 1 = .ok (.iload_n 1, 1) := by decide +kernel
theorem dX5_used_2 : decode cX5_used 2 = .ok (.invokevirtual 59, 3) := by decide +kernel
theorem dX5_used_5 : decode cX5_used 5 = .ok (.ifCond .eq 30, 3) := by decide +kernel
theorem dX5_used_8 : decode cX5_used 8 = .ok (.aload_n 0, 1) := by decide +kernel
theorem dX5_used_9 : decode cX5_used 9 = .ok (.iload_n 2, 1) := by decide +kernel
theorem dX5_used_10 : decode cX5_used 10 = .ok (.ifCond .lt 17, 3) := by decide +kernel
theorem dX5_used_13 : decode cX5_used 13 = .ok (.iload_n 2, 1) := by decide +kernel
theorem dX5_used_14 : decode cX5_used 14 = .ok (.aload_n 0, 1) := by decide +kernel
theorem dX5_used_15 : decode cX5_used 15 = .ok (.getfield 7, 3) := by decide +kernel
theorem dX5_used_18 : decode cX5_used 18 = .ok (.iload_n 1, 1) := by decide +kernel
theorem dX5_used_19 : decode cX5_used 19 = .ok (.iaload, 1) := by decide +kernel
theorem dX5_used_20 : decode cX5_used 20 = .ok (.if_icmp .ge 7, 3) := by decide +kernel
theorem dX5_used_23 : decode cX5_used 23 = .ok (.iconst 1, 1) := by decide +kernel
theorem dX5_used_24 : decode cX5_used 24 = .ok (.goto 4, 3) := by decide +kernel
theorem dX5_used_27 : decode cX5_used 27 = .ok (.iconst 0, 1) := by decide +kernel
theorem dX5_used_28 : decode cX5_used 28 = .ok (.iconst 1, 1) := by decide +kernel
theorem dX5_used_29 : decode cX5_used 29 = .ok (.invokevirtual 55, 3) := by decide +kernel
theorem dX5_used_32 : decode cX5_used 32 = .ok (.ifCond .ne 5, 3) := by decide +kernel
theorem dX5_used_35 : decode cX5_used 35 = .ok (.iconst 0, 1) := by decide +kernel
theorem dX5_used_36 : decode cX5_used 36 = .ok (.ireturn, 1) := by decide +kernel
theorem dX5_used_37 : decode cX5_used 37 = .ok (.iconst 0, 1) := by decide +kernel
theorem dX5_used_38 : decode cX5_used 38 = .ok (.istore_n 3, 1) := by decide +kernel
theorem dX5_used_39 : decode cX5_used 39 = .ok (.iconst 0, 1) := by decide +kernel
theorem dX5_used_40 : decode cX5_used 40 = .ok (.istore 4, 2) := by decide +kernel
theorem dX5_used_42 : decode cX5_used 42 = .ok (.iload 4, 2) := by decide +kernel
theorem dX5_used_44 : decode cX5_used 44 = .ok (.aload_n 0, 1) := by decide +kernel
theorem dX5_used_45 : decode cX5_used 45 = .ok (.getfield 13, 3) := by decide +kernel
theorem dX5_used_48 : decode cX5_used 48 = .ok (.iload_n 1, 1) := by decide +kernel
theorem dX5_used_49 : decode cX5_used 49 = .ok (.iaload, 1) := by decide +kernel
theorem dX5_used_50 : decode cX5_used 50 = .ok (.if_icmp .ge 81, 3) := by decide +kernel
theorem dX5_used_53 : decode cX5_used 53 = .ok (.aload_n 0, 1) := by decide +kernel
theorem dX5_used_54 : decode cX5_used 54 = .ok (.iload_n 1, 1) := by decide +kernel
theorem dX5_used_55 : decode cX5_used 55 = .ok (.iload 4, 2) := by decide +kernel
theorem dX5_used_57 : decode cX5_used 57 = .ok (.invokevirtual 74, 3) := by decide +kernel
theorem dX5_used_60 : decode cX5_used 60 = .ok (.iconst 0, 1) := by decide +kernel
theorem dX5_used_61 : decode cX5_used 61 = .ok (.istore 5, 2) := by decide +kernel
theorem dX5_used_63 : decode cX5_used 63 = .ok (.iload 5, 2) := by decide +kernel
theorem dX5_used_65 : decode cX5_used 65 = .ok (.aload_n 0, 1) := by decide +kernel
theorem dX5_used_66 : decode cX5_used 66 = .ok (.getfield 7, 3) := by decide +kernel
theorem dX5_used_69 : decode cX5_used 69 = .ok (.iload_n 1, 1) := by decide +kernel
theorem dX5_used_70 : decode cX5_used 70 = .ok (.iaload, 1) := by decide +kernel
theorem dX5_used_71 : decode cX5_used 71 = .ok (.iload 4, 2) := by decide +kernel
theorem dX5_used_73 : decode cX5_used 73 = .ok (.invokestatic 63, 3) := by decide +kernel
theorem dX5_used_76 : decode cX5_used 76 = .ok (.if_icmp .ge 49, 3) := by decide +kernel
theorem dX5_used_79 : decode cX5_used 79 = .ok (.iload_n 3, 1) := by decide +kernel
theorem dX5_used_80 : decode cX5_used 80 = .ok (.aload_n 0, 1) := by decide +kernel
theorem dX5_used_81 : decode cX5_used 81 = .ok (.iload_n 1, 1) := by decide +kernel
theorem dX5_used_82 : decode cX5_used 82 = .ok (.iload 4, 2) := by decide +kernel
theorem dX5_used_84 : decode cX5_used 84 = .ok (.iload 5, 2) := by decide +kernel
theorem dX5_used_86 : decode cX5_used 86 = .ok (.iconst 1, 1) := by decide +kernel
theorem dX5_used_87 : decode cX5_used 87 = .ok (.invokevirtual 78, 3) := by decide +kernel
theorem dX5_used_90 : decode cX5_used 90 = .ok (.iload_n 2, 1) := by decide +kernel
theorem dX5_used_91 : decode cX5_used 91 = .ok (.if_icmp .ne 7, 3) := by decide +kernel
theorem dX5_used_94 : decode cX5_used 94 = .ok (.iconst 5, 1) := by decide +kernel
theorem dX5_used_95 : decode cX5_used 95 = .ok (.goto 22, 3) := by decide +kernel
theorem dX5_used_98 : decode cX5_used 98 = .ok (.aload_n 0, 1) := by decide +kernel
theorem dX5_used_99 : decode cX5_used 99 = .ok (.iload_n 1, 1) := by decide +kernel
theorem dX5_used_100 : decode cX5_used 100 = .ok (.iload 4, 2) := by decide +kernel
theorem dX5_used_102 : decode cX5_used 102 = .ok (.iload 5, 2) := by decide +kernel
theorem dX5_used_104 : decode cX5_used 104 = .ok (.iconst 0, 1) := by decide +kernel
theorem dX5_used_105 : decode cX5_used 105 = .ok (.invokevirtual 78, 3) := by decide +kernel
theorem dX5_used_108 : decode cX5_used 108 = .ok (.iload_n 2, 1) := by decide +kernel
theorem dX5_used_109 : decode cX5_used 109 = .ok (.if_icmp .ne 7, 3) := by decide +kernel
theorem dX5_used_112 : decode cX5_used 112 = .ok (.iconst 1, 1) := by decide +kernel
theorem dX5_used_113 : decode cX5_used 113 = .ok (.goto 4, 3) := by decide +kernel
theorem dX5_used_116 : decode cX5_used 116 = .ok (.iconst 0, 1) := by decide +kernel
theorem dX5_used_117 : decode cX5_used 117 = .ok (.iadd, 1) := by decide +kernel
theorem dX5_used_118 : decode cX5_used 118 = .ok (.istore_n 3, 1) := by decide +kernel
theorem dX5_used_119 : decode cX5_used 119 = .ok (.iinc 5 1, 3) := by decide +kernel
theorem dX5_used_122 : decode cX5_used 122 = .ok (.goto (-59), 3) := by decide +kernel
theorem dX5_used_125 : decode cX5_used 125 = .ok (.iinc 4 1, 3) := by decide +kernel
theorem dX5_used_128 : decode cX5_used 128 = .ok (.goto (-86), 3) := by decide +kernel
theorem dX5_used_131 : decode cX5_used 131 = .ok (.iload_n 3, 1) := by decide +kernel
theorem dX5_used_132 : decode cX5_used 132 = .ok (.ireturn, 1) := by decide +kernel
set_option maxRecDepth 20000 in
theorem ggX5_home_X5_isBand : GoodIn wsX5_home wsX5_isBand := goodIn_r _ [11, 12, 13, 14, 15, 16, 10, 17, 29, 30, 31, 32, 33, 34, 35, 36, 37, 38, 39, 40, 41, 42, 43] (by decide +kernel) (by decide +kernel)
set_option maxRecDepth 20000 in
theorem gX5_home_X5_isBand : GoodIn wsX5_home (wsV RX5 59 RX5 yX5_isBand wsX5_isBand) := goodIn_app (goodIn_of _ (by decide +kernel)) ggX5_home_X5_isBand
set_option maxRecDepth 20000 in
theorem ggX5_home_X5_right : GoodIn wsX5_home wsX5_right := goodIn_r _ [17, 12, 29, 30, 31, 32, 33, 34, 35, 36, 37, 38, 39, 40, 41, 42, 43] (by decide +kernel) (by decide +kernel)
set_option maxRecDepth 20000 in
theorem gX5_home_X5_right : GoodIn wsX5_home (wsV RX5 55 RX5 yX5_right wsX5_right) := goodIn_app (goodIn_of _ (by decide +kernel)) ggX5_home_X5_right
set_option maxRecDepth 20000 in
theorem ggX5_home_X5_stands : GoodIn wsX5_home wsX5_stands := goodIn_r _ [21, 4, 5, 22, 23, 24, 10, 25, 26, 27, 28, 29, 30, 31, 32, 33, 34, 35, 36, 37, 38, 39, 40, 41, 42, 43] (by decide +kernel) (by decide +kernel)
set_option maxRecDepth 20000 in
theorem gX5_home_X5_stands : GoodIn wsX5_home (wsV RX5 74 RX5 yX5_stands wsX5_stands) := goodIn_app (goodIn_of _ (by decide +kernel)) ggX5_home_X5_stands
theorem dX5_home_0 : decode cX5_home 0 = .ok (.aload_n 0, 1) := by decide +kernel
theorem dX5_home_1 : decode cX5_home 1 = .ok (.iload_n 1, 1) := by decide +kernel
theorem dX5_home_2 : decode cX5_home 2 = .ok (.invokevirtual 59, 3) := by decide +kernel
theorem dX5_home_5 : decode cX5_home 5 = .ok (.ifCond .eq 25, 3) := by decide +kernel
theorem dX5_home_8 : decode cX5_home 8 = .ok (.aload_n 0, 1) := by decide +kernel
theorem dX5_home_9 : decode cX5_home 9 = .ok (.iload_n 2, 1) := by decide +kernel
theorem dX5_home_10 : decode cX5_home 10 = .ok (.ifCond .eq 8, 3) := by decide +kernel
theorem dX5_home_13 : decode cX5_home 13 = .ok (.iload_n 2, 1) := by decide +kernel
theorem dX5_home_14 : decode cX5_home 14 = .ok (.iconst 1, 1) := by decide +kernel
theorem dX5_home_15 : decode cX5_home 15 = .ok (.if_icmp .ne 7, 3) := by decide +kernel
theorem dX5_home_18 : decode cX5_home 18 = .ok (.iconst 1, 1) := by decide +kernel
theorem dX5_home_19 : decode cX5_home 19 = .ok (.goto 4, 3) := by decide +kernel
theorem dX5_home_22 : decode cX5_home 22 = .ok (.iconst 0, 1) := by decide +kernel
theorem dX5_home_23 : decode cX5_home 23 = .ok (.iconst 1, 1) := by decide +kernel
theorem dX5_home_24 : decode cX5_home 24 = .ok (.invokevirtual 55, 3) := by decide +kernel
theorem dX5_home_27 : decode cX5_home 27 = .ok (.ifCond .ne 5, 3) := by decide +kernel
theorem dX5_home_30 : decode cX5_home 30 = .ok (.iconst 0, 1) := by decide +kernel
theorem dX5_home_31 : decode cX5_home 31 = .ok (.ireturn, 1) := by decide +kernel
theorem dX5_home_32 : decode cX5_home 32 = .ok (.aload_n 0, 1) := by decide +kernel
theorem dX5_home_33 : decode cX5_home 33 = .ok (.getfield 13, 3) := by decide +kernel
theorem dX5_home_36 : decode cX5_home 36 = .ok (.iload_n 1, 1) := by decide +kernel
theorem dX5_home_37 : decode cX5_home 37 = .ok (.iaload, 1) := by decide +kernel
theorem dX5_home_38 : decode cX5_home 38 = .ok (.iconst 2, 1) := by decide +kernel
theorem dX5_home_39 : decode cX5_home 39 = .ok (.irem, 1) := by decide +kernel
theorem dX5_home_40 : decode cX5_home 40 = .ok (.iconst 1, 1) := by decide +kernel
theorem dX5_home_41 : decode cX5_home 41 = .ok (.if_icmp .ne 5, 3) := by decide +kernel
theorem dX5_home_44 : decode cX5_home 44 = .ok (.iconst (-1), 1) := by decide +kernel
theorem dX5_home_45 : decode cX5_home 45 = .ok (.ireturn, 1) := by decide +kernel
theorem dX5_home_46 : decode cX5_home 46 = .ok (.aload_n 0, 1) := by decide +kernel
theorem dX5_home_47 : decode cX5_home 47 = .ok (.iload_n 1, 1) := by decide +kernel
theorem dX5_home_48 : decode cX5_home 48 = .ok (.aload_n 0, 1) := by decide +kernel
theorem dX5_home_49 : decode cX5_home 49 = .ok (.getfield 13, 3) := by decide +kernel
theorem dX5_home_52 : decode cX5_home 52 = .ok (.iload_n 1, 1) := by decide +kernel
theorem dX5_home_53 : decode cX5_home 53 = .ok (.iaload, 1) := by decide +kernel
theorem dX5_home_54 : decode cX5_home 54 = .ok (.invokevirtual 74, 3) := by decide +kernel
theorem dX5_home_57 : decode cX5_home 57 = .ok (.iconst 0, 1) := by decide +kernel
theorem dX5_home_58 : decode cX5_home 58 = .ok (.istore_n 3, 1) := by decide +kernel
theorem dX5_home_59 : decode cX5_home 59 = .ok (.iload_n 3, 1) := by decide +kernel
theorem dX5_home_60 : decode cX5_home 60 = .ok (.bipush 6, 2) := by decide +kernel
theorem dX5_home_62 : decode cX5_home 62 = .ok (.if_icmp .ge 16, 3) := by decide +kernel
theorem dX5_home_65 : decode cX5_home 65 = .ok (.aload_n 0, 1) := by decide +kernel
theorem dX5_home_66 : decode cX5_home 66 = .ok (.getfield 37, 3) := by decide +kernel
theorem dX5_home_69 : decode cX5_home 69 = .ok (.iload_n 3, 1) := by decide +kernel
theorem dX5_home_70 : decode cX5_home 70 = .ok (.iload_n 3, 1) := by decide +kernel
theorem dX5_home_71 : decode cX5_home 71 = .ok (.iastore, 1) := by decide +kernel
theorem dX5_home_72 : decode cX5_home 72 = .ok (.iinc 3 1, 3) := by decide +kernel
theorem dX5_home_75 : decode cX5_home 75 = .ok (.goto (-16), 3) := by decide +kernel
theorem dX5_home_78 : decode cX5_home 78 = .ok (.iconst 0, 1) := by decide +kernel
theorem dX5_home_79 : decode cX5_home 79 = .ok (.istore_n 3, 1) := by decide +kernel
theorem dX5_home_80 : decode cX5_home 80 = .ok (.iconst 0, 1) := by decide +kernel
theorem dX5_home_81 : decode cX5_home 81 = .ok (.istore 4, 2) := by decide +kernel
theorem dX5_home_83 : decode cX5_home 83 = .ok (.iload 4, 2) := by decide +kernel
theorem dX5_home_85 : decode cX5_home 85 = .ok (.ifCond .ne 144, 3) := by decide +kernel
theorem dX5_home_88 : decode cX5_home 88 = .ok (.iinc 3 1, 3) := by decide +kernel
theorem dX5_home_91 : decode cX5_home 91 = .ok (.iconst 0, 1) := by decide +kernel
theorem dX5_home_92 : decode cX5_home 92 = .ok (.istore 5, 2) := by decide +kernel
theorem dX5_home_94 : decode cX5_home 94 = .ok (.iload 5, 2) := by decide +kernel
theorem dX5_home_96 : decode cX5_home 96 = .ok (.bipush 6, 2) := by decide +kernel
theorem dX5_home_98 : decode cX5_home 98 = .ok (.if_icmp .ge 28, 3) := by decide +kernel
theorem dX5_home_101 : decode cX5_home 101 = .ok (.aload_n 0, 1) := by decide +kernel
theorem dX5_home_102 : decode cX5_home 102 = .ok (.getfield 40, 3) := by decide +kernel
theorem dX5_home_105 : decode cX5_home 105 = .ok (.iload 5, 2) := by decide +kernel
theorem dX5_home_107 : decode cX5_home 107 = .ok (.aload_n 0, 1) := by decide +kernel
theorem dX5_home_108 : decode cX5_home 108 = .ok (.getfield 37, 3) := by decide +kernel
theorem dX5_home_111 : decode cX5_home 111 = .ok (.aload_n 0, 1) := by decide +kernel
theorem dX5_home_112 : decode cX5_home 112 = .ok (.getfield 34, 3) := by decide +kernel
theorem dX5_home_115 : decode cX5_home 115 = .ok (.iload 5, 2) := by decide +kernel
theorem dX5_home_117 : decode cX5_home 117 = .ok (.iaload, 1) := by decide +kernel
theorem dX5_home_118 : decode cX5_home 118 = .ok (.iaload, 1) := by decide +kernel
theorem dX5_home_119 : decode cX5_home 119 = .ok (.iastore, 1) := by decide +kernel
theorem dX5_home_120 : decode cX5_home 120 = .ok (.iinc 5 1, 3) := by decide +kernel
theorem dX5_home_123 : decode cX5_home 123 = .ok (.goto (-29), 3) := by decide +kernel
theorem dX5_home_126 : decode cX5_home 126 = .ok (.iconst 1, 1) := by decide +kernel
theorem dX5_home_127 : decode cX5_home 127 = .ok (.istore 4, 2) := by decide +kernel
theorem dX5_home_129 : decode cX5_home 129 = .ok (.iconst 0, 1) := by decide +kernel
theorem dX5_home_130 : decode cX5_home 130 = .ok (.istore 5, 2) := by decide +kernel
theorem dX5_home_132 : decode cX5_home 132 = .ok (.iload 5, 2) := by decide +kernel
theorem dX5_home_134 : decode cX5_home 134 = .ok (.aload_n 0, 1) := by decide +kernel
theorem dX5_home_135 : decode cX5_home 135 = .ok (.getfield 7, 3) := by decide +kernel
theorem dX5_home_138 : decode cX5_home 138 = .ok (.iload_n 1, 1) := by decide +kernel
theorem dX5_home_139 : decode cX5_home 139 = .ok (.iaload, 1) := by decide +kernel
theorem dX5_home_140 : decode cX5_home 140 = .ok (.if_icmp .ge 86, 3) := by decide +kernel
theorem dX5_home_143 : decode cX5_home 143 = .ok (.aload_n 0, 1) := by decide +kernel
theorem dX5_home_144 : decode cX5_home 144 = .ok (.getfield 37, 3) := by decide +kernel
theorem dX5_home_147 : decode cX5_home 147 = .ok (.iload 5, 2) := by decide +kernel
theorem dX5_home_149 : decode cX5_home 149 = .ok (.aload_n 0, 1) := by decide +kernel
theorem dX5_home_150 : decode cX5_home 150 = .ok (.getfield 40, 3) := by decide +kernel
theorem dX5_home_153 : decode cX5_home 153 = .ok (.iload 5, 2) := by decide +kernel
theorem dX5_home_155 : decode cX5_home 155 = .ok (.iaload, 1) := by decide +kernel
theorem dX5_home_156 : decode cX5_home 156 = .ok (.iastore, 1) := by decide +kernel
theorem dX5_home_157 : decode cX5_home 157 = .ok (.iload 4, 2) := by decide +kernel
theorem dX5_home_159 : decode cX5_home 159 = .ok (.ifCond .eq 58, 3) := by decide +kernel
theorem dX5_home_162 : decode cX5_home 162 = .ok (.iload_n 2, 1) := by decide +kernel
theorem dX5_home_163 : decode cX5_home 163 = .ok (.ifCond .ne 18, 3) := by decide +kernel
theorem dX5_home_166 : decode cX5_home 166 = .ok (.aload_n 0, 1) := by decide +kernel
theorem dX5_home_167 : decode cX5_home 167 = .ok (.getfield 37, 3) := by decide +kernel
theorem dX5_home_170 : decode cX5_home 170 = .ok (.iload 5, 2) := by decide +kernel
theorem dX5_home_172 : decode cX5_home 172 = .ok (.iaload, 1) := by decide +kernel
theorem dX5_home_173 : decode cX5_home 173 = .ok (.iload 5, 2) := by decide +kernel
theorem dX5_home_175 : decode cX5_home 175 = .ok (.if_icmp .ne 42, 3) := by decide +kernel
theorem dX5_home_178 : decode cX5_home 178 = .ok (.goto 35, 3) := by decide +kernel
theorem dX5_home_181 : decode cX5_home 181 = .ok (.aload_n 0, 1) := by decide +kernel
theorem dX5_home_182 : decode cX5_home 182 = .ok (.getfield 16, 3) := by decide +kernel
theorem dX5_home_185 : decode cX5_home 185 = .ok (.bipush 6, 2) := by decide +kernel
theorem dX5_home_187 : decode cX5_home 187 = .ok (.iload_n 1, 1) := by decide +kernel
theorem dX5_home_188 : decode cX5_home 188 = .ok (.imul, 1) := by decide +kernel
theorem dX5_home_189 : decode cX5_home 189 = .ok (.aload_n 0, 1) := by decide +kernel
theorem dX5_home_190 : decode cX5_home 190 = .ok (.getfield 37, 3) := by decide +kernel
theorem dX5_home_193 : decode cX5_home 193 = .ok (.iload 5, 2) := by decide +kernel
theorem dX5_home_195 : decode cX5_home 195 = .ok (.iaload, 1) := by decide +kernel
theorem dX5_home_196 : decode cX5_home 196 = .ok (.iadd, 1) := by decide +kernel
theorem dX5_home_197 : decode cX5_home 197 = .ok (.iaload, 1) := by decide +kernel
theorem dX5_home_198 : decode cX5_home 198 = .ok (.aload_n 0, 1) := by decide +kernel
theorem dX5_home_199 : decode cX5_home 199 = .ok (.getfield 16, 3) := by decide +kernel
theorem dX5_home_202 : decode cX5_home 202 = .ok (.bipush 6, 2) := by decide +kernel
theorem dX5_home_204 : decode cX5_home 204 = .ok (.iload_n 1, 1) := by decide +kernel
theorem dX5_home_205 : decode cX5_home 205 = .ok (.imul, 1) := by decide +kernel
theorem dX5_home_206 : decode cX5_home 206 = .ok (.iload 5, 2) := by decide +kernel
theorem dX5_home_208 : decode cX5_home 208 = .ok (.iadd, 1) := by decide +kernel
theorem dX5_home_209 : decode cX5_home 209 = .ok (.iaload, 1) := by decide +kernel
theorem dX5_home_210 : decode cX5_home 210 = .ok (.if_icmp .ne 7, 3) := by decide +kernel
theorem dX5_home_213 : decode cX5_home 213 = .ok (.iconst 1, 1) := by decide +kernel
theorem dX5_home_214 : decode cX5_home 214 = .ok (.goto 4, 3) := by decide +kernel
theorem dX5_home_217 : decode cX5_home 217 = .ok (.iconst 0, 1) := by decide +kernel
theorem dX5_home_218 : decode cX5_home 218 = .ok (.istore 4, 2) := by decide +kernel
theorem dX5_home_220 : decode cX5_home 220 = .ok (.iinc 5 1, 3) := by decide +kernel
theorem dX5_home_223 : decode cX5_home 223 = .ok (.goto (-91), 3) := by decide +kernel
theorem dX5_home_226 : decode cX5_home 226 = .ok (.goto (-143), 3) := by decide +kernel
theorem dX5_home_229 : decode cX5_home 229 = .ok (.iload_n 3, 1) := by decide +kernel
theorem dX5_home_230 : decode cX5_home 230 = .ok (.ireturn, 1) := by decide +kernel
set_option maxRecDepth 20000 in
theorem ggX5_unlike_X5_isBand : GoodIn wsX5_unlike wsX5_isBand := goodIn_r _ [8, 9, 1, 10, 11, 12, 7, 13, 35, 36, 37, 38, 39, 40, 41, 42, 43, 44, 45, 46, 47, 48, 49] (by decide +kernel) (by decide +kernel)
set_option maxRecDepth 20000 in
theorem gX5_unlike_X5_isBand : GoodIn wsX5_unlike (wsV RX5 59 RX5 yX5_isBand wsX5_isBand) := goodIn_app (goodIn_of _ (by decide +kernel)) ggX5_unlike_X5_isBand
set_option maxRecDepth 20000 in
theorem ggX5_unlike_X5_right : GoodIn wsX5_unlike wsX5_right := goodIn_r _ [13, 9, 35, 36, 37, 38, 39, 40, 41, 42, 43, 44, 45, 46, 47, 48, 49] (by decide +kernel) (by decide +kernel)
set_option maxRecDepth 20000 in
theorem gX5_unlike_X5_right : GoodIn wsX5_unlike (wsV RX5 55 RX5 yX5_right wsX5_right) := goodIn_app (goodIn_of _ (by decide +kernel)) ggX5_unlike_X5_right
set_option maxRecDepth 20000 in
theorem ggX5_unlike_X5_knots : GoodIn wsX5_unlike wsX5_knots := goodIn_r _ [16] (by decide +kernel) (by decide +kernel)
set_option maxRecDepth 20000 in
theorem gX5_unlike_X5_knots : GoodIn wsX5_unlike (va_wsS RX5 63 yX5_knots wsX5_knots) := goodIn_app (goodIn_of _ (by decide +kernel)) ggX5_unlike_X5_knots
set_option maxRecDepth 20000 in
theorem ggX5_unlike_X5_showsOf : GoodIn wsX5_unlike wsX5_showsOf := goodIn_r _ [20, 21, 22, 23, 24, 7, 25, 26, 2, 27, 14, 15, 16, 28, 29, 30, 31, 32, 33, 34, 35, 36, 37, 38, 39, 40, 41, 42, 43, 44, 45, 46, 47, 48, 49] (by decide +kernel) (by decide +kernel)
set_option maxRecDepth 20000 in
theorem gX5_unlike_X5_showsOf : GoodIn wsX5_unlike (wsV RX5 82 RX5 yX5_showsOf wsX5_showsOf) := goodIn_app (goodIn_of _ (by decide +kernel)) ggX5_unlike_X5_showsOf
theorem dX5_unlike_0 : decode cX5_unlike 0 = .ok (.aload_n 0, 1) := by decide +kernel
theorem dX5_unlike_1 : decode cX5_unlike 1 = .ok (.iload_n 1, 1) := by decide +kernel
theorem dX5_unlike_2 : decode cX5_unlike 2 = .ok (.invokevirtual 59, 3) := by decide +kernel
theorem dX5_unlike_5 : decode cX5_unlike 5 = .ok (.ifCond .eq 71, 3) := by decide +kernel
theorem dX5_unlike_8 : decode cX5_unlike 8 = .ok (.aload_n 0, 1) := by decide +kernel
theorem dX5_unlike_9 : decode cX5_unlike 9 = .ok (.iload_n 2, 1) := by decide +kernel
theorem dX5_unlike_10 : decode cX5_unlike 10 = .ok (.ifCond .lt 15, 3) := by decide +kernel
theorem dX5_unlike_13 : decode cX5_unlike 13 = .ok (.iload_n 2, 1) := by decide +kernel
theorem dX5_unlike_14 : decode cX5_unlike 14 = .ok (.aload_n 0, 1) := by decide +kernel
theorem dX5_unlike_15 : decode cX5_unlike 15 = .ok (.getfield 52, 3) := by decide +kernel
theorem dX5_unlike_18 : decode cX5_unlike 18 = .ok (.if_icmp .ge 7, 3) := by decide +kernel
theorem dX5_unlike_21 : decode cX5_unlike 21 = .ok (.iconst 1, 1) := by decide +kernel
theorem dX5_unlike_22 : decode cX5_unlike 22 = .ok (.goto 4, 3) := by decide +kernel
theorem dX5_unlike_25 : decode cX5_unlike 25 = .ok (.iconst 0, 1) := by decide +kernel
theorem dX5_unlike_26 : decode cX5_unlike 26 = .ok (.iconst 1, 1) := by decide +kernel
theorem dX5_unlike_27 : decode cX5_unlike 27 = .ok (.invokevirtual 55, 3) := by decide +kernel
theorem dX5_unlike_30 : decode cX5_unlike 30 = .ok (.ifCond .eq 46, 3) := by decide +kernel
theorem dX5_unlike_33 : decode cX5_unlike 33 = .ok (.aload_n 0, 1) := by decide +kernel
theorem dX5_unlike_34 : decode cX5_unlike 34 = .ok (.aload_n 0, 1) := by decide +kernel
theorem dX5_unlike_35 : decode cX5_unlike 35 = .ok (.getfield 7, 3) := by decide +kernel
theorem dX5_unlike_38 : decode cX5_unlike 38 = .ok (.iload_n 1, 1) := by decide +kernel
theorem dX5_unlike_39 : decode cX5_unlike 39 = .ok (.iaload, 1) := by decide +kernel
theorem dX5_unlike_40 : decode cX5_unlike 40 = .ok (.aload_n 0, 1) := by decide +kernel
theorem dX5_unlike_41 : decode cX5_unlike 41 = .ok (.getfield 7, 3) := by decide +kernel
theorem dX5_unlike_44 : decode cX5_unlike 44 = .ok (.iload_n 2, 1) := by decide +kernel
theorem dX5_unlike_45 : decode cX5_unlike 45 = .ok (.iaload, 1) := by decide +kernel
theorem dX5_unlike_46 : decode cX5_unlike 46 = .ok (.if_icmp .ne 22, 3) := by decide +kernel
theorem dX5_unlike_49 : decode cX5_unlike 49 = .ok (.aload_n 0, 1) := by decide +kernel
theorem dX5_unlike_50 : decode cX5_unlike 50 = .ok (.getfield 13, 3) := by decide +kernel
theorem dX5_unlike_53 : decode cX5_unlike 53 = .ok (.iload_n 1, 1) := by decide +kernel
theorem dX5_unlike_54 : decode cX5_unlike 54 = .ok (.iaload, 1) := by decide +kernel
theorem dX5_unlike_55 : decode cX5_unlike 55 = .ok (.aload_n 0, 1) := by decide +kernel
theorem dX5_unlike_56 : decode cX5_unlike 56 = .ok (.getfield 13, 3) := by decide +kernel
theorem dX5_unlike_59 : decode cX5_unlike 59 = .ok (.iload_n 2, 1) := by decide +kernel
theorem dX5_unlike_60 : decode cX5_unlike 60 = .ok (.iaload, 1) := by decide +kernel
theorem dX5_unlike_61 : decode cX5_unlike 61 = .ok (.if_icmp .ne 7, 3) := by decide +kernel
theorem dX5_unlike_64 : decode cX5_unlike 64 = .ok (.iconst 1, 1) := by decide +kernel
theorem dX5_unlike_65 : decode cX5_unlike 65 = .ok (.goto 4, 3) := by decide +kernel
theorem dX5_unlike_68 : decode cX5_unlike 68 = .ok (.iconst 0, 1) := by decide +kernel
theorem dX5_unlike_69 : decode cX5_unlike 69 = .ok (.iconst 2, 1) := by decide +kernel
theorem dX5_unlike_70 : decode cX5_unlike 70 = .ok (.invokevirtual 55, 3) := by decide +kernel
theorem dX5_unlike_73 : decode cX5_unlike 73 = .ok (.ifCond .ne 5, 3) := by decide +kernel
theorem dX5_unlike_76 : decode cX5_unlike 76 = .ok (.iconst 0, 1) := by decide +kernel
theorem dX5_unlike_77 : decode cX5_unlike 77 = .ok (.ireturn, 1) := by decide +kernel
theorem dX5_unlike_78 : decode cX5_unlike 78 = .ok (.iconst 0, 1) := by decide +kernel
theorem dX5_unlike_79 : decode cX5_unlike 79 = .ok (.istore_n 3, 1) := by decide +kernel
theorem dX5_unlike_80 : decode cX5_unlike 80 = .ok (.iconst 0, 1) := by decide +kernel
theorem dX5_unlike_81 : decode cX5_unlike 81 = .ok (.istore 4, 2) := by decide +kernel
theorem dX5_unlike_83 : decode cX5_unlike 83 = .ok (.iload 4, 2) := by decide +kernel
theorem dX5_unlike_85 : decode cX5_unlike 85 = .ok (.aload_n 0, 1) := by decide +kernel
theorem dX5_unlike_86 : decode cX5_unlike 86 = .ok (.getfield 13, 3) := by decide +kernel
theorem dX5_unlike_89 : decode cX5_unlike 89 = .ok (.iload_n 1, 1) := by decide +kernel
theorem dX5_unlike_90 : decode cX5_unlike 90 = .ok (.iaload, 1) := by decide +kernel
theorem dX5_unlike_91 : decode cX5_unlike 91 = .ok (.if_icmp .ge 58, 3) := by decide +kernel
theorem dX5_unlike_94 : decode cX5_unlike 94 = .ok (.iconst 0, 1) := by decide +kernel
theorem dX5_unlike_95 : decode cX5_unlike 95 = .ok (.istore 5, 2) := by decide +kernel
theorem dX5_unlike_97 : decode cX5_unlike 97 = .ok (.iload 5, 2) := by decide +kernel
theorem dX5_unlike_99 : decode cX5_unlike 99 = .ok (.aload_n 0, 1) := by decide +kernel
theorem dX5_unlike_100 : decode cX5_unlike 100 = .ok (.getfield 7, 3) := by decide +kernel
theorem dX5_unlike_103 : decode cX5_unlike 103 = .ok (.iload_n 1, 1) := by decide +kernel
theorem dX5_unlike_104 : decode cX5_unlike 104 = .ok (.iaload, 1) := by decide +kernel
theorem dX5_unlike_105 : decode cX5_unlike 105 = .ok (.iload 4, 2) := by decide +kernel
theorem dX5_unlike_107 : decode cX5_unlike 107 = .ok (.invokestatic 63, 3) := by decide +kernel
theorem dX5_unlike_110 : decode cX5_unlike 110 = .ok (.if_icmp .ge 33, 3) := by decide +kernel
theorem dX5_unlike_113 : decode cX5_unlike 113 = .ok (.aload_n 0, 1) := by decide +kernel
theorem dX5_unlike_114 : decode cX5_unlike 114 = .ok (.iload_n 1, 1) := by decide +kernel
theorem dX5_unlike_115 : decode cX5_unlike 115 = .ok (.iload 4, 2) := by decide +kernel
theorem dX5_unlike_117 : decode cX5_unlike 117 = .ok (.iload 5, 2) := by decide +kernel
theorem dX5_unlike_119 : decode cX5_unlike 119 = .ok (.invokevirtual 82, 3) := by decide +kernel
theorem dX5_unlike_122 : decode cX5_unlike 122 = .ok (.aload_n 0, 1) := by decide +kernel
theorem dX5_unlike_123 : decode cX5_unlike 123 = .ok (.iload_n 2, 1) := by decide +kernel
theorem dX5_unlike_124 : decode cX5_unlike 124 = .ok (.iload 4, 2) := by decide +kernel
theorem dX5_unlike_126 : decode cX5_unlike 126 = .ok (.iload 5, 2) := by decide +kernel
theorem dX5_unlike_128 : decode cX5_unlike 128 = .ok (.invokevirtual 82, 3) := by decide +kernel
theorem dX5_unlike_131 : decode cX5_unlike 131 = .ok (.if_icmp .eq 6, 3) := by decide +kernel
theorem dX5_unlike_134 : decode cX5_unlike 134 = .ok (.iinc 3 1, 3) := by decide +kernel
theorem dX5_unlike_137 : decode cX5_unlike 137 = .ok (.iinc 5 1, 3) := by decide +kernel
theorem dX5_unlike_140 : decode cX5_unlike 140 = .ok (.goto (-43), 3) := by decide +kernel
theorem dX5_unlike_143 : decode cX5_unlike 143 = .ok (.iinc 4 1, 3) := by decide +kernel
theorem dX5_unlike_146 : decode cX5_unlike 146 = .ok (.goto (-63), 3) := by decide +kernel
theorem dX5_unlike_149 : decode cX5_unlike 149 = .ok (.iload_n 3, 1) := by decide +kernel
theorem dX5_unlike_150 : decode cX5_unlike 150 = .ok (.ireturn, 1) := by decide +kernel
set_option maxRecDepth 20000 in
theorem ggX5_isPicture_X5_right : GoodIn wsX5_isPicture wsX5_right := goodIn_r _ [7, 1, 8, 9, 10, 11, 12, 13, 14, 15, 16, 17, 18, 19, 20, 21, 22] (by decide +kernel) (by decide +kernel)
set_option maxRecDepth 20000 in
theorem gX5_isPicture_X5_right : GoodIn wsX5_isPicture (wsV RX5 55 RX5 yX5_right wsX5_right) := goodIn_app (goodIn_of _ (by decide +kernel)) ggX5_isPicture_X5_right
theorem dX5_isPicture_0 : decode cX5_isPicture 0 = .ok (.aload_n 0, 1) := by decide +kernel
theorem dX5_isPicture_1 : decode cX5_isPicture 1 = .ok (.iconst 0, 1) := by decide +kernel
theorem dX5_isPicture_2 : decode cX5_isPicture 2 = .ok (.putfield 48, 3) := by decide +kernel
theorem dX5_isPicture_5 : decode cX5_isPicture 5 = .ok (.aload_n 0, 1) := by decide +kernel
theorem dX5_isPicture_6 : decode cX5_isPicture 6 = .ok (.iload_n 1, 1) := by decide +kernel
theorem dX5_isPicture_7 : decode cX5_isPicture 7 = .ok (.ifCond .lt 15, 3) := by decide +kernel
theorem dX5_isPicture_10 : decode cX5_isPicture 10 = .ok (.iload_n 1, 1) := by decide +kernel
theorem dX5_isPicture_11 : decode cX5_isPicture 11 = .ok (.aload_n 0, 1) := by decide +kernel
theorem dX5_isPicture_12 : decode cX5_isPicture 12 = .ok (.getfield 86, 3) := by decide +kernel
theorem dX5_isPicture_15 : decode cX5_isPicture 15 = .ok (.if_icmp .ge 7, 3) := by decide +kernel
theorem dX5_isPicture_18 : decode cX5_isPicture 18 = .ok (.iconst 1, 1) := by decide +kernel
theorem dX5_isPicture_19 : decode cX5_isPicture 19 = .ok (.goto 4, 3) := by decide +kernel
theorem dX5_isPicture_22 : decode cX5_isPicture 22 = .ok (.iconst 0, 1) := by decide +kernel
theorem dX5_isPicture_23 : decode cX5_isPicture 23 = .ok (.iconst 1, 1) := by decide +kernel
theorem dX5_isPicture_24 : decode cX5_isPicture 24 = .ok (.invokevirtual 55, 3) := by decide +kernel
theorem dX5_isPicture_27 : decode cX5_isPicture 27 = .ok (.ireturn, 1) := by decide +kernel
theorem dX5_picture_0 : decode cX5_picture 0 = .ok (.aload_n 0, 1) := by decide +kernel
theorem dX5_picture_1 : decode cX5_picture 1 = .ok (.iconst 0, 1) := by decide +kernel
theorem dX5_picture_2 : decode cX5_picture 2 = .ok (.putfield 48, 3) := by decide +kernel
theorem dX5_picture_5 : decode cX5_picture 5 = .ok (.aload_n 0, 1) := by decide +kernel
theorem dX5_picture_6 : decode cX5_picture 6 = .ok (.getfield 86, 3) := by decide +kernel
theorem dX5_picture_9 : decode cX5_picture 9 = .ok (.bipush 8, 2) := by decide +kernel
theorem dX5_picture_11 : decode cX5_picture 11 = .ok (.if_icmp .eq 25, 3) := by decide +kernel
theorem dX5_picture_14 : decode cX5_picture 14 = .ok (.iload_n 1, 1) := by decide +kernel
theorem dX5_picture_15 : decode cX5_picture 15 = .ok (.iconst 2, 1) := by decide +kernel
theorem dX5_picture_16 : decode cX5_picture 16 = .ok (.if_icmp .lt 20, 3) := by decide +kernel
theorem dX5_picture_19 : decode cX5_picture 19 = .ok (.iload_n 1, 1) := by decide +kernel
theorem dX5_picture_20 : decode cX5_picture 20 = .ok (.bipush 6, 2) := by decide +kernel
theorem dX5_picture_22 : decode cX5_picture 22 = .ok (.if_icmp .gt 14, 3) := by decide +kernel
theorem dX5_picture_25 : decode cX5_picture 25 = .ok (.iload_n 2, 1) := by decide +kernel
theorem dX5_picture_26 : decode cX5_picture 26 = .ok (.iconst 1, 1) := by decide +kernel
theorem dX5_picture_27 : decode cX5_picture 27 = .ok (.if_icmp .lt 9, 3) := by decide +kernel
theorem dX5_picture_30 : decode cX5_picture 30 = .ok (.iload_n 2, 1) := by decide +kernel
theorem dX5_picture_31 : decode cX5_picture 31 = .ok (.bipush 16, 2) := by decide +kernel
theorem dX5_picture_33 : decode cX5_picture 33 = .ok (.if_icmp .le 5, 3) := by decide +kernel
theorem dX5_picture_36 : decode cX5_picture 36 = .ok (.iconst (-1), 1) := by decide +kernel
theorem dX5_picture_37 : decode cX5_picture 37 = .ok (.ireturn, 1) := by decide +kernel
theorem dX5_picture_38 : decode cX5_picture 38 = .ok (.aload_n 0, 1) := by decide +kernel
theorem dX5_picture_39 : decode cX5_picture 39 = .ok (.getfield 22, 3) := by decide +kernel
theorem dX5_picture_42 : decode cX5_picture 42 = .ok (.aload_n 0, 1) := by decide +kernel
theorem dX5_picture_43 : decode cX5_picture 43 = .ok (.getfield 86, 3) := by decide +kernel
theorem dX5_picture_46 : decode cX5_picture 46 = .ok (.iload_n 1, 1) := by decide +kernel
theorem dX5_picture_47 : decode cX5_picture 47 = .ok (.iastore, 1) := by decide +kernel
theorem dX5_picture_48 : decode cX5_picture 48 = .ok (.aload_n 0, 1) := by decide +kernel
theorem dX5_picture_49 : decode cX5_picture 49 = .ok (.getfield 25, 3) := by decide +kernel
theorem dX5_picture_52 : decode cX5_picture 52 = .ok (.aload_n 0, 1) := by decide +kernel
theorem dX5_picture_53 : decode cX5_picture 53 = .ok (.getfield 86, 3) := by decide +kernel
theorem dX5_picture_56 : decode cX5_picture 56 = .ok (.iload_n 2, 1) := by decide +kernel
theorem dX5_picture_57 : decode cX5_picture 57 = .ok (.iastore, 1) := by decide +kernel
theorem dX5_picture_58 : decode cX5_picture 58 = .ok (.iconst 0, 1) := by decide +kernel
theorem dX5_picture_59 : decode cX5_picture 59 = .ok (.istore_n 3, 1) := by decide +kernel
theorem dX5_picture_60 : decode cX5_picture 60 = .ok (.iload_n 3, 1) := by decide +kernel
theorem dX5_picture_61 : decode cX5_picture 61 = .ok (.bipush 48, 2) := by decide +kernel
theorem dX5_picture_63 : decode cX5_picture 63 = .ok (.if_icmp .ge 24, 3) := by decide +kernel
theorem dX5_picture_66 : decode cX5_picture 66 = .ok (.aload_n 0, 1) := by decide +kernel
theorem dX5_picture_67 : decode cX5_picture 67 = .ok (.getfield 28, 3) := by decide +kernel
theorem dX5_picture_70 : decode cX5_picture 70 = .ok (.bipush 48, 2) := by decide +kernel
theorem dX5_picture_72 : decode cX5_picture 72 = .ok (.aload_n 0, 1) := by decide +kernel
theorem dX5_picture_73 : decode cX5_picture 73 = .ok (.getfield 86, 3) := by decide +kernel
theorem dX5_picture_76 : decode cX5_picture 76 = .ok (.imul, 1) := by decide +kernel
theorem dX5_picture_77 : decode cX5_picture 77 = .ok (.iload_n 3, 1) := by decide +kernel
theorem dX5_picture_78 : decode cX5_picture 78 = .ok (.iadd, 1) := by decide +kernel
theorem dX5_picture_79 : decode cX5_picture 79 = .ok (.iconst 4, 1) := by decide +kernel
theorem dX5_picture_80 : decode cX5_picture 80 = .ok (.iastore, 1) := by decide +kernel
theorem dX5_picture_81 : decode cX5_picture 81 = .ok (.iinc 3 1, 3) := by decide +kernel
theorem dX5_picture_84 : decode cX5_picture 84 = .ok (.goto (-24), 3) := by decide +kernel
theorem dX5_picture_87 : decode cX5_picture 87 = .ok (.iconst 0, 1) := by decide +kernel
theorem dX5_picture_88 : decode cX5_picture 88 = .ok (.istore_n 3, 1) := by decide +kernel
theorem dX5_picture_89 : decode cX5_picture 89 = .ok (.iload_n 3, 1) := by decide +kernel
theorem dX5_picture_90 : decode cX5_picture 90 = .ok (.bipush 6, 2) := by decide +kernel
theorem dX5_picture_92 : decode cX5_picture 92 = .ok (.if_icmp .ge 24, 3) := by decide +kernel
theorem dX5_picture_95 : decode cX5_picture 95 = .ok (.aload_n 0, 1) := by decide +kernel
theorem dX5_picture_96 : decode cX5_picture 96 = .ok (.getfield 31, 3) := by decide +kernel
theorem dX5_picture_99 : decode cX5_picture 99 = .ok (.bipush 6, 2) := by decide +kernel
theorem dX5_picture_101 : decode cX5_picture 101 = .ok (.aload_n 0, 1) := by decide +kernel
theorem dX5_picture_102 : decode cX5_picture 102 = .ok (.getfield 86, 3) := by decide +kernel
theorem dX5_picture_105 : decode cX5_picture 105 = .ok (.imul, 1) := by decide +kernel
theorem dX5_picture_106 : decode cX5_picture 106 = .ok (.iload_n 3, 1) := by decide +kernel
theorem dX5_picture_107 : decode cX5_picture 107 = .ok (.iadd, 1) := by decide +kernel
theorem dX5_picture_108 : decode cX5_picture 108 = .ok (.iconst 4, 1) := by decide +kernel
theorem dX5_picture_109 : decode cX5_picture 109 = .ok (.iastore, 1) := by decide +kernel
theorem dX5_picture_110 : decode cX5_picture 110 = .ok (.iinc 3 1, 3) := by decide +kernel
theorem dX5_picture_113 : decode cX5_picture 113 = .ok (.goto (-24), 3) := by decide +kernel
theorem dX5_picture_116 : decode cX5_picture 116 = .ok (.aload_n 0, 1) := by decide +kernel
theorem dX5_picture_117 : decode cX5_picture 117 = .ok (.dup, 1) := by decide +kernel
theorem dX5_picture_118 : decode cX5_picture 118 = .ok (.getfield 86, 3) := by decide +kernel
theorem dX5_picture_121 : decode cX5_picture 121 = .ok (.iconst 1, 1) := by decide +kernel
theorem dX5_picture_122 : decode cX5_picture 122 = .ok (.iadd, 1) := by decide +kernel
theorem dX5_picture_123 : decode cX5_picture 123 = .ok (.putfield 86, 3) := by decide +kernel
theorem dX5_picture_126 : decode cX5_picture 126 = .ok (.aload_n 0, 1) := by decide +kernel
theorem dX5_picture_127 : decode cX5_picture 127 = .ok (.getfield 86, 3) := by decide +kernel
theorem dX5_picture_130 : decode cX5_picture 130 = .ok (.iconst 1, 1) := by decide +kernel
theorem dX5_picture_131 : decode cX5_picture 131 = .ok (.isub, 1) := by decide +kernel
theorem dX5_picture_132 : decode cX5_picture 132 = .ok (.ireturn, 1) := by decide +kernel
set_option maxRecDepth 20000 in
theorem ggX5_see_X5_isPicture : GoodIn wsX5_see wsX5_isPicture := goodIn_r _ [8, 9, 10, 11, 12, 13, 7, 14, 18, 19, 20, 21, 22, 23, 24, 25, 26, 27, 28, 29, 30, 31, 32] (by decide +kernel) (by decide +kernel)
set_option maxRecDepth 20000 in
theorem gX5_see_X5_isPicture : GoodIn wsX5_see (wsV RX5 89 RX5 yX5_isPicture wsX5_isPicture) := goodIn_app (goodIn_of _ (by decide +kernel)) ggX5_see_X5_isPicture
set_option maxRecDepth 20000 in
theorem ggX5_see_X5_knots : GoodIn wsX5_see wsX5_knots := goodIn_r _ [17] (by decide +kernel) (by decide +kernel)
set_option maxRecDepth 20000 in
theorem gX5_see_X5_knots : GoodIn wsX5_see (va_wsS RX5 63 yX5_knots wsX5_knots) := goodIn_app (goodIn_of _ (by decide +kernel)) ggX5_see_X5_knots
set_option maxRecDepth 20000 in
theorem ggX5_see_X5_right : GoodIn wsX5_see wsX5_right := goodIn_r _ [14, 9, 18, 19, 20, 21, 22, 23, 24, 25, 26, 27, 28, 29, 30, 31, 32] (by decide +kernel) (by decide +kernel)
set_option maxRecDepth 20000 in
theorem gX5_see_X5_right : GoodIn wsX5_see (wsV RX5 55 RX5 yX5_right wsX5_right) := goodIn_app (goodIn_of _ (by decide +kernel)) ggX5_see_X5_right
theorem dX5_see_0 : decode cX5_see 0 = .ok (.aload_n 0, 1) := by decide +kernel
theorem dX5_see_1 : decode cX5_see 1 = .ok (.iload_n 1, 1) := by decide +kernel
theorem dX5_see_2 : decode cX5_see 2 = .ok (.invokevirtual 89, 3) := by decide +kernel
theorem dX5_see_5 : decode cX5_see 5 = .ok (.ifCond .eq 72, 3) := by decide +kernel
theorem dX5_see_8 : decode cX5_see 8 = .ok (.aload_n 0, 1) := by decide +kernel
theorem dX5_see_9 : decode cX5_see 9 = .ok (.iload_n 2, 1) := by decide +kernel
theorem dX5_see_10 : decode cX5_see 10 = .ok (.ifCond .lt 35, 3) := by decide +kernel
theorem dX5_see_13 : decode cX5_see 13 = .ok (.iload_n 2, 1) := by decide +kernel
theorem dX5_see_14 : decode cX5_see 14 = .ok (.aload_n 0, 1) := by decide +kernel
theorem dX5_see_15 : decode cX5_see 15 = .ok (.getfield 25, 3) := by decide +kernel
theorem dX5_see_18 : decode cX5_see 18 = .ok (.iload_n 1, 1) := by decide +kernel
theorem dX5_see_19 : decode cX5_see 19 = .ok (.iaload, 1) := by decide +kernel
theorem dX5_see_20 : decode cX5_see 20 = .ok (.if_icmp .ge 25, 3) := by decide +kernel
theorem dX5_see_23 : decode cX5_see 23 = .ok (.iload_n 3, 1) := by decide +kernel
theorem dX5_see_24 : decode cX5_see 24 = .ok (.ifCond .lt 21, 3) := by decide +kernel
theorem dX5_see_27 : decode cX5_see 27 = .ok (.iload_n 3, 1) := by decide +kernel
theorem dX5_see_28 : decode cX5_see 28 = .ok (.aload_n 0, 1) := by decide +kernel
theorem dX5_see_29 : decode cX5_see 29 = .ok (.getfield 22, 3) := by decide +kernel
theorem dX5_see_32 : decode cX5_see 32 = .ok (.iload_n 1, 1) := by decide +kernel
theorem dX5_see_33 : decode cX5_see 33 = .ok (.iaload, 1) := by decide +kernel
theorem dX5_see_34 : decode cX5_see 34 = .ok (.iload_n 2, 1) := by decide +kernel
theorem dX5_see_35 : decode cX5_see 35 = .ok (.invokestatic 63, 3) := by decide +kernel
theorem dX5_see_38 : decode cX5_see 38 = .ok (.if_icmp .ge 7, 3) := by decide +kernel
theorem dX5_see_41 : decode cX5_see 41 = .ok (.iconst 1, 1) := by decide +kernel
theorem dX5_see_42 : decode cX5_see 42 = .ok (.goto 4, 3) := by decide +kernel
theorem dX5_see_45 : decode cX5_see 45 = .ok (.iconst 0, 1) := by decide +kernel
theorem dX5_see_46 : decode cX5_see 46 = .ok (.iconst 1, 1) := by decide +kernel
theorem dX5_see_47 : decode cX5_see 47 = .ok (.invokevirtual 55, 3) := by decide +kernel
theorem dX5_see_50 : decode cX5_see 50 = .ok (.ifCond .eq 27, 3) := by decide +kernel
theorem dX5_see_53 : decode cX5_see 53 = .ok (.aload_n 0, 1) := by decide +kernel
theorem dX5_see_54 : decode cX5_see 54 = .ok (.iload 4, 2) := by decide +kernel
theorem dX5_see_56 : decode cX5_see 56 = .ok (.ifCond .lt 13, 3) := by decide +kernel
theorem dX5_see_59 : decode cX5_see 59 = .ok (.iload 4, 2) := by decide +kernel
theorem dX5_see_61 : decode cX5_see 61 = .ok (.iconst 4, 1) := by decide +kernel
theorem dX5_see_62 : decode cX5_see 62 = .ok (.if_icmp .gt 7, 3) := by decide +kernel
theorem dX5_see_65 : decode cX5_see 65 = .ok (.iconst 1, 1) := by decide +kernel
theorem dX5_see_66 : decode cX5_see 66 = .ok (.goto 4, 3) := by decide +kernel
theorem dX5_see_69 : decode cX5_see 69 = .ok (.iconst 0, 1) := by decide +kernel
theorem dX5_see_70 : decode cX5_see 70 = .ok (.iconst 2, 1) := by decide +kernel
theorem dX5_see_71 : decode cX5_see 71 = .ok (.invokevirtual 55, 3) := by decide +kernel
theorem dX5_see_74 : decode cX5_see 74 = .ok (.ifCond .ne 5, 3) := by decide +kernel
theorem dX5_see_77 : decode cX5_see 77 = .ok (.iconst 0, 1) := by decide +kernel
theorem dX5_see_78 : decode cX5_see 78 = .ok (.ireturn, 1) := by decide +kernel
theorem dX5_see_79 : decode cX5_see 79 = .ok (.aload_n 0, 1) := by decide +kernel
theorem dX5_see_80 : decode cX5_see 80 = .ok (.getfield 28, 3) := by decide +kernel
theorem dX5_see_83 : decode cX5_see 83 = .ok (.bipush 48, 2) := by decide +kernel
theorem dX5_see_85 : decode cX5_see 85 = .ok (.iload_n 1, 1) := by decide +kernel
theorem dX5_see_86 : decode cX5_see 86 = .ok (.imul, 1) := by decide +kernel
theorem dX5_see_87 : decode cX5_see 87 = .ok (.iconst 3, 1) := by decide +kernel
theorem dX5_see_88 : decode cX5_see 88 = .ok (.iload_n 2, 1) := by decide +kernel
theorem dX5_see_89 : decode cX5_see 89 = .ok (.imul, 1) := by decide +kernel
theorem dX5_see_90 : decode cX5_see 90 = .ok (.iadd, 1) := by decide +kernel
theorem dX5_see_91 : decode cX5_see 91 = .ok (.iload_n 3, 1) := by decide +kernel
theorem dX5_see_92 : decode cX5_see 92 = .ok (.iadd, 1) := by decide +kernel
theorem dX5_see_93 : decode cX5_see 93 = .ok (.iaload, 1) := by decide +kernel
theorem dX5_see_94 : decode cX5_see 94 = .ok (.istore 5, 2) := by decide +kernel
theorem dX5_see_96 : decode cX5_see 96 = .ok (.aload_n 0, 1) := by decide +kernel
theorem dX5_see_97 : decode cX5_see 97 = .ok (.getfield 28, 3) := by decide +kernel
theorem dX5_see_100 : decode cX5_see 100 = .ok (.bipush 48, 2) := by decide +kernel
theorem dX5_see_102 : decode cX5_see 102 = .ok (.iload_n 1, 1) := by decide +kernel
theorem dX5_see_103 : decode cX5_see 103 = .ok (.imul, 1) := by decide +kernel
theorem dX5_see_104 : decode cX5_see 104 = .ok (.iconst 3, 1) := by decide +kernel
theorem dX5_see_105 : decode cX5_see 105 = .ok (.iload_n 2, 1) := by decide +kernel
theorem dX5_see_106 : decode cX5_see 106 = .ok (.imul, 1) := by decide +kernel
theorem dX5_see_107 : decode cX5_see 107 = .ok (.iadd, 1) := by decide +kernel
theorem dX5_see_108 : decode cX5_see 108 = .ok (.iload_n 3, 1) := by decide +kernel
theorem dX5_see_109 : decode cX5_see 109 = .ok (.iadd, 1) := by decide +kernel
theorem dX5_see_110 : decode cX5_see 110 = .ok (.iload 4, 2) := by decide +kernel
theorem dX5_see_112 : decode cX5_see 112 = .ok (.iastore, 1) := by decide +kernel
theorem dX5_see_113 : decode cX5_see 113 = .ok (.iload 5, 2) := by decide +kernel
theorem dX5_see_115 : decode cX5_see 115 = .ok (.ireturn, 1) := by decide +kernel
set_option maxRecDepth 20000 in
theorem ggX5_must_X5_isPicture : GoodIn wsX5_must wsX5_isPicture := goodIn_r _ [7, 8, 9, 10, 11, 12, 6, 13, 14, 15, 16, 17, 18, 19, 20, 21, 22, 23, 24, 25, 26, 27, 28] (by decide +kernel) (by decide +kernel)
set_option maxRecDepth 20000 in
theorem gX5_must_X5_isPicture : GoodIn wsX5_must (wsV RX5 89 RX5 yX5_isPicture wsX5_isPicture) := goodIn_app (goodIn_of _ (by decide +kernel)) ggX5_must_X5_isPicture
set_option maxRecDepth 20000 in
theorem ggX5_must_X5_right : GoodIn wsX5_must wsX5_right := goodIn_r _ [13, 8, 14, 15, 16, 17, 18, 19, 20, 21, 22, 23, 24, 25, 26, 27, 28] (by decide +kernel) (by decide +kernel)
set_option maxRecDepth 20000 in
theorem gX5_must_X5_right : GoodIn wsX5_must (wsV RX5 55 RX5 yX5_right wsX5_right) := goodIn_app (goodIn_of _ (by decide +kernel)) ggX5_must_X5_right
theorem dX5_must_0 : decode cX5_must 0 = .ok (.aload_n 0, 1) := by decide +kernel
theorem dX5_must_1 : decode cX5_must 1 = .ok (.iload_n 1, 1) := by decide +kernel
theorem dX5_must_2 : decode cX5_must 2 = .ok (.invokevirtual 89, 3) := by decide +kernel
theorem dX5_must_5 : decode cX5_must 5 = .ok (.ifCond .eq 52, 3) := by decide +kernel
theorem dX5_must_8 : decode cX5_must 8 = .ok (.aload_n 0, 1) := by decide +kernel
theorem dX5_must_9 : decode cX5_must 9 = .ok (.iload_n 2, 1) := by decide +kernel
theorem dX5_must_10 : decode cX5_must 10 = .ok (.ifCond .lt 17, 3) := by decide +kernel
theorem dX5_must_13 : decode cX5_must 13 = .ok (.iload_n 2, 1) := by decide +kernel
theorem dX5_must_14 : decode cX5_must 14 = .ok (.aload_n 0, 1) := by decide +kernel
theorem dX5_must_15 : decode cX5_must 15 = .ok (.getfield 22, 3) := by decide +kernel
theorem dX5_must_18 : decode cX5_must 18 = .ok (.iload_n 1, 1) := by decide +kernel
theorem dX5_must_19 : decode cX5_must 19 = .ok (.iaload, 1) := by decide +kernel
theorem dX5_must_20 : decode cX5_must 20 = .ok (.if_icmp .ge 7, 3) := by decide +kernel
theorem dX5_must_23 : decode cX5_must 23 = .ok (.iconst 1, 1) := by decide +kernel
theorem dX5_must_24 : decode cX5_must 24 = .ok (.goto 4, 3) := by decide +kernel
theorem dX5_must_27 : decode cX5_must 27 = .ok (.iconst 0, 1) := by decide +kernel
theorem dX5_must_28 : decode cX5_must 28 = .ok (.iconst 1, 1) := by decide +kernel
theorem dX5_must_29 : decode cX5_must 29 = .ok (.invokevirtual 55, 3) := by decide +kernel
theorem dX5_must_32 : decode cX5_must 32 = .ok (.ifCond .eq 25, 3) := by decide +kernel
theorem dX5_must_35 : decode cX5_must 35 = .ok (.aload_n 0, 1) := by decide +kernel
theorem dX5_must_36 : decode cX5_must 36 = .ok (.iload_n 3, 1) := by decide +kernel
theorem dX5_must_37 : decode cX5_must 37 = .ok (.ifCond .lt 12, 3) := by decide +kernel
theorem dX5_must_40 : decode cX5_must 40 = .ok (.iload_n 3, 1) := by decide +kernel
theorem dX5_must_41 : decode cX5_must 41 = .ok (.iconst 4, 1) := by decide +kernel
theorem dX5_must_42 : decode cX5_must 42 = .ok (.if_icmp .gt 7, 3) := by decide +kernel
theorem dX5_must_45 : decode cX5_must 45 = .ok (.iconst 1, 1) := by decide +kernel
theorem dX5_must_46 : decode cX5_must 46 = .ok (.goto 4, 3) := by decide +kernel
theorem dX5_must_49 : decode cX5_must 49 = .ok (.iconst 0, 1) := by decide +kernel
theorem dX5_must_50 : decode cX5_must 50 = .ok (.iconst 2, 1) := by decide +kernel
theorem dX5_must_51 : decode cX5_must 51 = .ok (.invokevirtual 55, 3) := by decide +kernel
theorem dX5_must_54 : decode cX5_must 54 = .ok (.ifCond .ne 5, 3) := by decide +kernel
theorem dX5_must_57 : decode cX5_must 57 = .ok (.iconst 0, 1) := by decide +kernel
theorem dX5_must_58 : decode cX5_must 58 = .ok (.ireturn, 1) := by decide +kernel
theorem dX5_must_59 : decode cX5_must 59 = .ok (.aload_n 0, 1) := by decide +kernel
theorem dX5_must_60 : decode cX5_must 60 = .ok (.getfield 31, 3) := by decide +kernel
theorem dX5_must_63 : decode cX5_must 63 = .ok (.bipush 6, 2) := by decide +kernel
theorem dX5_must_65 : decode cX5_must 65 = .ok (.iload_n 1, 1) := by decide +kernel
theorem dX5_must_66 : decode cX5_must 66 = .ok (.imul, 1) := by decide +kernel
theorem dX5_must_67 : decode cX5_must 67 = .ok (.iload_n 2, 1) := by decide +kernel
theorem dX5_must_68 : decode cX5_must 68 = .ok (.iadd, 1) := by decide +kernel
theorem dX5_must_69 : decode cX5_must 69 = .ok (.iaload, 1) := by decide +kernel
theorem dX5_must_70 : decode cX5_must 70 = .ok (.istore 4, 2) := by decide +kernel
theorem dX5_must_72 : decode cX5_must 72 = .ok (.aload_n 0, 1) := by decide +kernel
theorem dX5_must_73 : decode cX5_must 73 = .ok (.getfield 31, 3) := by decide +kernel
theorem dX5_must_76 : decode cX5_must 76 = .ok (.bipush 6, 2) := by decide +kernel
theorem dX5_must_78 : decode cX5_must 78 = .ok (.iload_n 1, 1) := by decide +kernel
theorem dX5_must_79 : decode cX5_must 79 = .ok (.imul, 1) := by decide +kernel
theorem dX5_must_80 : decode cX5_must 80 = .ok (.iload_n 2, 1) := by decide +kernel
theorem dX5_must_81 : decode cX5_must 81 = .ok (.iadd, 1) := by decide +kernel
theorem dX5_must_82 : decode cX5_must 82 = .ok (.iload_n 3, 1) := by decide +kernel
theorem dX5_must_83 : decode cX5_must 83 = .ok (.iastore, 1) := by decide +kernel
theorem dX5_must_84 : decode cX5_must 84 = .ok (.iload 4, 2) := by decide +kernel
theorem dX5_must_86 : decode cX5_must 86 = .ok (.ireturn, 1) := by decide +kernel
set_option maxRecDepth 20000 in
theorem ggX5_copy_X5_isPicture : GoodIn wsX5_copy wsX5_isPicture := goodIn_r _ [11, 12, 13, 14, 15, 16, 10, 17, 39, 40, 41, 42, 43, 44, 45, 46, 47, 48, 49, 50, 51, 52, 53] (by decide +kernel) (by decide +kernel)
set_option maxRecDepth 20000 in
theorem gX5_copy_X5_isPicture : GoodIn wsX5_copy (wsV RX5 89 RX5 yX5_isPicture wsX5_isPicture) := goodIn_app (goodIn_of _ (by decide +kernel)) ggX5_copy_X5_isPicture
set_option maxRecDepth 20000 in
theorem ggX5_copy_X5_right : GoodIn wsX5_copy wsX5_right := goodIn_r _ [17, 12, 39, 40, 41, 42, 43, 44, 45, 46, 47, 48, 49, 50, 51, 52, 53] (by decide +kernel) (by decide +kernel)
set_option maxRecDepth 20000 in
theorem gX5_copy_X5_right : GoodIn wsX5_copy (wsV RX5 55 RX5 yX5_right wsX5_right) := goodIn_app (goodIn_of _ (by decide +kernel)) ggX5_copy_X5_right
set_option maxRecDepth 20000 in
theorem ggX5_copy_X5_knots : GoodIn wsX5_copy wsX5_knots := goodIn_r _ [20] (by decide +kernel) (by decide +kernel)
set_option maxRecDepth 20000 in
theorem gX5_copy_X5_knots : GoodIn wsX5_copy (va_wsS RX5 63 yX5_knots wsX5_knots) := goodIn_app (goodIn_of _ (by decide +kernel)) ggX5_copy_X5_knots
set_option maxRecDepth 20000 in
theorem ggX5_copy_X5_showsOf : GoodIn wsX5_copy wsX5_showsOf := goodIn_r _ [24, 25, 26, 27, 28, 10, 29, 30, 3, 31, 18, 19, 20, 32, 33, 34, 35, 36, 37, 38, 39, 40, 41, 42, 43, 44, 45, 46, 47, 48, 49, 50, 51, 52, 53] (by decide +kernel) (by decide +kernel)
set_option maxRecDepth 20000 in
theorem gX5_copy_X5_showsOf : GoodIn wsX5_copy (wsV RX5 82 RX5 yX5_showsOf wsX5_showsOf) := goodIn_app (goodIn_of _ (by decide +kernel)) ggX5_copy_X5_showsOf
theorem dX5_copy_0 : decode cX5_copy 0 = .ok (.aload_n 0, 1) := by decide +kernel
theorem dX5_copy_1 : decode cX5_copy 1 = .ok (.iload_n 1, 1) := by decide +kernel
theorem dX5_copy_2 : decode cX5_copy 2 = .ok (.invokevirtual 89, 3) := by decide +kernel
theorem dX5_copy_5 : decode cX5_copy 5 = .ok (.ifCond .eq 28, 3) := by decide +kernel
theorem dX5_copy_8 : decode cX5_copy 8 = .ok (.aload_n 0, 1) := by decide +kernel
theorem dX5_copy_9 : decode cX5_copy 9 = .ok (.iload_n 2, 1) := by decide +kernel
theorem dX5_copy_10 : decode cX5_copy 10 = .ok (.ifCond .lt 15, 3) := by decide +kernel
theorem dX5_copy_13 : decode cX5_copy 13 = .ok (.iload_n 2, 1) := by decide +kernel
theorem dX5_copy_14 : decode cX5_copy 14 = .ok (.aload_n 0, 1) := by decide +kernel
theorem dX5_copy_15 : decode cX5_copy 15 = .ok (.getfield 52, 3) := by decide +kernel
theorem dX5_copy_18 : decode cX5_copy 18 = .ok (.if_icmp .ge 7, 3) := by decide +kernel
theorem dX5_copy_21 : decode cX5_copy 21 = .ok (.iconst 1, 1) := by decide +kernel
theorem dX5_copy_22 : decode cX5_copy 22 = .ok (.goto 4, 3) := by decide +kernel
theorem dX5_copy_25 : decode cX5_copy 25 = .ok (.iconst 0, 1) := by decide +kernel
theorem dX5_copy_26 : decode cX5_copy 26 = .ok (.iconst 1, 1) := by decide +kernel
theorem dX5_copy_27 : decode cX5_copy 27 = .ok (.invokevirtual 55, 3) := by decide +kernel
theorem dX5_copy_30 : decode cX5_copy 30 = .ok (.ifCond .ne 5, 3) := by decide +kernel
theorem dX5_copy_33 : decode cX5_copy 33 = .ok (.iconst 0, 1) := by decide +kernel
theorem dX5_copy_34 : decode cX5_copy 34 = .ok (.ireturn, 1) := by decide +kernel
theorem dX5_copy_35 : decode cX5_copy 35 = .ok (.aload_n 0, 1) := by decide +kernel
theorem dX5_copy_36 : decode cX5_copy 36 = .ok (.getfield 22, 3) := by decide +kernel
theorem dX5_copy_39 : decode cX5_copy 39 = .ok (.iload_n 1, 1) := by decide +kernel
theorem dX5_copy_40 : decode cX5_copy 40 = .ok (.iaload, 1) := by decide +kernel
theorem dX5_copy_41 : decode cX5_copy 41 = .ok (.aload_n 0, 1) := by decide +kernel
theorem dX5_copy_42 : decode cX5_copy 42 = .ok (.getfield 7, 3) := by decide +kernel
theorem dX5_copy_45 : decode cX5_copy 45 = .ok (.iload_n 2, 1) := by decide +kernel
theorem dX5_copy_46 : decode cX5_copy 46 = .ok (.iaload, 1) := by decide +kernel
theorem dX5_copy_47 : decode cX5_copy 47 = .ok (.if_icmp .ne 18, 3) := by decide +kernel
theorem dX5_copy_50 : decode cX5_copy 50 = .ok (.aload_n 0, 1) := by decide +kernel
theorem dX5_copy_51 : decode cX5_copy 51 = .ok (.getfield 25, 3) := by decide +kernel
theorem dX5_copy_54 : decode cX5_copy 54 = .ok (.iload_n 1, 1) := by decide +kernel
theorem dX5_copy_55 : decode cX5_copy 55 = .ok (.iaload, 1) := by decide +kernel
theorem dX5_copy_56 : decode cX5_copy 56 = .ok (.aload_n 0, 1) := by decide +kernel
theorem dX5_copy_57 : decode cX5_copy 57 = .ok (.getfield 13, 3) := by decide +kernel
theorem dX5_copy_60 : decode cX5_copy 60 = .ok (.iload_n 2, 1) := by decide +kernel
theorem dX5_copy_61 : decode cX5_copy 61 = .ok (.iaload, 1) := by decide +kernel
theorem dX5_copy_62 : decode cX5_copy 62 = .ok (.if_icmp .eq 5, 3) := by decide +kernel
theorem dX5_copy_65 : decode cX5_copy 65 = .ok (.iconst 0, 1) := by decide +kernel
theorem dX5_copy_66 : decode cX5_copy 66 = .ok (.ireturn, 1) := by decide +kernel
theorem dX5_copy_67 : decode cX5_copy 67 = .ok (.iconst 0, 1) := by decide +kernel
theorem dX5_copy_68 : decode cX5_copy 68 = .ok (.istore_n 3, 1) := by decide +kernel
theorem dX5_copy_69 : decode cX5_copy 69 = .ok (.iload_n 3, 1) := by decide +kernel
theorem dX5_copy_70 : decode cX5_copy 70 = .ok (.aload_n 0, 1) := by decide +kernel
theorem dX5_copy_71 : decode cX5_copy 71 = .ok (.getfield 13, 3) := by decide +kernel
theorem dX5_copy_74 : decode cX5_copy 74 = .ok (.iload_n 2, 1) := by decide +kernel
theorem dX5_copy_75 : decode cX5_copy 75 = .ok (.iaload, 1) := by decide +kernel
theorem dX5_copy_76 : decode cX5_copy 76 = .ok (.if_icmp .ge 57, 3) := by decide +kernel
theorem dX5_copy_79 : decode cX5_copy 79 = .ok (.iconst 0, 1) := by decide +kernel
theorem dX5_copy_80 : decode cX5_copy 80 = .ok (.istore 4, 2) := by decide +kernel
theorem dX5_copy_82 : decode cX5_copy 82 = .ok (.iload 4, 2) := by decide +kernel
theorem dX5_copy_84 : decode cX5_copy 84 = .ok (.aload_n 0, 1) := by decide +kernel
theorem dX5_copy_85 : decode cX5_copy 85 = .ok (.getfield 7, 3) := by decide +kernel
theorem dX5_copy_88 : decode cX5_copy 88 = .ok (.iload_n 2, 1) := by decide +kernel
theorem dX5_copy_89 : decode cX5_copy 89 = .ok (.iaload, 1) := by decide +kernel
theorem dX5_copy_90 : decode cX5_copy 90 = .ok (.iload_n 3, 1) := by decide +kernel
theorem dX5_copy_91 : decode cX5_copy 91 = .ok (.invokestatic 63, 3) := by decide +kernel
theorem dX5_copy_94 : decode cX5_copy 94 = .ok (.if_icmp .ge 33, 3) := by decide +kernel
theorem dX5_copy_97 : decode cX5_copy 97 = .ok (.aload_n 0, 1) := by decide +kernel
theorem dX5_copy_98 : decode cX5_copy 98 = .ok (.getfield 28, 3) := by decide +kernel
theorem dX5_copy_101 : decode cX5_copy 101 = .ok (.bipush 48, 2) := by decide +kernel
theorem dX5_copy_103 : decode cX5_copy 103 = .ok (.iload_n 1, 1) := by decide +kernel
theorem dX5_copy_104 : decode cX5_copy 104 = .ok (.imul, 1) := by decide +kernel
theorem dX5_copy_105 : decode cX5_copy 105 = .ok (.iconst 3, 1) := by decide +kernel
theorem dX5_copy_106 : decode cX5_copy 106 = .ok (.iload_n 3, 1) := by decide +kernel
theorem dX5_copy_107 : decode cX5_copy 107 = .ok (.imul, 1) := by decide +kernel
theorem dX5_copy_108 : decode cX5_copy 108 = .ok (.iadd, 1) := by decide +kernel
theorem dX5_copy_109 : decode cX5_copy 109 = .ok (.iload 4, 2) := by decide +kernel
theorem dX5_copy_111 : decode cX5_copy 111 = .ok (.iadd, 1) := by decide +kernel
theorem dX5_copy_112 : decode cX5_copy 112 = .ok (.aload_n 0, 1) := by decide +kernel
theorem dX5_copy_113 : decode cX5_copy 113 = .ok (.iload_n 2, 1) := by decide +kernel
theorem dX5_copy_114 : decode cX5_copy 114 = .ok (.iload_n 3, 1) := by decide +kernel
theorem dX5_copy_115 : decode cX5_copy 115 = .ok (.iload 4, 2) := by decide +kernel
theorem dX5_copy_117 : decode cX5_copy 117 = .ok (.invokevirtual 82, 3) := by decide +kernel
theorem dX5_copy_120 : decode cX5_copy 120 = .ok (.iastore, 1) := by decide +kernel
theorem dX5_copy_121 : decode cX5_copy 121 = .ok (.iinc 4 1, 3) := by decide +kernel
theorem dX5_copy_124 : decode cX5_copy 124 = .ok (.goto (-42), 3) := by decide +kernel
theorem dX5_copy_127 : decode cX5_copy 127 = .ok (.iinc 3 1, 3) := by decide +kernel
theorem dX5_copy_130 : decode cX5_copy 130 = .ok (.goto (-61), 3) := by decide +kernel
theorem dX5_copy_133 : decode cX5_copy 133 = .ok (.iconst 1, 1) := by decide +kernel
theorem dX5_copy_134 : decode cX5_copy 134 = .ok (.ireturn, 1) := by decide +kernel
theorem dX5_digit_0 : decode cX5_digit 0 = .ok (.iload_n 1, 1) := by decide +kernel
theorem dX5_digit_1 : decode cX5_digit 1 = .ok (.iconst 2, 1) := by decide +kernel
theorem dX5_digit_2 : decode cX5_digit 2 = .ok (.iload_n 0, 1) := by decide +kernel
theorem dX5_digit_3 : decode cX5_digit 3 = .ok (.iconst 1, 1) := by decide +kernel
theorem dX5_digit_4 : decode cX5_digit 4 = .ok (.isub, 1) := by decide +kernel
theorem dX5_digit_5 : decode cX5_digit 5 = .ok (.iload_n 2, 1) := by decide +kernel
theorem dX5_digit_6 : decode cX5_digit 6 = .ok (.isub, 1) := by decide +kernel
theorem dX5_digit_7 : decode cX5_digit 7 = .ok (.imul, 1) := by decide +kernel
theorem dX5_digit_8 : decode cX5_digit 8 = .ok (.ishr, 1) := by decide +kernel
theorem dX5_digit_9 : decode cX5_digit 9 = .ok (.iconst 3, 1) := by decide +kernel
theorem dX5_digit_10 : decode cX5_digit 10 = .ok (.iand, 1) := by decide +kernel
theorem dX5_digit_11 : decode cX5_digit 11 = .ok (.ireturn, 1) := by decide +kernel
theorem dX5_swapped_0 : decode cX5_swapped 0 = .ok (.iconst 2, 1) := by decide +kernel
theorem dX5_swapped_1 : decode cX5_swapped 1 = .ok (.iload_n 0, 1) := by decide +kernel
theorem dX5_swapped_2 : decode cX5_swapped 2 = .ok (.iconst 2, 1) := by decide +kernel
theorem dX5_swapped_3 : decode cX5_swapped 3 = .ok (.isub, 1) := by decide +kernel
theorem dX5_swapped_4 : decode cX5_swapped 4 = .ok (.iload_n 2, 1) := by decide +kernel
theorem dX5_swapped_5 : decode cX5_swapped 5 = .ok (.isub, 1) := by decide +kernel
theorem dX5_swapped_6 : decode cX5_swapped 6 = .ok (.imul, 1) := by decide +kernel
theorem dX5_swapped_7 : decode cX5_swapped 7 = .ok (.istore_n 3, 1) := by decide +kernel
theorem dX5_swapped_8 : decode cX5_swapped 8 = .ok (.iload_n 1, 1) := by decide +kernel
theorem dX5_swapped_9 : decode cX5_swapped 9 = .ok (.iload_n 3, 1) := by decide +kernel
theorem dX5_swapped_10 : decode cX5_swapped 10 = .ok (.iconst 2, 1) := by decide +kernel
theorem dX5_swapped_11 : decode cX5_swapped 11 = .ok (.iadd, 1) := by decide +kernel
theorem dX5_swapped_12 : decode cX5_swapped 12 = .ok (.ishr, 1) := by decide +kernel
theorem dX5_swapped_13 : decode cX5_swapped 13 = .ok (.iconst 3, 1) := by decide +kernel
theorem dX5_swapped_14 : decode cX5_swapped 14 = .ok (.iand, 1) := by decide +kernel
theorem dX5_swapped_15 : decode cX5_swapped 15 = .ok (.istore 4, 2) := by decide +kernel
theorem dX5_swapped_17 : decode cX5_swapped 17 = .ok (.iload_n 1, 1) := by decide +kernel
theorem dX5_swapped_18 : decode cX5_swapped 18 = .ok (.iload_n 3, 1) := by decide +kernel
theorem dX5_swapped_19 : decode cX5_swapped 19 = .ok (.ishr, 1) := by decide +kernel
theorem dX5_swapped_20 : decode cX5_swapped 20 = .ok (.iconst 3, 1) := by decide +kernel
theorem dX5_swapped_21 : decode cX5_swapped 21 = .ok (.iand, 1) := by decide +kernel
theorem dX5_swapped_22 : decode cX5_swapped 22 = .ok (.istore 5, 2) := by decide +kernel
theorem dX5_swapped_24 : decode cX5_swapped 24 = .ok (.iload_n 1, 1) := by decide +kernel
theorem dX5_swapped_25 : decode cX5_swapped 25 = .ok (.bipush 15, 2) := by decide +kernel
theorem dX5_swapped_27 : decode cX5_swapped 27 = .ok (.iload_n 3, 1) := by decide +kernel
theorem dX5_swapped_28 : decode cX5_swapped 28 = .ok (.ishl, 1) := by decide +kernel
theorem dX5_swapped_29 : decode cX5_swapped 29 = .ok (.iconst (-1), 1) := by decide +kernel
theorem dX5_swapped_30 : decode cX5_swapped 30 = .ok (.ixor, 1) := by decide +kernel
theorem dX5_swapped_31 : decode cX5_swapped 31 = .ok (.iand, 1) := by decide +kernel
theorem dX5_swapped_32 : decode cX5_swapped 32 = .ok (.iload 5, 2) := by decide +kernel
theorem dX5_swapped_34 : decode cX5_swapped 34 = .ok (.iload_n 3, 1) := by decide +kernel
theorem dX5_swapped_35 : decode cX5_swapped 35 = .ok (.iconst 2, 1) := by decide +kernel
theorem dX5_swapped_36 : decode cX5_swapped 36 = .ok (.iadd, 1) := by decide +kernel
theorem dX5_swapped_37 : decode cX5_swapped 37 = .ok (.ishl, 1) := by decide +kernel
theorem dX5_swapped_38 : decode cX5_swapped 38 = .ok (.ior, 1) := by decide +kernel
theorem dX5_swapped_39 : decode cX5_swapped 39 = .ok (.iload 4, 2) := by decide +kernel
theorem dX5_swapped_41 : decode cX5_swapped 41 = .ok (.iload_n 3, 1) := by decide +kernel
theorem dX5_swapped_42 : decode cX5_swapped 42 = .ok (.ishl, 1) := by decide +kernel
theorem dX5_swapped_43 : decode cX5_swapped 43 = .ok (.ior, 1) := by decide +kernel
theorem dX5_swapped_44 : decode cX5_swapped 44 = .ok (.ireturn, 1) := by decide +kernel
set_option maxRecDepth 20000 in
theorem ggX5_changed_X5_knots : GoodIn wsX5_changed wsX5_knots := goodIn_r _ [4] (by decide +kernel) (by decide +kernel)
set_option maxRecDepth 20000 in
theorem gX5_changed_X5_knots : GoodIn wsX5_changed (va_wsS RX5 63 yX5_knots wsX5_knots) := goodIn_app (goodIn_of _ (by decide +kernel)) ggX5_changed_X5_knots
set_option maxRecDepth 20000 in
theorem ggX5_changed_X5_left : GoodIn wsX5_changed wsX5_left := goodIn_r _ [7] (by decide +kernel) (by decide +kernel)
set_option maxRecDepth 20000 in
theorem gX5_changed_X5_left : GoodIn wsX5_changed (va_wsS RX5 71 yX5_left wsX5_left) := goodIn_app (goodIn_of _ (by decide +kernel)) ggX5_changed_X5_left
set_option maxRecDepth 20000 in
theorem ggX5_changed_X5_swapped : GoodIn wsX5_changed wsX5_swapped := goodIn_r _ [10] (by decide +kernel) (by decide +kernel)
set_option maxRecDepth 20000 in
theorem gX5_changed_X5_swapped : GoodIn wsX5_changed (va_wsS RX5 92 yX5_swapped wsX5_swapped) := goodIn_app (goodIn_of _ (by decide +kernel)) ggX5_changed_X5_swapped
theorem dX5_changed_0 : decode cX5_changed 0 = .ok (.iload_n 2, 1) := by decide +kernel
theorem dX5_changed_1 : decode cX5_changed 1 = .ok (.istore 4, 2) := by decide +kernel
theorem dX5_changed_3 : decode cX5_changed 3 = .ok (.iconst 0, 1) := by decide +kernel
theorem dX5_changed_4 : decode cX5_changed 4 = .ok (.istore 5, 2) := by decide +kernel
theorem dX5_changed_6 : decode cX5_changed 6 = .ok (.iload 5, 2) := by decide +kernel
theorem dX5_changed_8 : decode cX5_changed 8 = .ok (.iload_n 0, 1) := by decide +kernel
theorem dX5_changed_9 : decode cX5_changed 9 = .ok (.iload_n 1, 1) := by decide +kernel
theorem dX5_changed_10 : decode cX5_changed 10 = .ok (.invokestatic 63, 3) := by decide +kernel
theorem dX5_changed_13 : decode cX5_changed 13 = .ok (.if_icmp .ge 33, 3) := by decide +kernel
theorem dX5_changed_16 : decode cX5_changed 16 = .ok (.iload_n 3, 1) := by decide +kernel
theorem dX5_changed_17 : decode cX5_changed 17 = .ok (.iload 5, 2) := by decide +kernel
theorem dX5_changed_19 : decode cX5_changed 19 = .ok (.ishr, 1) := by decide +kernel
theorem dX5_changed_20 : decode cX5_changed 20 = .ok (.iconst 1, 1) := by decide +kernel
theorem dX5_changed_21 : decode cX5_changed 21 = .ok (.iand, 1) := by decide +kernel
theorem dX5_changed_22 : decode cX5_changed 22 = .ok (.iconst 1, 1) := by decide +kernel
theorem dX5_changed_23 : decode cX5_changed 23 = .ok (.if_icmp .ne 17, 3) := by decide +kernel
theorem dX5_changed_26 : decode cX5_changed 26 = .ok (.iload_n 0, 1) := by decide +kernel
theorem dX5_changed_27 : decode cX5_changed 27 = .ok (.iload 4, 2) := by decide +kernel
theorem dX5_changed_29 : decode cX5_changed 29 = .ok (.iload_n 1, 1) := by decide +kernel
theorem dX5_changed_30 : decode cX5_changed 30 = .ok (.iload 5, 2) := by decide +kernel
theorem dX5_changed_32 : decode cX5_changed 32 = .ok (.invokestatic 71, 3) := by decide +kernel
theorem dX5_changed_35 : decode cX5_changed 35 = .ok (.invokestatic 92, 3) := by decide +kernel
theorem dX5_changed_38 : decode cX5_changed 38 = .ok (.istore 4, 2) := by decide +kernel
theorem dX5_changed_40 : decode cX5_changed 40 = .ok (.iinc 5 1, 3) := by decide +kernel
theorem dX5_changed_43 : decode cX5_changed 43 = .ok (.goto (-37), 3) := by decide +kernel
theorem dX5_changed_46 : decode cX5_changed 46 = .ok (.iload 4, 2) := by decide +kernel
theorem dX5_changed_48 : decode cX5_changed 48 = .ok (.ireturn, 1) := by decide +kernel
set_option maxRecDepth 20000 in
theorem ggX5_fits_X5_knots : GoodIn wsX5_fits wsX5_knots := goodIn_r _ [6] (by decide +kernel) (by decide +kernel)
set_option maxRecDepth 20000 in
theorem gX5_fits_X5_knots : GoodIn wsX5_fits (va_wsS RX5 63 yX5_knots wsX5_knots) := goodIn_app (goodIn_of _ (by decide +kernel)) ggX5_fits_X5_knots
set_option maxRecDepth 20000 in
theorem ggX5_fits_X5_left : GoodIn wsX5_fits wsX5_left := goodIn_r _ [9] (by decide +kernel) (by decide +kernel)
set_option maxRecDepth 20000 in
theorem gX5_fits_X5_left : GoodIn wsX5_fits (va_wsS RX5 71 yX5_left wsX5_left) := goodIn_app (goodIn_of _ (by decide +kernel)) ggX5_fits_X5_left
set_option maxRecDepth 20000 in
theorem ggX5_fits_X5_digit : GoodIn wsX5_fits wsX5_digit := goodIn_r _ [12] (by decide +kernel) (by decide +kernel)
set_option maxRecDepth 20000 in
theorem gX5_fits_X5_digit : GoodIn wsX5_fits (va_wsS RX5 95 yX5_digit wsX5_digit) := goodIn_app (goodIn_of _ (by decide +kernel)) ggX5_fits_X5_digit
theorem dX5_fits_0 : decode cX5_fits 0 = .ok (.iconst 1, 1) := by decide +kernel
theorem dX5_fits_1 : decode cX5_fits 1 = .ok (.istore 4, 2) := by decide +kernel
theorem dX5_fits_3 : decode cX5_fits 3 = .ok (.iconst 0, 1) := by decide +kernel
theorem dX5_fits_4 : decode cX5_fits 4 = .ok (.istore 5, 2) := by decide +kernel
theorem dX5_fits_6 : decode cX5_fits 6 = .ok (.iload 5, 2) := by decide +kernel
theorem dX5_fits_8 : decode cX5_fits 8 = .ok (.aload_n 0, 1) := by decide +kernel
theorem dX5_fits_9 : decode cX5_fits 9 = .ok (.getfield 22, 3) := by decide +kernel
theorem dX5_fits_12 : decode cX5_fits 12 = .ok (.iload_n 1, 1) := by decide +kernel
theorem dX5_fits_13 : decode cX5_fits 13 = .ok (.iaload, 1) := by decide +kernel
theorem dX5_fits_14 : decode cX5_fits 14 = .ok (.iload_n 2, 1) := by decide +kernel
theorem dX5_fits_15 : decode cX5_fits 15 = .ok (.invokestatic 63, 3) := by decide +kernel
theorem dX5_fits_18 : decode cX5_fits 18 = .ok (.if_icmp .ge 89, 3) := by decide +kernel
theorem dX5_fits_21 : decode cX5_fits 21 = .ok (.aload_n 0, 1) := by decide +kernel
theorem dX5_fits_22 : decode cX5_fits 22 = .ok (.getfield 28, 3) := by decide +kernel
theorem dX5_fits_25 : decode cX5_fits 25 = .ok (.bipush 48, 2) := by decide +kernel
theorem dX5_fits_27 : decode cX5_fits 27 = .ok (.iload_n 1, 1) := by decide +kernel
theorem dX5_fits_28 : decode cX5_fits 28 = .ok (.imul, 1) := by decide +kernel
theorem dX5_fits_29 : decode cX5_fits 29 = .ok (.iconst 3, 1) := by decide +kernel
theorem dX5_fits_30 : decode cX5_fits 30 = .ok (.iload_n 2, 1) := by decide +kernel
theorem dX5_fits_31 : decode cX5_fits 31 = .ok (.imul, 1) := by decide +kernel
theorem dX5_fits_32 : decode cX5_fits 32 = .ok (.iadd, 1) := by decide +kernel
theorem dX5_fits_33 : decode cX5_fits 33 = .ok (.iload 5, 2) := by decide +kernel
theorem dX5_fits_35 : decode cX5_fits 35 = .ok (.iadd, 1) := by decide +kernel
theorem dX5_fits_36 : decode cX5_fits 36 = .ok (.iaload, 1) := by decide +kernel
theorem dX5_fits_37 : decode cX5_fits 37 = .ok (.istore 6, 2) := by decide +kernel
theorem dX5_fits_39 : decode cX5_fits 39 = .ok (.iload 4, 2) := by decide +kernel
theorem dX5_fits_41 : decode cX5_fits 41 = .ok (.ifCond .eq 57, 3) := by decide +kernel
theorem dX5_fits_44 : decode cX5_fits 44 = .ok (.iload 6, 2) := by decide +kernel
theorem dX5_fits_46 : decode cX5_fits 46 = .ok (.iconst 4, 1) := by decide +kernel
theorem dX5_fits_47 : decode cX5_fits 47 = .ok (.if_icmp .eq 47, 3) := by decide +kernel
theorem dX5_fits_50 : decode cX5_fits 50 = .ok (.aload_n 0, 1) := by decide +kernel
theorem dX5_fits_51 : decode cX5_fits 51 = .ok (.getfield 22, 3) := by decide +kernel
theorem dX5_fits_54 : decode cX5_fits 54 = .ok (.iload_n 1, 1) := by decide +kernel
theorem dX5_fits_55 : decode cX5_fits 55 = .ok (.iaload, 1) := by decide +kernel
theorem dX5_fits_56 : decode cX5_fits 56 = .ok (.iload_n 3, 1) := by decide +kernel
theorem dX5_fits_57 : decode cX5_fits 57 = .ok (.iload_n 2, 1) := by decide +kernel
theorem dX5_fits_58 : decode cX5_fits 58 = .ok (.iload 5, 2) := by decide +kernel
theorem dX5_fits_60 : decode cX5_fits 60 = .ok (.invokestatic 71, 3) := by decide +kernel
theorem dX5_fits_63 : decode cX5_fits 63 = .ok (.invokestatic 95, 3) := by decide +kernel
theorem dX5_fits_66 : decode cX5_fits 66 = .ok (.iload 6, 2) := by decide +kernel
theorem dX5_fits_68 : decode cX5_fits 68 = .ok (.if_icmp .eq 26, 3) := by decide +kernel
theorem dX5_fits_71 : decode cX5_fits 71 = .ok (.aload_n 0, 1) := by decide +kernel
theorem dX5_fits_72 : decode cX5_fits 72 = .ok (.getfield 22, 3) := by decide +kernel
theorem dX5_fits_75 : decode cX5_fits 75 = .ok (.iload_n 1, 1) := by decide +kernel
theorem dX5_fits_76 : decode cX5_fits 76 = .ok (.iaload, 1) := by decide +kernel
theorem dX5_fits_77 : decode cX5_fits 77 = .ok (.iload_n 3, 1) := by decide +kernel
theorem dX5_fits_78 : decode cX5_fits 78 = .ok (.iload_n 2, 1) := by decide +kernel
theorem dX5_fits_79 : decode cX5_fits 79 = .ok (.iload 5, 2) := by decide +kernel
theorem dX5_fits_81 : decode cX5_fits 81 = .ok (.invokestatic 71, 3) := by decide +kernel
theorem dX5_fits_84 : decode cX5_fits 84 = .ok (.iconst 1, 1) := by decide +kernel
theorem dX5_fits_85 : decode cX5_fits 85 = .ok (.iadd, 1) := by decide +kernel
theorem dX5_fits_86 : decode cX5_fits 86 = .ok (.invokestatic 95, 3) := by decide +kernel
theorem dX5_fits_89 : decode cX5_fits 89 = .ok (.iload 6, 2) := by decide +kernel
theorem dX5_fits_91 : decode cX5_fits 91 = .ok (.if_icmp .ne 7, 3) := by decide +kernel
theorem dX5_fits_94 : decode cX5_fits 94 = .ok (.iconst 1, 1) := by decide +kernel
theorem dX5_fits_95 : decode cX5_fits 95 = .ok (.goto 4, 3) := by decide +kernel
theorem dX5_fits_98 : decode cX5_fits 98 = .ok (.iconst 0, 1) := by decide +kernel
theorem dX5_fits_99 : decode cX5_fits 99 = .ok (.istore 4, 2) := by decide +kernel
theorem dX5_fits_101 : decode cX5_fits 101 = .ok (.iinc 5 1, 3) := by decide +kernel
theorem dX5_fits_104 : decode cX5_fits 104 = .ok (.goto (-98), 3) := by decide +kernel
theorem dX5_fits_107 : decode cX5_fits 107 = .ok (.iload 4, 2) := by decide +kernel
theorem dX5_fits_109 : decode cX5_fits 109 = .ok (.ireturn, 1) := by decide +kernel
theorem dX5_states_0 : decode cX5_states 0 = .ok (.iconst 1, 1) := by decide +kernel
theorem dX5_states_1 : decode cX5_states 1 = .ok (.iconst 2, 1) := by decide +kernel
theorem dX5_states_2 : decode cX5_states 2 = .ok (.aload_n 0, 1) := by decide +kernel
theorem dX5_states_3 : decode cX5_states 3 = .ok (.getfield 22, 3) := by decide +kernel
theorem dX5_states_6 : decode cX5_states 6 = .ok (.iload_n 1, 1) := by decide +kernel
theorem dX5_states_7 : decode cX5_states 7 = .ok (.iaload, 1) := by decide +kernel
theorem dX5_states_8 : decode cX5_states 8 = .ok (.imul, 1) := by decide +kernel
theorem dX5_states_9 : decode cX5_states 9 = .ok (.ishl, 1) := by decide +kernel
theorem dX5_states_10 : decode cX5_states 10 = .ok (.ireturn, 1) := by decide +kernel
set_option maxRecDepth 20000 in
theorem ggX5_leadsBack_X5_states : GoodIn wsX5_leadsBack wsX5_states := goodIn_r _ [8, 1, 29, 30, 31, 32, 33, 34, 35, 36, 37, 38, 39, 40, 41, 42, 43] (by decide +kernel) (by decide +kernel)
set_option maxRecDepth 20000 in
theorem gX5_leadsBack_X5_states : GoodIn wsX5_leadsBack (wsV RX5 98 RX5 yX5_states wsX5_states) := goodIn_app (goodIn_of _ (by decide +kernel)) ggX5_leadsBack_X5_states
set_option maxRecDepth 20000 in
theorem ggX5_leadsBack_X5_fits : GoodIn wsX5_leadsBack wsX5_fits := goodIn_r _ [12, 1, 13, 14, 15, 7, 16, 17, 18, 19, 20, 21, 22, 29, 30, 31, 32, 33, 34, 35, 36, 37, 38, 39, 40, 41, 42, 43] (by decide +kernel) (by decide +kernel)
set_option maxRecDepth 20000 in
theorem gX5_leadsBack_X5_fits : GoodIn wsX5_leadsBack (wsV RX5 102 RX5 yX5_fits wsX5_fits) := goodIn_app (goodIn_of _ (by decide +kernel)) ggX5_leadsBack_X5_fits
set_option maxRecDepth 20000 in
theorem ggX5_leadsBack_X5_knots : GoodIn wsX5_leadsBack wsX5_knots := goodIn_r _ [16] (by decide +kernel) (by decide +kernel)
set_option maxRecDepth 20000 in
theorem gX5_leadsBack_X5_knots : GoodIn wsX5_leadsBack (va_wsS RX5 63 yX5_knots wsX5_knots) := goodIn_app (goodIn_of _ (by decide +kernel)) ggX5_leadsBack_X5_knots
set_option maxRecDepth 20000 in
theorem ggX5_leadsBack_X5_changed : GoodIn wsX5_leadsBack wsX5_changed := goodIn_r _ [25, 14, 15, 7, 16, 17, 18, 19, 26, 27, 28] (by decide +kernel) (by decide +kernel)
set_option maxRecDepth 20000 in
theorem gX5_leadsBack_X5_changed : GoodIn wsX5_leadsBack (va_wsS RX5 105 yX5_changed wsX5_changed) := goodIn_app (goodIn_of _ (by decide +kernel)) ggX5_leadsBack_X5_changed
theorem dX5_leadsBack_0 : decode cX5_leadsBack 0 = .ok (.aload_n 0, 1) := by decide +kernel
theorem dX5_leadsBack_1 : decode cX5_leadsBack 1 = .ok (.getfield 22, 3) := by decide +kernel
theorem dX5_leadsBack_4 : decode cX5_leadsBack 4 = .ok (.iload_n 1, 1) := by decide +kernel
theorem dX5_leadsBack_5 : decode cX5_leadsBack 5 = .ok (.iaload, 1) := by decide +kernel
theorem dX5_leadsBack_6 : decode cX5_leadsBack 6 = .ok (.istore_n 2, 1) := by decide +kernel
theorem dX5_leadsBack_7 : decode cX5_leadsBack 7 = .ok (.iconst 0, 1) := by decide +kernel
theorem dX5_leadsBack_8 : decode cX5_leadsBack 8 = .ok (.istore_n 3, 1) := by decide +kernel
theorem dX5_leadsBack_9 : decode cX5_leadsBack 9 = .ok (.iload_n 3, 1) := by decide +kernel
theorem dX5_leadsBack_10 : decode cX5_leadsBack 10 = .ok (.aload_n 0, 1) := by decide +kernel
theorem dX5_leadsBack_11 : decode cX5_leadsBack 11 = .ok (.iload_n 1, 1) := by decide +kernel
theorem dX5_leadsBack_12 : decode cX5_leadsBack 12 = .ok (.invokevirtual 98, 3) := by decide +kernel
theorem dX5_leadsBack_15 : decode cX5_leadsBack 15 = .ok (.if_icmp .ge 27, 3) := by decide +kernel
theorem dX5_leadsBack_18 : decode cX5_leadsBack 18 = .ok (.aload_n 0, 1) := by decide +kernel
theorem dX5_leadsBack_19 : decode cX5_leadsBack 19 = .ok (.getfield 44, 3) := by decide +kernel
theorem dX5_leadsBack_22 : decode cX5_leadsBack 22 = .ok (.sipush 4096, 3) := by decide +kernel
theorem dX5_leadsBack_25 : decode cX5_leadsBack 25 = .ok (.aload_n 0, 1) := by decide +kernel
theorem dX5_leadsBack_26 : decode cX5_leadsBack 26 = .ok (.getfield 25, 3) := by decide +kernel
theorem dX5_leadsBack_29 : decode cX5_leadsBack 29 = .ok (.iload_n 1, 1) := by decide +kernel
theorem dX5_leadsBack_30 : decode cX5_leadsBack 30 = .ok (.iaload, 1) := by decide +kernel
theorem dX5_leadsBack_31 : decode cX5_leadsBack 31 = .ok (.imul, 1) := by decide +kernel
theorem dX5_leadsBack_32 : decode cX5_leadsBack 32 = .ok (.iload_n 3, 1) := by decide +kernel
theorem dX5_leadsBack_33 : decode cX5_leadsBack 33 = .ok (.iadd, 1) := by decide +kernel
theorem dX5_leadsBack_34 : decode cX5_leadsBack 34 = .ok (.iconst 1, 1) := by decide +kernel
theorem dX5_leadsBack_35 : decode cX5_leadsBack 35 = .ok (.bastore, 1) := by decide +kernel
theorem dX5_leadsBack_36 : decode cX5_leadsBack 36 = .ok (.iinc 3 1, 3) := by decide +kernel
theorem dX5_leadsBack_39 : decode cX5_leadsBack 39 = .ok (.goto (-30), 3) := by decide +kernel
theorem dX5_leadsBack_42 : decode cX5_leadsBack 42 = .ok (.aload_n 0, 1) := by decide +kernel
theorem dX5_leadsBack_43 : decode cX5_leadsBack 43 = .ok (.getfield 25, 3) := by decide +kernel
theorem dX5_leadsBack_46 : decode cX5_leadsBack 46 = .ok (.iload_n 1, 1) := by decide +kernel
theorem dX5_leadsBack_47 : decode cX5_leadsBack 47 = .ok (.iaload, 1) := by decide +kernel
theorem dX5_leadsBack_48 : decode cX5_leadsBack 48 = .ok (.iconst 1, 1) := by decide +kernel
theorem dX5_leadsBack_49 : decode cX5_leadsBack 49 = .ok (.isub, 1) := by decide +kernel
theorem dX5_leadsBack_50 : decode cX5_leadsBack 50 = .ok (.istore_n 3, 1) := by decide +kernel
theorem dX5_leadsBack_51 : decode cX5_leadsBack 51 = .ok (.iload_n 3, 1) := by decide +kernel
theorem dX5_leadsBack_52 : decode cX5_leadsBack 52 = .ok (.ifCond .lt 135, 3) := by decide +kernel
theorem dX5_leadsBack_55 : decode cX5_leadsBack 55 = .ok (.iconst 0, 1) := by decide +kernel
theorem dX5_leadsBack_56 : decode cX5_leadsBack 56 = .ok (.istore 4, 2) := by decide +kernel
theorem dX5_leadsBack_58 : decode cX5_leadsBack 58 = .ok (.iload 4, 2) := by decide +kernel
theorem dX5_leadsBack_60 : decode cX5_leadsBack 60 = .ok (.aload_n 0, 1) := by decide +kernel
theorem dX5_leadsBack_61 : decode cX5_leadsBack 61 = .ok (.iload_n 1, 1) := by decide +kernel
theorem dX5_leadsBack_62 : decode cX5_leadsBack 62 = .ok (.invokevirtual 98, 3) := by decide +kernel
theorem dX5_leadsBack_65 : decode cX5_leadsBack 65 = .ok (.if_icmp .ge 23, 3) := by decide +kernel
theorem dX5_leadsBack_68 : decode cX5_leadsBack 68 = .ok (.aload_n 0, 1) := by decide +kernel
theorem dX5_leadsBack_69 : decode cX5_leadsBack 69 = .ok (.getfield 44, 3) := by decide +kernel
theorem dX5_leadsBack_72 : decode cX5_leadsBack 72 = .ok (.sipush 4096, 3) := by decide +kernel
theorem dX5_leadsBack_75 : decode cX5_leadsBack 75 = .ok (.iload_n 3, 1) := by decide +kernel
theorem dX5_leadsBack_76 : decode cX5_leadsBack 76 = .ok (.imul, 1) := by decide +kernel
theorem dX5_leadsBack_77 : decode cX5_leadsBack 77 = .ok (.iload 4, 2) := by decide +kernel
theorem dX5_leadsBack_79 : decode cX5_leadsBack 79 = .ok (.iadd, 1) := by decide +kernel
theorem dX5_leadsBack_80 : decode cX5_leadsBack 80 = .ok (.iconst 0, 1) := by decide +kernel
theorem dX5_leadsBack_81 : decode cX5_leadsBack 81 = .ok (.bastore, 1) := by decide +kernel
theorem dX5_leadsBack_82 : decode cX5_leadsBack 82 = .ok (.iinc 4 1, 3) := by decide +kernel
theorem dX5_leadsBack_85 : decode cX5_leadsBack 85 = .ok (.goto (-27), 3) := by decide +kernel
theorem dX5_leadsBack_88 : decode cX5_leadsBack 88 = .ok (.iconst 0, 1) := by decide +kernel
theorem dX5_leadsBack_89 : decode cX5_leadsBack 89 = .ok (.istore 4, 2) := by decide +kernel
theorem dX5_leadsBack_91 : decode cX5_leadsBack 91 = .ok (.iload 4, 2) := by decide +kernel
theorem dX5_leadsBack_93 : decode cX5_leadsBack 93 = .ok (.aload_n 0, 1) := by decide +kernel
theorem dX5_leadsBack_94 : decode cX5_leadsBack 94 = .ok (.iload_n 1, 1) := by decide +kernel
theorem dX5_leadsBack_95 : decode cX5_leadsBack 95 = .ok (.invokevirtual 98, 3) := by decide +kernel
theorem dX5_leadsBack_98 : decode cX5_leadsBack 98 = .ok (.if_icmp .ge 83, 3) := by decide +kernel
theorem dX5_leadsBack_101 : decode cX5_leadsBack 101 = .ok (.aload_n 0, 1) := by decide +kernel
theorem dX5_leadsBack_102 : decode cX5_leadsBack 102 = .ok (.getfield 44, 3) := by decide +kernel
theorem dX5_leadsBack_105 : decode cX5_leadsBack 105 = .ok (.sipush 4096, 3) := by decide +kernel
theorem dX5_leadsBack_108 : decode cX5_leadsBack 108 = .ok (.iload_n 3, 1) := by decide +kernel
theorem dX5_leadsBack_109 : decode cX5_leadsBack 109 = .ok (.iconst 1, 1) := by decide +kernel
theorem dX5_leadsBack_110 : decode cX5_leadsBack 110 = .ok (.iadd, 1) := by decide +kernel
theorem dX5_leadsBack_111 : decode cX5_leadsBack 111 = .ok (.imul, 1) := by decide +kernel
theorem dX5_leadsBack_112 : decode cX5_leadsBack 112 = .ok (.iload 4, 2) := by decide +kernel
theorem dX5_leadsBack_114 : decode cX5_leadsBack 114 = .ok (.iadd, 1) := by decide +kernel
theorem dX5_leadsBack_115 : decode cX5_leadsBack 115 = .ok (.baload, 1) := by decide +kernel
theorem dX5_leadsBack_116 : decode cX5_leadsBack 116 = .ok (.ifCond .eq 59, 3) := by decide +kernel
theorem dX5_leadsBack_119 : decode cX5_leadsBack 119 = .ok (.aload_n 0, 1) := by decide +kernel
theorem dX5_leadsBack_120 : decode cX5_leadsBack 120 = .ok (.iload_n 1, 1) := by decide +kernel
theorem dX5_leadsBack_121 : decode cX5_leadsBack 121 = .ok (.iload_n 3, 1) := by decide +kernel
theorem dX5_leadsBack_122 : decode cX5_leadsBack 122 = .ok (.iload 4, 2) := by decide +kernel
theorem dX5_leadsBack_124 : decode cX5_leadsBack 124 = .ok (.invokevirtual 102, 3) := by decide +kernel
theorem dX5_leadsBack_127 : decode cX5_leadsBack 127 = .ok (.ifCond .ne 6, 3) := by decide +kernel
theorem dX5_leadsBack_130 : decode cX5_leadsBack 130 = .ok (.goto 45, 3) := by decide +kernel
theorem dX5_leadsBack_133 : decode cX5_leadsBack 133 = .ok (.iconst 0, 1) := by decide +kernel
theorem dX5_leadsBack_134 : decode cX5_leadsBack 134 = .ok (.istore 5, 2) := by decide +kernel
theorem dX5_leadsBack_136 : decode cX5_leadsBack 136 = .ok (.iload 5, 2) := by decide +kernel
theorem dX5_leadsBack_138 : decode cX5_leadsBack 138 = .ok (.iconst 1, 1) := by decide +kernel
theorem dX5_leadsBack_139 : decode cX5_leadsBack 139 = .ok (.iload_n 2, 1) := by decide +kernel
theorem dX5_leadsBack_140 : decode cX5_leadsBack 140 = .ok (.iload_n 3, 1) := by decide +kernel
theorem dX5_leadsBack_141 : decode cX5_leadsBack 141 = .ok (.invokestatic 63, 3) := by decide +kernel
theorem dX5_leadsBack_144 : decode cX5_leadsBack 144 = .ok (.ishl, 1) := by decide +kernel
theorem dX5_leadsBack_145 : decode cX5_leadsBack 145 = .ok (.if_icmp .ge 30, 3) := by decide +kernel
theorem dX5_leadsBack_148 : decode cX5_leadsBack 148 = .ok (.aload_n 0, 1) := by decide +kernel
theorem dX5_leadsBack_149 : decode cX5_leadsBack 149 = .ok (.getfield 44, 3) := by decide +kernel
theorem dX5_leadsBack_152 : decode cX5_leadsBack 152 = .ok (.sipush 4096, 3) := by decide +kernel
theorem dX5_leadsBack_155 : decode cX5_leadsBack 155 = .ok (.iload_n 3, 1) := by decide +kernel
theorem dX5_leadsBack_156 : decode cX5_leadsBack 156 = .ok (.imul, 1) := by decide +kernel
theorem dX5_leadsBack_157 : decode cX5_leadsBack 157 = .ok (.iload_n 2, 1) := by decide +kernel
theorem dX5_leadsBack_158 : decode cX5_leadsBack 158 = .ok (.iload_n 3, 1) := by decide +kernel
theorem dX5_leadsBack_159 : decode cX5_leadsBack 159 = .ok (.iload 4, 2) := by decide +kernel
theorem dX5_leadsBack_161 : decode cX5_leadsBack 161 = .ok (.iload 5, 2) := by decide +kernel
theorem dX5_leadsBack_163 : decode cX5_leadsBack 163 = .ok (.invokestatic 105, 3) := by decide +kernel
theorem dX5_leadsBack_166 : decode cX5_leadsBack 166 = .ok (.iadd, 1) := by decide +kernel
theorem dX5_leadsBack_167 : decode cX5_leadsBack 167 = .ok (.iconst 1, 1) := by decide +kernel
theorem dX5_leadsBack_168 : decode cX5_leadsBack 168 = .ok (.bastore, 1) := by decide +kernel
theorem dX5_leadsBack_169 : decode cX5_leadsBack 169 = .ok (.iinc 5 1, 3) := by decide +kernel
theorem dX5_leadsBack_172 : decode cX5_leadsBack 172 = .ok (.goto (-36), 3) := by decide +kernel
theorem dX5_leadsBack_175 : decode cX5_leadsBack 175 = .ok (.iinc 4 1, 3) := by decide +kernel
theorem dX5_leadsBack_178 : decode cX5_leadsBack 178 = .ok (.goto (-87), 3) := by decide +kernel
theorem dX5_leadsBack_181 : decode cX5_leadsBack 181 = .ok (.iinc 3 (-1), 3) := by decide +kernel
theorem dX5_leadsBack_184 : decode cX5_leadsBack 184 = .ok (.goto (-133), 3) := by decide +kernel
theorem dX5_leadsBack_187 : decode cX5_leadsBack 187 = .ok (.return_, 1) := by decide +kernel
set_option maxRecDepth 20000 in
theorem ggX5_isStart_X5_digit : GoodIn wsX5_isStart wsX5_digit := goodIn_r _ [7] (by decide +kernel) (by decide +kernel)
set_option maxRecDepth 20000 in
theorem gX5_isStart_X5_digit : GoodIn wsX5_isStart (va_wsS RX5 95 yX5_digit wsX5_digit) := goodIn_app (goodIn_of _ (by decide +kernel)) ggX5_isStart_X5_digit
theorem dX5_isStart_0 : decode cX5_isStart 0 = .ok (.aload_n 0, 1) := by decide +kernel
theorem dX5_isStart_1 : decode cX5_isStart 1 = .ok (.getfield 44, 3) := by decide +kernel
theorem dX5_isStart_4 : decode cX5_isStart 4 = .ok (.iload_n 2, 1) := by decide +kernel
theorem dX5_isStart_5 : decode cX5_isStart 5 = .ok (.baload, 1) := by decide +kernel
theorem dX5_isStart_6 : decode cX5_isStart 6 = .ok (.istore_n 3, 1) := by decide +kernel
theorem dX5_isStart_7 : decode cX5_isStart 7 = .ok (.iconst 0, 1) := by decide +kernel
theorem dX5_isStart_8 : decode cX5_isStart 8 = .ok (.istore 4, 2) := by decide +kernel
theorem dX5_isStart_10 : decode cX5_isStart 10 = .ok (.iload 4, 2) := by decide +kernel
theorem dX5_isStart_12 : decode cX5_isStart 12 = .ok (.aload_n 0, 1) := by decide +kernel
theorem dX5_isStart_13 : decode cX5_isStart 13 = .ok (.getfield 22, 3) := by decide +kernel
theorem dX5_isStart_16 : decode cX5_isStart 16 = .ok (.iload_n 1, 1) := by decide +kernel
theorem dX5_isStart_17 : decode cX5_isStart 17 = .ok (.iaload, 1) := by decide +kernel
theorem dX5_isStart_18 : decode cX5_isStart 18 = .ok (.if_icmp .ge 62, 3) := by decide +kernel
theorem dX5_isStart_21 : decode cX5_isStart 21 = .ok (.iload_n 3, 1) := by decide +kernel
theorem dX5_isStart_22 : decode cX5_isStart 22 = .ok (.ifCond .eq 50, 3) := by decide +kernel
theorem dX5_isStart_25 : decode cX5_isStart 25 = .ok (.aload_n 0, 1) := by decide +kernel
theorem dX5_isStart_26 : decode cX5_isStart 26 = .ok (.getfield 31, 3) := by decide +kernel
theorem dX5_isStart_29 : decode cX5_isStart 29 = .ok (.bipush 6, 2) := by decide +kernel
theorem dX5_isStart_31 : decode cX5_isStart 31 = .ok (.iload_n 1, 1) := by decide +kernel
theorem dX5_isStart_32 : decode cX5_isStart 32 = .ok (.imul, 1) := by decide +kernel
theorem dX5_isStart_33 : decode cX5_isStart 33 = .ok (.iload 4, 2) := by decide +kernel
theorem dX5_isStart_35 : decode cX5_isStart 35 = .ok (.iadd, 1) := by decide +kernel
theorem dX5_isStart_36 : decode cX5_isStart 36 = .ok (.iaload, 1) := by decide +kernel
theorem dX5_isStart_37 : decode cX5_isStart 37 = .ok (.iconst 4, 1) := by decide +kernel
theorem dX5_isStart_38 : decode cX5_isStart 38 = .ok (.if_icmp .eq 30, 3) := by decide +kernel
theorem dX5_isStart_41 : decode cX5_isStart 41 = .ok (.aload_n 0, 1) := by decide +kernel
theorem dX5_isStart_42 : decode cX5_isStart 42 = .ok (.getfield 31, 3) := by decide +kernel
theorem dX5_isStart_45 : decode cX5_isStart 45 = .ok (.bipush 6, 2) := by decide +kernel
theorem dX5_isStart_47 : decode cX5_isStart 47 = .ok (.iload_n 1, 1) := by decide +kernel
theorem dX5_isStart_48 : decode cX5_isStart 48 = .ok (.imul, 1) := by decide +kernel
theorem dX5_isStart_49 : decode cX5_isStart 49 = .ok (.iload 4, 2) := by decide +kernel
theorem dX5_isStart_51 : decode cX5_isStart 51 = .ok (.iadd, 1) := by decide +kernel
theorem dX5_isStart_52 : decode cX5_isStart 52 = .ok (.iaload, 1) := by decide +kernel
theorem dX5_isStart_53 : decode cX5_isStart 53 = .ok (.aload_n 0, 1) := by decide +kernel
theorem dX5_isStart_54 : decode cX5_isStart 54 = .ok (.getfield 22, 3) := by decide +kernel
theorem dX5_isStart_57 : decode cX5_isStart 57 = .ok (.iload_n 1, 1) := by decide +kernel
theorem dX5_isStart_58 : decode cX5_isStart 58 = .ok (.iaload, 1) := by decide +kernel
theorem dX5_isStart_59 : decode cX5_isStart 59 = .ok (.iload_n 2, 1) := by decide +kernel
theorem dX5_isStart_60 : decode cX5_isStart 60 = .ok (.iload 4, 2) := by decide +kernel
theorem dX5_isStart_62 : decode cX5_isStart 62 = .ok (.invokestatic 95, 3) := by decide +kernel
theorem dX5_isStart_65 : decode cX5_isStart 65 = .ok (.if_icmp .ne 7, 3) := by decide +kernel
theorem dX5_isStart_68 : decode cX5_isStart 68 = .ok (.iconst 1, 1) := by decide +kernel
theorem dX5_isStart_69 : decode cX5_isStart 69 = .ok (.goto 4, 3) := by decide +kernel
theorem dX5_isStart_72 : decode cX5_isStart 72 = .ok (.iconst 0, 1) := by decide +kernel
theorem dX5_isStart_73 : decode cX5_isStart 73 = .ok (.istore_n 3, 1) := by decide +kernel
theorem dX5_isStart_74 : decode cX5_isStart 74 = .ok (.iinc 4 1, 3) := by decide +kernel
theorem dX5_isStart_77 : decode cX5_isStart 77 = .ok (.goto (-67), 3) := by decide +kernel
theorem dX5_isStart_80 : decode cX5_isStart 80 = .ok (.iload_n 3, 1) := by decide +kernel
theorem dX5_isStart_81 : decode cX5_isStart 81 = .ok (.ireturn, 1) := by decide +kernel
set_option maxRecDepth 20000 in
theorem ggX5_first_X5_leadsBack : GoodIn wsX5_first wsX5_leadsBack := goodIn_r _ [5, 6, 7, 8, 9, 10, 11, 4, 12, 13, 14, 15, 16, 17, 18, 19, 20, 21, 22, 23, 24, 25, 26, 27, 28, 29, 30, 31, 32, 38, 39, 40, 41, 42, 43, 44, 45, 46, 47, 48, 49, 50, 51, 52] (by decide +kernel) (by decide +kernel)
set_option maxRecDepth 20000 in
theorem gX5_first_X5_leadsBack : GoodIn wsX5_first (wsV RX5 109 RX5 yX5_leadsBack wsX5_leadsBack) := goodIn_app (goodIn_of _ (by decide +kernel)) ggX5_first_X5_leadsBack
set_option maxRecDepth 20000 in
theorem ggX5_first_X5_states : GoodIn wsX5_first wsX5_states := goodIn_r _ [12, 6, 38, 39, 40, 41, 42, 43, 44, 45, 46, 47, 48, 49, 50, 51, 52] (by decide +kernel) (by decide +kernel)
set_option maxRecDepth 20000 in
theorem gX5_first_X5_states : GoodIn wsX5_first (wsV RX5 98 RX5 yX5_states wsX5_states) := goodIn_app (goodIn_of _ (by decide +kernel)) ggX5_first_X5_states
set_option maxRecDepth 20000 in
theorem ggX5_first_X5_isStart : GoodIn wsX5_first wsX5_isStart := goodIn_r _ [36, 7, 6, 37, 24, 25, 4, 26, 38, 39, 40, 41, 42, 43, 44, 45, 46, 47, 48, 49, 50, 51, 52] (by decide +kernel) (by decide +kernel)
set_option maxRecDepth 20000 in
theorem gX5_first_X5_isStart : GoodIn wsX5_first (wsV RX5 113 RX5 yX5_isStart wsX5_isStart) := goodIn_app (goodIn_of _ (by decide +kernel)) ggX5_first_X5_isStart
theorem dX5_first_0 : decode cX5_first 0 = .ok (.aload_n 0, 1) := by decide +kernel
theorem dX5_first_1 : decode cX5_first 1 = .ok (.iload_n 1, 1) := by decide +kernel
theorem dX5_first_2 : decode cX5_first 2 = .ok (.invokevirtual 109, 3) := by decide +kernel
theorem dX5_first_5 : decode cX5_first 5 = .ok (.iconst 0, 1) := by decide +kernel
theorem dX5_first_6 : decode cX5_first 6 = .ok (.istore_n 2, 1) := by decide +kernel
theorem dX5_first_7 : decode cX5_first 7 = .ok (.iload_n 2, 1) := by decide +kernel
theorem dX5_first_8 : decode cX5_first 8 = .ok (.aload_n 0, 1) := by decide +kernel
theorem dX5_first_9 : decode cX5_first 9 = .ok (.iload_n 1, 1) := by decide +kernel
theorem dX5_first_10 : decode cX5_first 10 = .ok (.invokevirtual 98, 3) := by decide +kernel
theorem dX5_first_13 : decode cX5_first 13 = .ok (.if_icmp .ge 20, 3) := by decide +kernel
theorem dX5_first_16 : decode cX5_first 16 = .ok (.aload_n 0, 1) := by decide +kernel
theorem dX5_first_17 : decode cX5_first 17 = .ok (.iload_n 1, 1) := by decide +kernel
theorem dX5_first_18 : decode cX5_first 18 = .ok (.iload_n 2, 1) := by decide +kernel
theorem dX5_first_19 : decode cX5_first 19 = .ok (.invokevirtual 113, 3) := by decide +kernel
theorem dX5_first_22 : decode cX5_first 22 = .ok (.ifCond .eq 5, 3) := by decide +kernel
theorem dX5_first_25 : decode cX5_first 25 = .ok (.iload_n 2, 1) := by decide +kernel
theorem dX5_first_26 : decode cX5_first 26 = .ok (.ireturn, 1) := by decide +kernel
theorem dX5_first_27 : decode cX5_first 27 = .ok (.iinc 2 1, 3) := by decide +kernel
theorem dX5_first_30 : decode cX5_first 30 = .ok (.goto (-23), 3) := by decide +kernel
theorem dX5_first_33 : decode cX5_first 33 = .ok (.iconst (-1), 1) := by decide +kernel
theorem dX5_first_34 : decode cX5_first 34 = .ok (.ireturn, 1) := by decide +kernel
set_option maxRecDepth 20000 in
theorem ggX5_starts_X5_isPicture : GoodIn wsX5_starts wsX5_isPicture := goodIn_r _ [5, 6, 7, 8, 9, 10, 4, 11, 48, 49, 50, 51, 52, 53, 54, 55, 56, 57, 58, 59, 60, 61, 62] (by decide +kernel) (by decide +kernel)
set_option maxRecDepth 20000 in
theorem gX5_starts_X5_isPicture : GoodIn wsX5_starts (wsV RX5 89 RX5 yX5_isPicture wsX5_isPicture) := goodIn_app (goodIn_of _ (by decide +kernel)) ggX5_starts_X5_isPicture
set_option maxRecDepth 20000 in
theorem ggX5_starts_X5_leadsBack : GoodIn wsX5_starts wsX5_leadsBack := goodIn_r _ [15, 16, 17, 18, 19, 20, 21, 4, 22, 23, 24, 25, 26, 27, 28, 29, 30, 31, 32, 33, 34, 35, 36, 37, 38, 39, 40, 41, 42, 48, 49, 50, 51, 52, 53, 54, 55, 56, 57, 58, 59, 60, 61, 62] (by decide +kernel) (by decide +kernel)
set_option maxRecDepth 20000 in
theorem gX5_starts_X5_leadsBack : GoodIn wsX5_starts (wsV RX5 109 RX5 yX5_leadsBack wsX5_leadsBack) := goodIn_app (goodIn_of _ (by decide +kernel)) ggX5_starts_X5_leadsBack
set_option maxRecDepth 20000 in
theorem ggX5_starts_X5_states : GoodIn wsX5_starts wsX5_states := goodIn_r _ [22, 16, 48, 49, 50, 51, 52, 53, 54, 55, 56, 57, 58, 59, 60, 61, 62] (by decide +kernel) (by decide +kernel)
set_option maxRecDepth 20000 in
theorem gX5_starts_X5_states : GoodIn wsX5_starts (wsV RX5 98 RX5 yX5_states wsX5_states) := goodIn_app (goodIn_of _ (by decide +kernel)) ggX5_starts_X5_states
set_option maxRecDepth 20000 in
theorem ggX5_starts_X5_isStart : GoodIn wsX5_starts wsX5_isStart := goodIn_r _ [46, 17, 16, 47, 34, 35, 4, 36, 48, 49, 50, 51, 52, 53, 54, 55, 56, 57, 58, 59, 60, 61, 62] (by decide +kernel) (by decide +kernel)
set_option maxRecDepth 20000 in
theorem gX5_starts_X5_isStart : GoodIn wsX5_starts (wsV RX5 113 RX5 yX5_isStart wsX5_isStart) := goodIn_app (goodIn_of _ (by decide +kernel)) ggX5_starts_X5_isStart
theorem dX5_starts_0 : decode cX5_starts 0 = .ok (.aload_n 0, 1) := by decide +kernel
theorem dX5_starts_1 : decode cX5_starts 1 = .ok (.iload_n 1, 1) := by decide +kernel
theorem dX5_starts_2 : decode cX5_starts 2 = .ok (.invokevirtual 89, 3) := by decide +kernel
theorem dX5_starts_5 : decode cX5_starts 5 = .ok (.ifCond .ne 5, 3) := by decide +kernel
theorem dX5_starts_8 : decode cX5_starts 8 = .ok (.iconst 0, 1) := by decide +kernel
theorem dX5_starts_9 : decode cX5_starts 9 = .ok (.ireturn, 1) := by decide +kernel
theorem dX5_starts_10 : decode cX5_starts 10 = .ok (.aload_n 0, 1) := by decide +kernel
theorem dX5_starts_11 : decode cX5_starts 11 = .ok (.iload_n 1, 1) := by decide +kernel
theorem dX5_starts_12 : decode cX5_starts 12 = .ok (.invokevirtual 109, 3) := by decide +kernel
theorem dX5_starts_15 : decode cX5_starts 15 = .ok (.iconst 0, 1) := by decide +kernel
theorem dX5_starts_16 : decode cX5_starts 16 = .ok (.istore_n 2, 1) := by decide +kernel
theorem dX5_starts_17 : decode cX5_starts 17 = .ok (.iconst 0, 1) := by decide +kernel
theorem dX5_starts_18 : decode cX5_starts 18 = .ok (.istore_n 3, 1) := by decide +kernel
theorem dX5_starts_19 : decode cX5_starts 19 = .ok (.iload_n 3, 1) := by decide +kernel
theorem dX5_starts_20 : decode cX5_starts 20 = .ok (.aload_n 0, 1) := by decide +kernel
theorem dX5_starts_21 : decode cX5_starts 21 = .ok (.iload_n 1, 1) := by decide +kernel
theorem dX5_starts_22 : decode cX5_starts 22 = .ok (.invokevirtual 98, 3) := by decide +kernel
theorem dX5_starts_25 : decode cX5_starts 25 = .ok (.if_icmp .ge 21, 3) := by decide +kernel
theorem dX5_starts_28 : decode cX5_starts 28 = .ok (.aload_n 0, 1) := by decide +kernel
theorem dX5_starts_29 : decode cX5_starts 29 = .ok (.iload_n 1, 1) := by decide +kernel
theorem dX5_starts_30 : decode cX5_starts 30 = .ok (.iload_n 3, 1) := by decide +kernel
theorem dX5_starts_31 : decode cX5_starts 31 = .ok (.invokevirtual 113, 3) := by decide +kernel
theorem dX5_starts_34 : decode cX5_starts 34 = .ok (.ifCond .eq 6, 3) := by decide +kernel
theorem dX5_starts_37 : decode cX5_starts 37 = .ok (.iinc 2 1, 3) := by decide +kernel
theorem dX5_starts_40 : decode cX5_starts 40 = .ok (.iinc 3 1, 3) := by decide +kernel
theorem dX5_starts_43 : decode cX5_starts 43 = .ok (.goto (-24), 3) := by decide +kernel
theorem dX5_starts_46 : decode cX5_starts 46 = .ok (.iload_n 2, 1) := by decide +kernel
theorem dX5_starts_47 : decode cX5_starts 47 = .ok (.ireturn, 1) := by decide +kernel
set_option maxRecDepth 20000 in
theorem ggX5_start_X5_isPicture : GoodIn wsX5_start wsX5_isPicture := goodIn_r _ [6, 7, 8, 9, 10, 11, 5, 12, 52, 53, 54, 55, 56, 57, 58, 59, 60, 61, 62, 63, 64, 65, 66] (by decide +kernel) (by decide +kernel)
set_option maxRecDepth 20000 in
theorem gX5_start_X5_isPicture : GoodIn wsX5_start (wsV RX5 89 RX5 yX5_isPicture wsX5_isPicture) := goodIn_app (goodIn_of _ (by decide +kernel)) ggX5_start_X5_isPicture
set_option maxRecDepth 20000 in
theorem ggX5_start_X5_right : GoodIn wsX5_start wsX5_right := goodIn_r _ [12, 7, 52, 53, 54, 55, 56, 57, 58, 59, 60, 61, 62, 63, 64, 65, 66] (by decide +kernel) (by decide +kernel)
set_option maxRecDepth 20000 in
theorem gX5_start_X5_right : GoodIn wsX5_start (wsV RX5 55 RX5 yX5_right wsX5_right) := goodIn_app (goodIn_of _ (by decide +kernel)) ggX5_start_X5_right
set_option maxRecDepth 20000 in
theorem ggX5_start_X5_first : GoodIn wsX5_start wsX5_first := goodIn_r _ [16, 17, 18, 19, 5, 20, 1, 21, 22, 23, 24, 25, 26, 27, 28, 29, 30, 31, 32, 33, 34, 35, 36, 37, 38, 39, 40, 41, 42, 43, 44, 45, 46, 47, 48, 49, 50, 51, 52, 53, 54, 55, 56, 57, 58, 59, 60, 61, 62, 63, 64, 65, 66] (by decide +kernel) (by decide +kernel)
set_option maxRecDepth 20000 in
theorem gX5_start_X5_first : GoodIn wsX5_start (wsV RX5 117 RX5 yX5_first wsX5_first) := goodIn_app (goodIn_of _ (by decide +kernel)) ggX5_start_X5_first
set_option maxRecDepth 20000 in
theorem ggX5_start_X5_digit : GoodIn wsX5_start wsX5_digit := goodIn_r _ [40] (by decide +kernel) (by decide +kernel)
set_option maxRecDepth 20000 in
theorem gX5_start_X5_digit : GoodIn wsX5_start (va_wsS RX5 95 yX5_digit wsX5_digit) := goodIn_app (goodIn_of _ (by decide +kernel)) ggX5_start_X5_digit
theorem dX5_start_0 : decode cX5_start 0 = .ok (.aload_n 0, 1) := by decide +kernel
theorem dX5_start_1 : decode cX5_start 1 = .ok (.iload_n 1, 1) := by decide +kernel
theorem dX5_start_2 : decode cX5_start 2 = .ok (.invokevirtual 89, 3) := by decide +kernel
theorem dX5_start_5 : decode cX5_start 5 = .ok (.ifCond .eq 30, 3) := by decide +kernel
theorem dX5_start_8 : decode cX5_start 8 = .ok (.aload_n 0, 1) := by decide +kernel
theorem dX5_start_9 : decode cX5_start 9 = .ok (.iload_n 2, 1) := by decide +kernel
theorem dX5_start_10 : decode cX5_start 10 = .ok (.ifCond .lt 17, 3) := by decide +kernel
theorem dX5_start_13 : decode cX5_start 13 = .ok (.iload_n 2, 1) := by decide +kernel
theorem dX5_start_14 : decode cX5_start 14 = .ok (.aload_n 0, 1) := by decide +kernel
theorem dX5_start_15 : decode cX5_start 15 = .ok (.getfield 22, 3) := by decide +kernel
theorem dX5_start_18 : decode cX5_start 18 = .ok (.iload_n 1, 1) := by decide +kernel
theorem dX5_start_19 : decode cX5_start 19 = .ok (.iaload, 1) := by decide +kernel
theorem dX5_start_20 : decode cX5_start 20 = .ok (.if_icmp .ge 7, 3) := by decide +kernel
theorem dX5_start_23 : decode cX5_start 23 = .ok (.iconst 1, 1) := by decide +kernel
theorem dX5_start_24 : decode cX5_start 24 = .ok (.goto 4, 3) := by decide +kernel
theorem dX5_start_27 : decode cX5_start 27 = .ok (.iconst 0, 1) := by decide +kernel
theorem dX5_start_28 : decode cX5_start 28 = .ok (.iconst 1, 1) := by decide +kernel
theorem dX5_start_29 : decode cX5_start 29 = .ok (.invokevirtual 55, 3) := by decide +kernel
theorem dX5_start_32 : decode cX5_start 32 = .ok (.ifCond .ne 5, 3) := by decide +kernel
theorem dX5_start_35 : decode cX5_start 35 = .ok (.iconst 0, 1) := by decide +kernel
theorem dX5_start_36 : decode cX5_start 36 = .ok (.ireturn, 1) := by decide +kernel
theorem dX5_start_37 : decode cX5_start 37 = .ok (.aload_n 0, 1) := by decide +kernel
theorem dX5_start_38 : decode cX5_start 38 = .ok (.iload_n 1, 1) := by decide +kernel
theorem dX5_start_39 : decode cX5_start 39 = .ok (.invokevirtual 117, 3) := by decide +kernel
theorem dX5_start_42 : decode cX5_start 42 = .ok (.istore_n 3, 1) := by decide +kernel
theorem dX5_start_43 : decode cX5_start 43 = .ok (.iload_n 3, 1) := by decide +kernel
theorem dX5_start_44 : decode cX5_start 44 = .ok (.iconst (-1), 1) := by decide +kernel
theorem dX5_start_45 : decode cX5_start 45 = .ok (.if_icmp .ne 7, 3) := by decide +kernel
theorem dX5_start_48 : decode cX5_start 48 = .ok (.iconst (-1), 1) := by decide +kernel
theorem dX5_start_49 : decode cX5_start 49 = .ok (.goto 14, 3) := by decide +kernel
theorem dX5_start_52 : decode cX5_start 52 = .ok (.aload_n 0, 1) := by decide +kernel
theorem dX5_start_53 : decode cX5_start 53 = .ok (.getfield 22, 3) := by decide +kernel
theorem dX5_start_56 : decode cX5_start 56 = .ok (.iload_n 1, 1) := by decide +kernel
theorem dX5_start_57 : decode cX5_start 57 = .ok (.iaload, 1) := by decide +kernel
theorem dX5_start_58 : decode cX5_start 58 = .ok (.iload_n 3, 1) := by decide +kernel
theorem dX5_start_59 : decode cX5_start 59 = .ok (.iload_n 2, 1) := by decide +kernel
theorem dX5_start_60 : decode cX5_start 60 = .ok (.invokestatic 95, 3) := by decide +kernel
theorem dX5_start_63 : decode cX5_start 63 = .ok (.ireturn, 1) := by decide +kernel
set_option maxRecDepth 20000 in
theorem ggX5_isOpen_X5_knots : GoodIn wsX5_isOpen wsX5_knots := goodIn_r _ [6] (by decide +kernel) (by decide +kernel)
set_option maxRecDepth 20000 in
theorem gX5_isOpen_X5_knots : GoodIn wsX5_isOpen (va_wsS RX5 63 yX5_knots wsX5_knots) := goodIn_app (goodIn_of _ (by decide +kernel)) ggX5_isOpen_X5_knots
set_option maxRecDepth 20000 in
theorem ggX5_isOpen_X5_changed : GoodIn wsX5_isOpen wsX5_changed := goodIn_r _ [9, 3, 4, 5, 6, 10, 11, 12, 13, 14, 15] (by decide +kernel) (by decide +kernel)
set_option maxRecDepth 20000 in
theorem gX5_isOpen_X5_changed : GoodIn wsX5_isOpen (va_wsS RX5 105 yX5_changed wsX5_changed) := goodIn_app (goodIn_of _ (by decide +kernel)) ggX5_isOpen_X5_changed
theorem dX5_isOpen_0 : decode cX5_isOpen 0 = .ok (.iconst 0, 1) := by decide +kernel
theorem dX5_isOpen_1 : decode cX5_isOpen 1 = .ok (.istore 6, 2) := by decide +kernel
theorem dX5_isOpen_3 : decode cX5_isOpen 3 = .ok (.iload 6, 2) := by decide +kernel
theorem dX5_isOpen_5 : decode cX5_isOpen 5 = .ok (.iconst 1, 1) := by decide +kernel
theorem dX5_isOpen_6 : decode cX5_isOpen 6 = .ok (.aload_n 0, 1) := by decide +kernel
theorem dX5_isOpen_7 : decode cX5_isOpen 7 = .ok (.getfield 22, 3) := by decide +kernel
theorem dX5_isOpen_10 : decode cX5_isOpen 10 = .ok (.iload_n 1, 1) := by decide +kernel
theorem dX5_isOpen_11 : decode cX5_isOpen 11 = .ok (.iaload, 1) := by decide +kernel
theorem dX5_isOpen_12 : decode cX5_isOpen 12 = .ok (.iload_n 2, 1) := by decide +kernel
theorem dX5_isOpen_13 : decode cX5_isOpen 13 = .ok (.invokestatic 63, 3) := by decide +kernel
theorem dX5_isOpen_16 : decode cX5_isOpen 16 = .ok (.iload 4, 2) := by decide +kernel
theorem dX5_isOpen_18 : decode cX5_isOpen 18 = .ok (.isub, 1) := by decide +kernel
theorem dX5_isOpen_19 : decode cX5_isOpen 19 = .ok (.ishl, 1) := by decide +kernel
theorem dX5_isOpen_20 : decode cX5_isOpen 20 = .ok (.if_icmp .ge 46, 3) := by decide +kernel
theorem dX5_isOpen_23 : decode cX5_isOpen 23 = .ok (.aload_n 0, 1) := by decide +kernel
theorem dX5_isOpen_24 : decode cX5_isOpen 24 = .ok (.getfield 44, 3) := by decide +kernel
theorem dX5_isOpen_27 : decode cX5_isOpen 27 = .ok (.sipush 4096, 3) := by decide +kernel
theorem dX5_isOpen_30 : decode cX5_isOpen 30 = .ok (.iload_n 2, 1) := by decide +kernel
theorem dX5_isOpen_31 : decode cX5_isOpen 31 = .ok (.iconst 1, 1) := by decide +kernel
theorem dX5_isOpen_32 : decode cX5_isOpen 32 = .ok (.iadd, 1) := by decide +kernel
theorem dX5_isOpen_33 : decode cX5_isOpen 33 = .ok (.imul, 1) := by decide +kernel
theorem dX5_isOpen_34 : decode cX5_isOpen 34 = .ok (.aload_n 0, 1) := by decide +kernel
theorem dX5_isOpen_35 : decode cX5_isOpen 35 = .ok (.getfield 22, 3) := by decide +kernel
theorem dX5_isOpen_38 : decode cX5_isOpen 38 = .ok (.iload_n 1, 1) := by decide +kernel
theorem dX5_isOpen_39 : decode cX5_isOpen 39 = .ok (.iaload, 1) := by decide +kernel
theorem dX5_isOpen_40 : decode cX5_isOpen 40 = .ok (.iload_n 2, 1) := by decide +kernel
theorem dX5_isOpen_41 : decode cX5_isOpen 41 = .ok (.iload_n 3, 1) := by decide +kernel
theorem dX5_isOpen_42 : decode cX5_isOpen 42 = .ok (.iload 5, 2) := by decide +kernel
theorem dX5_isOpen_44 : decode cX5_isOpen 44 = .ok (.iload 6, 2) := by decide +kernel
theorem dX5_isOpen_46 : decode cX5_isOpen 46 = .ok (.iload 4, 2) := by decide +kernel
theorem dX5_isOpen_48 : decode cX5_isOpen 48 = .ok (.ishl, 1) := by decide +kernel
theorem dX5_isOpen_49 : decode cX5_isOpen 49 = .ok (.ior, 1) := by decide +kernel
theorem dX5_isOpen_50 : decode cX5_isOpen 50 = .ok (.invokestatic 105, 3) := by decide +kernel
theorem dX5_isOpen_53 : decode cX5_isOpen 53 = .ok (.iadd, 1) := by decide +kernel
theorem dX5_isOpen_54 : decode cX5_isOpen 54 = .ok (.baload, 1) := by decide +kernel
theorem dX5_isOpen_55 : decode cX5_isOpen 55 = .ok (.ifCond .eq 5, 3) := by decide +kernel
theorem dX5_isOpen_58 : decode cX5_isOpen 58 = .ok (.iconst 1, 1) := by decide +kernel
theorem dX5_isOpen_59 : decode cX5_isOpen 59 = .ok (.ireturn, 1) := by decide +kernel
theorem dX5_isOpen_60 : decode cX5_isOpen 60 = .ok (.iinc 6 1, 3) := by decide +kernel
theorem dX5_isOpen_63 : decode cX5_isOpen 63 = .ok (.goto (-60), 3) := by decide +kernel
theorem dX5_isOpen_66 : decode cX5_isOpen 66 = .ok (.iconst 0, 1) := by decide +kernel
theorem dX5_isOpen_67 : decode cX5_isOpen 67 = .ok (.ireturn, 1) := by decide +kernel
set_option maxRecDepth 20000 in
theorem ggX5_tie_X5_isPicture : GoodIn wsX5_tie wsX5_isPicture := goodIn_r _ [13, 14, 15, 16, 17, 18, 12, 19, 65, 66, 67, 68, 69, 70, 71, 72, 73, 74, 75, 76, 77, 78, 79] (by decide +kernel) (by decide +kernel)
set_option maxRecDepth 20000 in
theorem gX5_tie_X5_isPicture : GoodIn wsX5_tie (wsV RX5 89 RX5 yX5_isPicture wsX5_isPicture) := goodIn_app (goodIn_of _ (by decide +kernel)) ggX5_tie_X5_isPicture
set_option maxRecDepth 20000 in
theorem ggX5_tie_X5_first : GoodIn wsX5_tie wsX5_first := goodIn_r _ [23, 24, 25, 26, 12, 27, 2, 28, 5, 29, 30, 31, 32, 33, 34, 35, 36, 7, 37, 38, 39, 40, 41, 42, 43, 44, 45, 46, 47, 48, 49, 50, 51, 52, 53, 54, 55, 56, 65, 66, 67, 68, 69, 70, 71, 72, 73, 74, 75, 76, 77, 78, 79] (by decide +kernel) (by decide +kernel)
set_option maxRecDepth 20000 in
theorem gX5_tie_X5_first : GoodIn wsX5_tie (wsV RX5 117 RX5 yX5_first wsX5_first) := goodIn_app (goodIn_of _ (by decide +kernel)) ggX5_tie_X5_first
set_option maxRecDepth 20000 in
theorem ggX5_tie_X5_digit : GoodIn wsX5_tie wsX5_digit := goodIn_r _ [45] (by decide +kernel) (by decide +kernel)
set_option maxRecDepth 20000 in
theorem gX5_tie_X5_digit : GoodIn wsX5_tie (va_wsS RX5 95 yX5_digit wsX5_digit) := goodIn_app (goodIn_of _ (by decide +kernel)) ggX5_tie_X5_digit
set_option maxRecDepth 20000 in
theorem ggX5_tie_X5_knots : GoodIn wsX5_tie wsX5_knots := goodIn_r _ [39] (by decide +kernel) (by decide +kernel)
set_option maxRecDepth 20000 in
theorem gX5_tie_X5_knots : GoodIn wsX5_tie (va_wsS RX5 63 yX5_knots wsX5_knots) := goodIn_app (goodIn_of _ (by decide +kernel)) ggX5_tie_X5_knots
set_option maxRecDepth 20000 in
theorem ggX5_tie_X5_isKind : GoodIn wsX5_tie wsX5_isKind := goodIn_r _ [60, 40, 41, 12, 42, 43, 44, 45] (by decide +kernel) (by decide +kernel)
set_option maxRecDepth 20000 in
theorem gX5_tie_X5_isKind : GoodIn wsX5_tie (wsV RX5 120 RX5 yX5_isKind wsX5_isKind) := goodIn_app (goodIn_of _ (by decide +kernel)) ggX5_tie_X5_isKind
set_option maxRecDepth 20000 in
theorem ggX5_tie_X5_isOpen : GoodIn wsX5_tie wsX5_isOpen := goodIn_r _ [64, 2, 28, 37, 38, 12, 39, 46, 47, 48, 40, 41, 42, 49, 50, 51, 65, 66, 67, 68, 69, 70, 71, 72, 73, 74, 75, 76, 77, 78, 79] (by decide +kernel) (by decide +kernel)
set_option maxRecDepth 20000 in
theorem gX5_tie_X5_isOpen : GoodIn wsX5_tie (wsV RX5 124 RX5 yX5_isOpen wsX5_isOpen) := goodIn_app (goodIn_of _ (by decide +kernel)) ggX5_tie_X5_isOpen
set_option maxRecDepth 20000 in
theorem ggX5_tie_X5_changed : GoodIn wsX5_tie wsX5_changed := goodIn_r _ [48, 37, 38, 12, 39, 40, 41, 42, 49, 50, 51] (by decide +kernel) (by decide +kernel)
set_option maxRecDepth 20000 in
theorem gX5_tie_X5_changed : GoodIn wsX5_tie (va_wsS RX5 105 yX5_changed wsX5_changed) := goodIn_app (goodIn_of _ (by decide +kernel)) ggX5_tie_X5_changed
theorem dX5_tie_0 : decode cX5_tie 0 = .ok (.aload_n 0, 1) := by decide +kernel
theorem dX5_tie_1 : decode cX5_tie 1 = .ok (.iload_n 1, 1) := by decide +kernel
theorem dX5_tie_2 : decode cX5_tie 2 = .ok (.invokevirtual 89, 3) := by decide +kernel
theorem dX5_tie_5 : decode cX5_tie 5 = .ok (.ifCond .ne 5, 3) := by decide +kernel
theorem dX5_tie_8 : decode cX5_tie 8 = .ok (.iconst 0, 1) := by decide +kernel
theorem dX5_tie_9 : decode cX5_tie 9 = .ok (.ireturn, 1) := by decide +kernel
theorem dX5_tie_10 : decode cX5_tie 10 = .ok (.aload_n 0, 1) := by decide +kernel
theorem dX5_tie_11 : decode cX5_tie 11 = .ok (.iload_n 1, 1) := by decide +kernel
theorem dX5_tie_12 : decode cX5_tie 12 = .ok (.invokevirtual 117, 3) := by decide +kernel
theorem dX5_tie_15 : decode cX5_tie 15 = .ok (.istore_n 2, 1) := by decide +kernel
theorem dX5_tie_16 : decode cX5_tie 16 = .ok (.iload_n 2, 1) := by decide +kernel
theorem dX5_tie_17 : decode cX5_tie 17 = .ok (.iconst (-1), 1) := by decide +kernel
theorem dX5_tie_18 : decode cX5_tie 18 = .ok (.if_icmp .eq 12, 3) := by decide +kernel
theorem dX5_tie_21 : decode cX5_tie 21 = .ok (.aload_n 0, 1) := by decide +kernel
theorem dX5_tie_22 : decode cX5_tie 22 = .ok (.getfield 52, 3) := by decide +kernel
theorem dX5_tie_25 : decode cX5_tie 25 = .ok (.bipush 8, 2) := by decide +kernel
theorem dX5_tie_27 : decode cX5_tie 27 = .ok (.if_icmp .ne 5, 3) := by decide +kernel
theorem dX5_tie_30 : decode cX5_tie 30 = .ok (.iconst (-1), 1) := by decide +kernel
theorem dX5_tie_31 : decode cX5_tie 31 = .ok (.ireturn, 1) := by decide +kernel
theorem dX5_tie_32 : decode cX5_tie 32 = .ok (.aload_n 0, 1) := by decide +kernel
theorem dX5_tie_33 : decode cX5_tie 33 = .ok (.getfield 22, 3) := by decide +kernel
theorem dX5_tie_36 : decode cX5_tie 36 = .ok (.iload_n 1, 1) := by decide +kernel
theorem dX5_tie_37 : decode cX5_tie 37 = .ok (.iaload, 1) := by decide +kernel
theorem dX5_tie_38 : decode cX5_tie 38 = .ok (.istore_n 3, 1) := by decide +kernel
theorem dX5_tie_39 : decode cX5_tie 39 = .ok (.aload_n 0, 1) := by decide +kernel
theorem dX5_tie_40 : decode cX5_tie 40 = .ok (.getfield 52, 3) := by decide +kernel
theorem dX5_tie_43 : decode cX5_tie 43 = .ok (.istore 4, 2) := by decide +kernel
theorem dX5_tie_45 : decode cX5_tie 45 = .ok (.aload_n 0, 1) := by decide +kernel
theorem dX5_tie_46 : decode cX5_tie 46 = .ok (.dup, 1) := by decide +kernel
theorem dX5_tie_47 : decode cX5_tie 47 = .ok (.getfield 52, 3) := by decide +kernel
theorem dX5_tie_50 : decode cX5_tie 50 = .ok (.iconst 1, 1) := by decide +kernel
theorem dX5_tie_51 : decode cX5_tie 51 = .ok (.iadd, 1) := by decide +kernel
theorem dX5_tie_52 : decode cX5_tie 52 = .ok (.putfield 52, 3) := by decide +kernel
theorem dX5_tie_55 : decode cX5_tie 55 = .ok (.aload_n 0, 1) := by decide +kernel
theorem dX5_tie_56 : decode cX5_tie 56 = .ok (.getfield 7, 3) := by decide +kernel
theorem dX5_tie_59 : decode cX5_tie 59 = .ok (.iload 4, 2) := by decide +kernel
theorem dX5_tie_61 : decode cX5_tie 61 = .ok (.iload_n 3, 1) := by decide +kernel
theorem dX5_tie_62 : decode cX5_tie 62 = .ok (.iastore, 1) := by decide +kernel
theorem dX5_tie_63 : decode cX5_tie 63 = .ok (.aload_n 0, 1) := by decide +kernel
theorem dX5_tie_64 : decode cX5_tie 64 = .ok (.getfield 13, 3) := by decide +kernel
theorem dX5_tie_67 : decode cX5_tie 67 = .ok (.iload 4, 2) := by decide +kernel
theorem dX5_tie_69 : decode cX5_tie 69 = .ok (.aload_n 0, 1) := by decide +kernel
theorem dX5_tie_70 : decode cX5_tie 70 = .ok (.getfield 25, 3) := by decide +kernel
theorem dX5_tie_73 : decode cX5_tie 73 = .ok (.iload_n 1, 1) := by decide +kernel
theorem dX5_tie_74 : decode cX5_tie 74 = .ok (.iaload, 1) := by decide +kernel
theorem dX5_tie_75 : decode cX5_tie 75 = .ok (.iastore, 1) := by decide +kernel
theorem dX5_tie_76 : decode cX5_tie 76 = .ok (.iconst 0, 1) := by decide +kernel
theorem dX5_tie_77 : decode cX5_tie 77 = .ok (.istore 5, 2) := by decide +kernel
theorem dX5_tie_79 : decode cX5_tie 79 = .ok (.iload 5, 2) := by decide +kernel
theorem dX5_tie_81 : decode cX5_tie 81 = .ok (.iload_n 3, 1) := by decide +kernel
theorem dX5_tie_82 : decode cX5_tie 82 = .ok (.if_icmp .ge 29, 3) := by decide +kernel
theorem dX5_tie_85 : decode cX5_tie 85 = .ok (.aload_n 0, 1) := by decide +kernel
theorem dX5_tie_86 : decode cX5_tie 86 = .ok (.getfield 16, 3) := by decide +kernel
theorem dX5_tie_89 : decode cX5_tie 89 = .ok (.bipush 6, 2) := by decide +kernel
theorem dX5_tie_91 : decode cX5_tie 91 = .ok (.iload 4, 2) := by decide +kernel
theorem dX5_tie_93 : decode cX5_tie 93 = .ok (.imul, 1) := by decide +kernel
theorem dX5_tie_94 : decode cX5_tie 94 = .ok (.iload 5, 2) := by decide +kernel
theorem dX5_tie_96 : decode cX5_tie 96 = .ok (.iadd, 1) := by decide +kernel
theorem dX5_tie_97 : decode cX5_tie 97 = .ok (.iload_n 3, 1) := by decide +kernel
theorem dX5_tie_98 : decode cX5_tie 98 = .ok (.iload_n 2, 1) := by decide +kernel
theorem dX5_tie_99 : decode cX5_tie 99 = .ok (.iload 5, 2) := by decide +kernel
theorem dX5_tie_101 : decode cX5_tie 101 = .ok (.invokestatic 95, 3) := by decide +kernel
theorem dX5_tie_104 : decode cX5_tie 104 = .ok (.iastore, 1) := by decide +kernel
theorem dX5_tie_105 : decode cX5_tie 105 = .ok (.iinc 5 1, 3) := by decide +kernel
theorem dX5_tie_108 : decode cX5_tie 108 = .ok (.goto (-29), 3) := by decide +kernel
theorem dX5_tie_111 : decode cX5_tie 111 = .ok (.iconst 0, 1) := by decide +kernel
theorem dX5_tie_112 : decode cX5_tie 112 = .ok (.istore 5, 2) := by decide +kernel
theorem dX5_tie_114 : decode cX5_tie 114 = .ok (.iload 5, 2) := by decide +kernel
theorem dX5_tie_116 : decode cX5_tie 116 = .ok (.aload_n 0, 1) := by decide +kernel
theorem dX5_tie_117 : decode cX5_tie 117 = .ok (.getfield 25, 3) := by decide +kernel
theorem dX5_tie_120 : decode cX5_tie 120 = .ok (.iload_n 1, 1) := by decide +kernel
theorem dX5_tie_121 : decode cX5_tie 121 = .ok (.iaload, 1) := by decide +kernel
theorem dX5_tie_122 : decode cX5_tie 122 = .ok (.if_icmp .ge 155, 3) := by decide +kernel
theorem dX5_tie_125 : decode cX5_tie 125 = .ok (.iconst 0, 1) := by decide +kernel
theorem dX5_tie_126 : decode cX5_tie 126 = .ok (.istore 6, 2) := by decide +kernel
theorem dX5_tie_128 : decode cX5_tie 128 = .ok (.iconst 0, 1) := by decide +kernel
theorem dX5_tie_129 : decode cX5_tie 129 = .ok (.istore 7, 2) := by decide +kernel
theorem dX5_tie_131 : decode cX5_tie 131 = .ok (.iload 7, 2) := by decide +kernel
theorem dX5_tie_133 : decode cX5_tie 133 = .ok (.iload_n 3, 1) := by decide +kernel
theorem dX5_tie_134 : decode cX5_tie 134 = .ok (.iload 5, 2) := by decide +kernel
theorem dX5_tie_136 : decode cX5_tie 136 = .ok (.invokestatic 63, 3) := by decide +kernel
theorem dX5_tie_139 : decode cX5_tie 139 = .ok (.if_icmp .ge 122, 3) := by decide +kernel
theorem dX5_tie_142 : decode cX5_tie 142 = .ok (.aload_n 0, 1) := by decide +kernel
theorem dX5_tie_143 : decode cX5_tie 143 = .ok (.getfield 28, 3) := by decide +kernel
theorem dX5_tie_146 : decode cX5_tie 146 = .ok (.bipush 48, 2) := by decide +kernel
theorem dX5_tie_148 : decode cX5_tie 148 = .ok (.iload_n 1, 1) := by decide +kernel
theorem dX5_tie_149 : decode cX5_tie 149 = .ok (.imul, 1) := by decide +kernel
theorem dX5_tie_150 : decode cX5_tie 150 = .ok (.iconst 3, 1) := by decide +kernel
theorem dX5_tie_151 : decode cX5_tie 151 = .ok (.iload 5, 2) := by decide +kernel
theorem dX5_tie_153 : decode cX5_tie 153 = .ok (.imul, 1) := by decide +kernel
theorem dX5_tie_154 : decode cX5_tie 154 = .ok (.iadd, 1) := by decide +kernel
theorem dX5_tie_155 : decode cX5_tie 155 = .ok (.iload 7, 2) := by decide +kernel
theorem dX5_tie_157 : decode cX5_tie 157 = .ok (.iadd, 1) := by decide +kernel
theorem dX5_tie_158 : decode cX5_tie 158 = .ok (.iaload, 1) := by decide +kernel
theorem dX5_tie_159 : decode cX5_tie 159 = .ok (.istore 8, 2) := by decide +kernel
theorem dX5_tie_161 : decode cX5_tie 161 = .ok (.iconst 0, 1) := by decide +kernel
theorem dX5_tie_162 : decode cX5_tie 162 = .ok (.istore 9, 2) := by decide +kernel
theorem dX5_tie_164 : decode cX5_tie 164 = .ok (.aload_n 0, 1) := by decide +kernel
theorem dX5_tie_165 : decode cX5_tie 165 = .ok (.iload_n 3, 1) := by decide +kernel
theorem dX5_tie_166 : decode cX5_tie 166 = .ok (.iload 5, 2) := by decide +kernel
theorem dX5_tie_168 : decode cX5_tie 168 = .ok (.iload 7, 2) := by decide +kernel
theorem dX5_tie_170 : decode cX5_tie 170 = .ok (.iload_n 2, 1) := by decide +kernel
theorem dX5_tie_171 : decode cX5_tie 171 = .ok (.iload 8, 2) := by decide +kernel
theorem dX5_tie_173 : decode cX5_tie 173 = .ok (.iload 9, 2) := by decide +kernel
theorem dX5_tie_175 : decode cX5_tie 175 = .ok (.invokevirtual 120, 3) := by decide +kernel
theorem dX5_tie_178 : decode cX5_tie 178 = .ok (.ifCond .eq 36, 3) := by decide +kernel
theorem dX5_tie_181 : decode cX5_tie 181 = .ok (.aload_n 0, 1) := by decide +kernel
theorem dX5_tie_182 : decode cX5_tie 182 = .ok (.iload_n 1, 1) := by decide +kernel
theorem dX5_tie_183 : decode cX5_tie 183 = .ok (.iload 5, 2) := by decide +kernel
theorem dX5_tie_185 : decode cX5_tie 185 = .ok (.iload_n 2, 1) := by decide +kernel
theorem dX5_tie_186 : decode cX5_tie 186 = .ok (.iload 7, 2) := by decide +kernel
theorem dX5_tie_188 : decode cX5_tie 188 = .ok (.iconst 1, 1) := by decide +kernel
theorem dX5_tie_189 : decode cX5_tie 189 = .ok (.iadd, 1) := by decide +kernel
theorem dX5_tie_190 : decode cX5_tie 190 = .ok (.iload 9, 2) := by decide +kernel
theorem dX5_tie_192 : decode cX5_tie 192 = .ok (.iconst 2, 1) := by decide +kernel
theorem dX5_tie_193 : decode cX5_tie 193 = .ok (.if_icmp .ge 13, 3) := by decide +kernel
theorem dX5_tie_196 : decode cX5_tie 196 = .ok (.iload 6, 2) := by decide +kernel
theorem dX5_tie_198 : decode cX5_tie 198 = .ok (.iconst 1, 1) := by decide +kernel
theorem dX5_tie_199 : decode cX5_tie 199 = .ok (.iload 7, 2) := by decide +kernel
theorem dX5_tie_201 : decode cX5_tie 201 = .ok (.ishl, 1) := by decide +kernel
theorem dX5_tie_202 : decode cX5_tie 202 = .ok (.ior, 1) := by decide +kernel
theorem dX5_tie_203 : decode cX5_tie 203 = .ok (.goto 5, 3) := by decide +kernel
theorem dX5_tie_206 : decode cX5_tie 206 = .ok (.iload 6, 2) := by decide +kernel
theorem dX5_tie_208 : decode cX5_tie 208 = .ok (.invokevirtual 124, 3) := by decide +kernel
theorem dX5_tie_211 : decode cX5_tie 211 = .ok (.ifCond .ne 9, 3) := by decide +kernel
theorem dX5_tie_214 : decode cX5_tie 214 = .ok (.iinc 9 1, 3) := by decide +kernel
theorem dX5_tie_217 : decode cX5_tie 217 = .ok (.goto (-53), 3) := by decide +kernel
theorem dX5_tie_220 : decode cX5_tie 220 = .ok (.aload_n 0, 1) := by decide +kernel
theorem dX5_tie_221 : decode cX5_tie 221 = .ok (.getfield 19, 3) := by decide +kernel
theorem dX5_tie_224 : decode cX5_tie 224 = .ok (.bipush 48, 2) := by decide +kernel
theorem dX5_tie_226 : decode cX5_tie 226 = .ok (.iload 4, 2) := by decide +kernel
theorem dX5_tie_228 : decode cX5_tie 228 = .ok (.imul, 1) := by decide +kernel
theorem dX5_tie_229 : decode cX5_tie 229 = .ok (.iconst 3, 1) := by decide +kernel
theorem dX5_tie_230 : decode cX5_tie 230 = .ok (.iload 5, 2) := by decide +kernel
theorem dX5_tie_232 : decode cX5_tie 232 = .ok (.imul, 1) := by decide +kernel
theorem dX5_tie_233 : decode cX5_tie 233 = .ok (.iadd, 1) := by decide +kernel
theorem dX5_tie_234 : decode cX5_tie 234 = .ok (.iload 7, 2) := by decide +kernel
theorem dX5_tie_236 : decode cX5_tie 236 = .ok (.iadd, 1) := by decide +kernel
theorem dX5_tie_237 : decode cX5_tie 237 = .ok (.iload 9, 2) := by decide +kernel
theorem dX5_tie_239 : decode cX5_tie 239 = .ok (.iastore, 1) := by decide +kernel
theorem dX5_tie_240 : decode cX5_tie 240 = .ok (.iload 9, 2) := by decide +kernel
theorem dX5_tie_242 : decode cX5_tie 242 = .ok (.iconst 2, 1) := by decide +kernel
theorem dX5_tie_243 : decode cX5_tie 243 = .ok (.if_icmp .ge 12, 3) := by decide +kernel
theorem dX5_tie_246 : decode cX5_tie 246 = .ok (.iload 6, 2) := by decide +kernel
theorem dX5_tie_248 : decode cX5_tie 248 = .ok (.iconst 1, 1) := by decide +kernel
theorem dX5_tie_249 : decode cX5_tie 249 = .ok (.iload 7, 2) := by decide +kernel
theorem dX5_tie_251 : decode cX5_tie 251 = .ok (.ishl, 1) := by decide +kernel
theorem dX5_tie_252 : decode cX5_tie 252 = .ok (.ior, 1) := by decide +kernel
theorem dX5_tie_253 : decode cX5_tie 253 = .ok (.istore 6, 2) := by decide +kernel
theorem dX5_tie_255 : decode cX5_tie 255 = .ok (.iinc 7 1, 3) := by decide +kernel
theorem dX5_tie_258 : decode cX5_tie 258 = .ok (.goto (-127), 3) := by decide +kernel
theorem dX5_tie_261 : decode cX5_tie 261 = .ok (.iload_n 3, 1) := by decide +kernel
theorem dX5_tie_262 : decode cX5_tie 262 = .ok (.iload 5, 2) := by decide +kernel
theorem dX5_tie_264 : decode cX5_tie 264 = .ok (.iload_n 2, 1) := by decide +kernel
theorem dX5_tie_265 : decode cX5_tie 265 = .ok (.iload 6, 2) := by decide +kernel
theorem dX5_tie_267 : decode cX5_tie 267 = .ok (.invokestatic 105, 3) := by decide +kernel
theorem dX5_tie_270 : decode cX5_tie 270 = .ok (.istore_n 2, 1) := by decide +kernel
theorem dX5_tie_271 : decode cX5_tie 271 = .ok (.iinc 5 1, 3) := by decide +kernel
theorem dX5_tie_274 : decode cX5_tie 274 = .ok (.goto (-160), 3) := by decide +kernel
theorem dX5_tie_277 : decode cX5_tie 277 = .ok (.iload 4, 2) := by decide +kernel
theorem dX5_tie_279 : decode cX5_tie 279 = .ok (.ireturn, 1) := by decide +kernel
set_option maxRecDepth 20000 in
theorem ggX5_isKind_X5_left : GoodIn wsX5_isKind wsX5_left := goodIn_r _ [4] (by decide +kernel) (by decide +kernel)
set_option maxRecDepth 20000 in
theorem gX5_isKind_X5_left : GoodIn wsX5_isKind (va_wsS RX5 71 yX5_left wsX5_left) := goodIn_app (goodIn_of _ (by decide +kernel)) ggX5_isKind_X5_left
set_option maxRecDepth 20000 in
theorem ggX5_isKind_X5_digit : GoodIn wsX5_isKind wsX5_digit := goodIn_r _ [7] (by decide +kernel) (by decide +kernel)
set_option maxRecDepth 20000 in
theorem gX5_isKind_X5_digit : GoodIn wsX5_isKind (va_wsS RX5 95 yX5_digit wsX5_digit) := goodIn_app (goodIn_of _ (by decide +kernel)) ggX5_isKind_X5_digit
theorem dX5_isKind_0 : decode cX5_isKind 0 = .ok (.iload 5, 2) := by decide +kernel
theorem dX5_isKind_2 : decode cX5_isKind 2 = .ok (.iconst 4, 1) := by decide +kernel
theorem dX5_isKind_3 : decode cX5_isKind 3 = .ok (.if_icmp .eq 24, 3) := by decide +kernel
theorem dX5_isKind_6 : decode cX5_isKind 6 = .ok (.iload_n 1, 1) := by decide +kernel
theorem dX5_isKind_7 : decode cX5_isKind 7 = .ok (.iload 4, 2) := by decide +kernel
theorem dX5_isKind_9 : decode cX5_isKind 9 = .ok (.iload_n 2, 1) := by decide +kernel
theorem dX5_isKind_10 : decode cX5_isKind 10 = .ok (.iload_n 3, 1) := by decide +kernel
theorem dX5_isKind_11 : decode cX5_isKind 11 = .ok (.invokestatic 71, 3) := by decide +kernel
theorem dX5_isKind_14 : decode cX5_isKind 14 = .ok (.iload 6, 2) := by decide +kernel
theorem dX5_isKind_16 : decode cX5_isKind 16 = .ok (.iconst 2, 1) := by decide +kernel
theorem dX5_isKind_17 : decode cX5_isKind 17 = .ok (.irem, 1) := by decide +kernel
theorem dX5_isKind_18 : decode cX5_isKind 18 = .ok (.iadd, 1) := by decide +kernel
theorem dX5_isKind_19 : decode cX5_isKind 19 = .ok (.invokestatic 95, 3) := by decide +kernel
theorem dX5_isKind_22 : decode cX5_isKind 22 = .ok (.iload 5, 2) := by decide +kernel
theorem dX5_isKind_24 : decode cX5_isKind 24 = .ok (.if_icmp .ne 7, 3) := by decide +kernel
theorem dX5_isKind_27 : decode cX5_isKind 27 = .ok (.iconst 1, 1) := by decide +kernel
theorem dX5_isKind_28 : decode cX5_isKind 28 = .ok (.goto 4, 3) := by decide +kernel
theorem dX5_isKind_31 : decode cX5_isKind 31 = .ok (.iconst 0, 1) := by decide +kernel
theorem dX5_isKind_32 : decode cX5_isKind 32 = .ok (.ireturn, 1) := by decide +kernel
set_option maxRecDepth 20000 in
theorem ggX5_suspect_X5_isPicture : GoodIn wsX5_suspect wsX5_isPicture := goodIn_r _ [8, 9, 10, 11, 12, 13, 7, 14, 52, 53, 54, 55, 56, 57, 58, 59, 60, 61, 62, 63, 64, 65, 66] (by decide +kernel) (by decide +kernel)
set_option maxRecDepth 20000 in
theorem gX5_suspect_X5_isPicture : GoodIn wsX5_suspect (wsV RX5 89 RX5 yX5_isPicture wsX5_isPicture) := goodIn_app (goodIn_of _ (by decide +kernel)) ggX5_suspect_X5_isPicture
set_option maxRecDepth 20000 in
theorem ggX5_suspect_X5_first : GoodIn wsX5_suspect wsX5_first := goodIn_r _ [18, 19, 20, 21, 7, 22, 2, 23, 1, 24, 25, 26, 27, 28, 29, 30, 31, 3, 32, 33, 34, 35, 36, 37, 38, 39, 40, 41, 42, 43, 44, 45, 46, 47, 48, 49, 50, 51, 52, 53, 54, 55, 56, 57, 58, 59, 60, 61, 62, 63, 64, 65, 66] (by decide +kernel) (by decide +kernel)
set_option maxRecDepth 20000 in
theorem gX5_suspect_X5_first : GoodIn wsX5_suspect (wsV RX5 117 RX5 yX5_first wsX5_first) := goodIn_app (goodIn_of _ (by decide +kernel)) ggX5_suspect_X5_first
set_option maxRecDepth 20000 in
theorem ggX5_suspect_X5_knots : GoodIn wsX5_suspect wsX5_knots := goodIn_r _ [34] (by decide +kernel) (by decide +kernel)
set_option maxRecDepth 20000 in
theorem gX5_suspect_X5_knots : GoodIn wsX5_suspect (va_wsS RX5 63 yX5_knots wsX5_knots) := goodIn_app (goodIn_of _ (by decide +kernel)) ggX5_suspect_X5_knots
set_option maxRecDepth 20000 in
theorem ggX5_suspect_X5_right : GoodIn wsX5_suspect wsX5_right := goodIn_r _ [14, 9, 52, 53, 54, 55, 56, 57, 58, 59, 60, 61, 62, 63, 64, 65, 66] (by decide +kernel) (by decide +kernel)
set_option maxRecDepth 20000 in
theorem gX5_suspect_X5_right : GoodIn wsX5_suspect (wsV RX5 55 RX5 yX5_right wsX5_right) := goodIn_app (goodIn_of _ (by decide +kernel)) ggX5_suspect_X5_right
theorem dX5_suspect_0 : decode cX5_suspect 0 = .ok (.aload_n 0, 1) := by decide +kernel
theorem dX5_suspect_1 : decode cX5_suspect 1 = .ok (.iload_n 1, 1) := by decide +kernel
theorem dX5_suspect_2 : decode cX5_suspect 2 = .ok (.invokevirtual 89, 3) := by decide +kernel
theorem dX5_suspect_5 : decode cX5_suspect 5 = .ok (.ifCond .ne 5, 3) := by decide +kernel
theorem dX5_suspect_8 : decode cX5_suspect 8 = .ok (.iconst 0, 1) := by decide +kernel
theorem dX5_suspect_9 : decode cX5_suspect 9 = .ok (.ireturn, 1) := by decide +kernel
theorem dX5_suspect_10 : decode cX5_suspect 10 = .ok (.iconst (-1), 1) := by decide +kernel
theorem dX5_suspect_11 : decode cX5_suspect 11 = .ok (.istore_n 3, 1) := by decide +kernel
theorem dX5_suspect_12 : decode cX5_suspect 12 = .ok (.iconst 0, 1) := by decide +kernel
theorem dX5_suspect_13 : decode cX5_suspect 13 = .ok (.istore 4, 2) := by decide +kernel
theorem dX5_suspect_15 : decode cX5_suspect 15 = .ok (.aload_n 0, 1) := by decide +kernel
theorem dX5_suspect_16 : decode cX5_suspect 16 = .ok (.iload_n 1, 1) := by decide +kernel
theorem dX5_suspect_17 : decode cX5_suspect 17 = .ok (.invokevirtual 117, 3) := by decide +kernel
theorem dX5_suspect_20 : decode cX5_suspect 20 = .ok (.iconst (-1), 1) := by decide +kernel
theorem dX5_suspect_21 : decode cX5_suspect 21 = .ok (.if_icmp .ne 7, 3) := by decide +kernel
theorem dX5_suspect_24 : decode cX5_suspect 24 = .ok (.iconst 1, 1) := by decide +kernel
theorem dX5_suspect_25 : decode cX5_suspect 25 = .ok (.goto 4, 3) := by decide +kernel
theorem dX5_suspect_28 : decode cX5_suspect 28 = .ok (.iconst 0, 1) := by decide +kernel
theorem dX5_suspect_29 : decode cX5_suspect 29 = .ok (.istore 5, 2) := by decide +kernel
theorem dX5_suspect_31 : decode cX5_suspect 31 = .ok (.iconst 0, 1) := by decide +kernel
theorem dX5_suspect_32 : decode cX5_suspect 32 = .ok (.istore 6, 2) := by decide +kernel
theorem dX5_suspect_34 : decode cX5_suspect 34 = .ok (.iload 6, 2) := by decide +kernel
theorem dX5_suspect_36 : decode cX5_suspect 36 = .ok (.aload_n 0, 1) := by decide +kernel
theorem dX5_suspect_37 : decode cX5_suspect 37 = .ok (.getfield 25, 3) := by decide +kernel
theorem dX5_suspect_40 : decode cX5_suspect 40 = .ok (.iload_n 1, 1) := by decide +kernel
theorem dX5_suspect_41 : decode cX5_suspect 41 = .ok (.iaload, 1) := by decide +kernel
theorem dX5_suspect_42 : decode cX5_suspect 42 = .ok (.if_icmp .ge 146, 3) := by decide +kernel
theorem dX5_suspect_45 : decode cX5_suspect 45 = .ok (.iload 5, 2) := by decide +kernel
theorem dX5_suspect_47 : decode cX5_suspect 47 = .ok (.ifCond .eq 141, 3) := by decide +kernel
theorem dX5_suspect_50 : decode cX5_suspect 50 = .ok (.iconst 0, 1) := by decide +kernel
theorem dX5_suspect_51 : decode cX5_suspect 51 = .ok (.istore 7, 2) := by decide +kernel
theorem dX5_suspect_53 : decode cX5_suspect 53 = .ok (.iload 7, 2) := by decide +kernel
theorem dX5_suspect_55 : decode cX5_suspect 55 = .ok (.aload_n 0, 1) := by decide +kernel
theorem dX5_suspect_56 : decode cX5_suspect 56 = .ok (.getfield 22, 3) := by decide +kernel
theorem dX5_suspect_59 : decode cX5_suspect 59 = .ok (.iload_n 1, 1) := by decide +kernel
theorem dX5_suspect_60 : decode cX5_suspect 60 = .ok (.iaload, 1) := by decide +kernel
theorem dX5_suspect_61 : decode cX5_suspect 61 = .ok (.iload 6, 2) := by decide +kernel
theorem dX5_suspect_63 : decode cX5_suspect 63 = .ok (.invokestatic 63, 3) := by decide +kernel
theorem dX5_suspect_66 : decode cX5_suspect 66 = .ok (.if_icmp .ge 116, 3) := by decide +kernel
theorem dX5_suspect_69 : decode cX5_suspect 69 = .ok (.aload_n 0, 1) := by decide +kernel
theorem dX5_suspect_70 : decode cX5_suspect 70 = .ok (.getfield 28, 3) := by decide +kernel
theorem dX5_suspect_73 : decode cX5_suspect 73 = .ok (.bipush 48, 2) := by decide +kernel
theorem dX5_suspect_75 : decode cX5_suspect 75 = .ok (.iload_n 1, 1) := by decide +kernel
theorem dX5_suspect_76 : decode cX5_suspect 76 = .ok (.imul, 1) := by decide +kernel
theorem dX5_suspect_77 : decode cX5_suspect 77 = .ok (.iconst 3, 1) := by decide +kernel
theorem dX5_suspect_78 : decode cX5_suspect 78 = .ok (.iload 6, 2) := by decide +kernel
theorem dX5_suspect_80 : decode cX5_suspect 80 = .ok (.imul, 1) := by decide +kernel
theorem dX5_suspect_81 : decode cX5_suspect 81 = .ok (.iadd, 1) := by decide +kernel
theorem dX5_suspect_82 : decode cX5_suspect 82 = .ok (.iload 7, 2) := by decide +kernel
theorem dX5_suspect_84 : decode cX5_suspect 84 = .ok (.iadd, 1) := by decide +kernel
theorem dX5_suspect_85 : decode cX5_suspect 85 = .ok (.iaload, 1) := by decide +kernel
theorem dX5_suspect_86 : decode cX5_suspect 86 = .ok (.istore 8, 2) := by decide +kernel
theorem dX5_suspect_88 : decode cX5_suspect 88 = .ok (.iload 8, 2) := by decide +kernel
theorem dX5_suspect_90 : decode cX5_suspect 90 = .ok (.iconst 4, 1) := by decide +kernel
theorem dX5_suspect_91 : decode cX5_suspect 91 = .ok (.if_icmp .ne 6, 3) := by decide +kernel
theorem dX5_suspect_94 : decode cX5_suspect 94 = .ok (.goto 82, 3) := by decide +kernel
theorem dX5_suspect_97 : decode cX5_suspect 97 = .ok (.aload_n 0, 1) := by decide +kernel
theorem dX5_suspect_98 : decode cX5_suspect 98 = .ok (.getfield 28, 3) := by decide +kernel
theorem dX5_suspect_101 : decode cX5_suspect 101 = .ok (.bipush 48, 2) := by decide +kernel
theorem dX5_suspect_103 : decode cX5_suspect 103 = .ok (.iload_n 1, 1) := by decide +kernel
theorem dX5_suspect_104 : decode cX5_suspect 104 = .ok (.imul, 1) := by decide +kernel
theorem dX5_suspect_105 : decode cX5_suspect 105 = .ok (.iconst 3, 1) := by decide +kernel
theorem dX5_suspect_106 : decode cX5_suspect 106 = .ok (.iload 6, 2) := by decide +kernel
theorem dX5_suspect_108 : decode cX5_suspect 108 = .ok (.imul, 1) := by decide +kernel
theorem dX5_suspect_109 : decode cX5_suspect 109 = .ok (.iadd, 1) := by decide +kernel
theorem dX5_suspect_110 : decode cX5_suspect 110 = .ok (.iload 7, 2) := by decide +kernel
theorem dX5_suspect_112 : decode cX5_suspect 112 = .ok (.iadd, 1) := by decide +kernel
theorem dX5_suspect_113 : decode cX5_suspect 113 = .ok (.iconst 4, 1) := by decide +kernel
theorem dX5_suspect_114 : decode cX5_suspect 114 = .ok (.iastore, 1) := by decide +kernel
theorem dX5_suspect_115 : decode cX5_suspect 115 = .ok (.aload_n 0, 1) := by decide +kernel
theorem dX5_suspect_116 : decode cX5_suspect 116 = .ok (.iload_n 1, 1) := by decide +kernel
theorem dX5_suspect_117 : decode cX5_suspect 117 = .ok (.invokevirtual 117, 3) := by decide +kernel
theorem dX5_suspect_120 : decode cX5_suspect 120 = .ok (.iconst (-1), 1) := by decide +kernel
theorem dX5_suspect_121 : decode cX5_suspect 121 = .ok (.if_icmp .eq 7, 3) := by decide +kernel
theorem dX5_suspect_124 : decode cX5_suspect 124 = .ok (.iconst 1, 1) := by decide +kernel
theorem dX5_suspect_125 : decode cX5_suspect 125 = .ok (.goto 4, 3) := by decide +kernel
theorem dX5_suspect_128 : decode cX5_suspect 128 = .ok (.iconst 0, 1) := by decide +kernel
theorem dX5_suspect_129 : decode cX5_suspect 129 = .ok (.istore 9, 2) := by decide +kernel
theorem dX5_suspect_131 : decode cX5_suspect 131 = .ok (.aload_n 0, 1) := by decide +kernel
theorem dX5_suspect_132 : decode cX5_suspect 132 = .ok (.getfield 28, 3) := by decide +kernel
theorem dX5_suspect_135 : decode cX5_suspect 135 = .ok (.bipush 48, 2) := by decide +kernel
theorem dX5_suspect_137 : decode cX5_suspect 137 = .ok (.iload_n 1, 1) := by decide +kernel
theorem dX5_suspect_138 : decode cX5_suspect 138 = .ok (.imul, 1) := by decide +kernel
theorem dX5_suspect_139 : decode cX5_suspect 139 = .ok (.iconst 3, 1) := by decide +kernel
theorem dX5_suspect_140 : decode cX5_suspect 140 = .ok (.iload 6, 2) := by decide +kernel
theorem dX5_suspect_142 : decode cX5_suspect 142 = .ok (.imul, 1) := by decide +kernel
theorem dX5_suspect_143 : decode cX5_suspect 143 = .ok (.iadd, 1) := by decide +kernel
theorem dX5_suspect_144 : decode cX5_suspect 144 = .ok (.iload 7, 2) := by decide +kernel
theorem dX5_suspect_146 : decode cX5_suspect 146 = .ok (.iadd, 1) := by decide +kernel
theorem dX5_suspect_147 : decode cX5_suspect 147 = .ok (.iload 8, 2) := by decide +kernel
theorem dX5_suspect_149 : decode cX5_suspect 149 = .ok (.iastore, 1) := by decide +kernel
theorem dX5_suspect_150 : decode cX5_suspect 150 = .ok (.iload 9, 2) := by decide +kernel
theorem dX5_suspect_152 : decode cX5_suspect 152 = .ok (.ifCond .ne 6, 3) := by decide +kernel
theorem dX5_suspect_155 : decode cX5_suspect 155 = .ok (.goto 21, 3) := by decide +kernel
theorem dX5_suspect_158 : decode cX5_suspect 158 = .ok (.iload 4, 2) := by decide +kernel
theorem dX5_suspect_160 : decode cX5_suspect 160 = .ok (.iload_n 2, 1) := by decide +kernel
theorem dX5_suspect_161 : decode cX5_suspect 161 = .ok (.if_icmp .ne 12, 3) := by decide +kernel
theorem dX5_suspect_164 : decode cX5_suspect 164 = .ok (.bipush 8, 2) := by decide +kernel
theorem dX5_suspect_166 : decode cX5_suspect 166 = .ok (.iload 6, 2) := by decide +kernel
theorem dX5_suspect_168 : decode cX5_suspect 168 = .ok (.imul, 1) := by decide +kernel
theorem dX5_suspect_169 : decode cX5_suspect 169 = .ok (.iload 7, 2) := by decide +kernel
theorem dX5_suspect_171 : decode cX5_suspect 171 = .ok (.iadd, 1) := by decide +kernel
theorem dX5_suspect_172 : decode cX5_suspect 172 = .ok (.istore_n 3, 1) := by decide +kernel
theorem dX5_suspect_173 : decode cX5_suspect 173 = .ok (.iinc 4 1, 3) := by decide +kernel
theorem dX5_suspect_176 : decode cX5_suspect 176 = .ok (.iinc 7 1, 3) := by decide +kernel
theorem dX5_suspect_179 : decode cX5_suspect 179 = .ok (.goto (-126), 3) := by decide +kernel
theorem dX5_suspect_182 : decode cX5_suspect 182 = .ok (.iinc 6 1, 3) := by decide +kernel
theorem dX5_suspect_185 : decode cX5_suspect 185 = .ok (.goto (-151), 3) := by decide +kernel
theorem dX5_suspect_188 : decode cX5_suspect 188 = .ok (.aload_n 0, 1) := by decide +kernel
theorem dX5_suspect_189 : decode cX5_suspect 189 = .ok (.iload_n 2, 1) := by decide +kernel
theorem dX5_suspect_190 : decode cX5_suspect 190 = .ok (.iconst (-1), 1) := by decide +kernel
theorem dX5_suspect_191 : decode cX5_suspect 191 = .ok (.if_icmp .lt 13, 3) := by decide +kernel
theorem dX5_suspect_194 : decode cX5_suspect 194 = .ok (.iload_n 2, 1) := by decide +kernel
theorem dX5_suspect_195 : decode cX5_suspect 195 = .ok (.iload 4, 2) := by decide +kernel
theorem dX5_suspect_197 : decode cX5_suspect 197 = .ok (.if_icmp .ge 7, 3) := by decide +kernel
theorem dX5_suspect_200 : decode cX5_suspect 200 = .ok (.iconst 1, 1) := by decide +kernel
theorem dX5_suspect_201 : decode cX5_suspect 201 = .ok (.goto 4, 3) := by decide +kernel
theorem dX5_suspect_204 : decode cX5_suspect 204 = .ok (.iconst 0, 1) := by decide +kernel
theorem dX5_suspect_205 : decode cX5_suspect 205 = .ok (.iconst 1, 1) := by decide +kernel
theorem dX5_suspect_206 : decode cX5_suspect 206 = .ok (.invokevirtual 55, 3) := by decide +kernel
theorem dX5_suspect_209 : decode cX5_suspect 209 = .ok (.ifCond .ne 5, 3) := by decide +kernel
theorem dX5_suspect_212 : decode cX5_suspect 212 = .ok (.iconst 0, 1) := by decide +kernel
theorem dX5_suspect_213 : decode cX5_suspect 213 = .ok (.ireturn, 1) := by decide +kernel
theorem dX5_suspect_214 : decode cX5_suspect 214 = .ok (.iload_n 2, 1) := by decide +kernel
theorem dX5_suspect_215 : decode cX5_suspect 215 = .ok (.iconst (-1), 1) := by decide +kernel
theorem dX5_suspect_216 : decode cX5_suspect 216 = .ok (.if_icmp .ne 8, 3) := by decide +kernel
theorem dX5_suspect_219 : decode cX5_suspect 219 = .ok (.iload 4, 2) := by decide +kernel
theorem dX5_suspect_221 : decode cX5_suspect 221 = .ok (.goto 4, 3) := by decide +kernel
theorem dX5_suspect_224 : decode cX5_suspect 224 = .ok (.iload_n 3, 1) := by decide +kernel
theorem dX5_suspect_225 : decode cX5_suspect 225 = .ok (.ireturn, 1) := by decide +kernel
set_option maxRecDepth 20000 in
theorem ggX5_count_X5_right : GoodIn wsX5_count wsX5_right := goodIn_r _ [8, 1, 9, 10, 11, 12, 13, 14, 15, 16, 17, 18, 19, 20, 21, 22, 23] (by decide +kernel) (by decide +kernel)
set_option maxRecDepth 20000 in
theorem gX5_count_X5_right : GoodIn wsX5_count (wsV RX5 55 RX5 yX5_right wsX5_right) := goodIn_app (goodIn_of _ (by decide +kernel)) ggX5_count_X5_right
theorem dX5_count_0 : decode cX5_count 0 = .ok (.aload_n 0, 1) := by decide +kernel
theorem dX5_count_1 : decode cX5_count 1 = .ok (.iconst 0, 1) := by decide +kernel
theorem dX5_count_2 : decode cX5_count 2 = .ok (.putfield 48, 3) := by decide +kernel
theorem dX5_count_5 : decode cX5_count 5 = .ok (.aload_n 0, 1) := by decide +kernel
theorem dX5_count_6 : decode cX5_count 6 = .ok (.iload_n 1, 1) := by decide +kernel
theorem dX5_count_7 : decode cX5_count 7 = .ok (.ifCond .eq 8, 3) := by decide +kernel
theorem dX5_count_10 : decode cX5_count 10 = .ok (.iload_n 1, 1) := by decide +kernel
theorem dX5_count_11 : decode cX5_count 11 = .ok (.iconst 1, 1) := by decide +kernel
theorem dX5_count_12 : decode cX5_count 12 = .ok (.if_icmp .ne 7, 3) := by decide +kernel
theorem dX5_count_15 : decode cX5_count 15 = .ok (.iconst 1, 1) := by decide +kernel
theorem dX5_count_16 : decode cX5_count 16 = .ok (.goto 4, 3) := by decide +kernel
theorem dX5_count_19 : decode cX5_count 19 = .ok (.iconst 0, 1) := by decide +kernel
theorem dX5_count_20 : decode cX5_count 20 = .ok (.iconst 1, 1) := by decide +kernel
theorem dX5_count_21 : decode cX5_count 21 = .ok (.invokevirtual 55, 3) := by decide +kernel
theorem dX5_count_24 : decode cX5_count 24 = .ok (.ifCond .ne 5, 3) := by decide +kernel
theorem dX5_count_27 : decode cX5_count 27 = .ok (.iconst 0, 1) := by decide +kernel
theorem dX5_count_28 : decode cX5_count 28 = .ok (.ireturn, 1) := by decide +kernel
theorem dX5_count_29 : decode cX5_count 29 = .ok (.iload_n 1, 1) := by decide +kernel
theorem dX5_count_30 : decode cX5_count 30 = .ok (.ifCond .ne 10, 3) := by decide +kernel
theorem dX5_count_33 : decode cX5_count 33 = .ok (.aload_n 0, 1) := by decide +kernel
theorem dX5_count_34 : decode cX5_count 34 = .ok (.getfield 52, 3) := by decide +kernel
theorem dX5_count_37 : decode cX5_count 37 = .ok (.goto 7, 3) := by decide +kernel
theorem dX5_count_40 : decode cX5_count 40 = .ok (.aload_n 0, 1) := by decide +kernel
theorem dX5_count_41 : decode cX5_count 41 = .ok (.getfield 86, 3) := by decide +kernel
theorem dX5_count_44 : decode cX5_count 44 = .ok (.ireturn, 1) := by decide +kernel
theorem dJ13_bitCount_95d88_0 : decode cJ13_bitCount_95d88 0 = .ok (.lload_n 0, 1) := by decide +kernel
theorem dJ13_bitCount_95d88_1 : decode cJ13_bitCount_95d88 1 = .ok (.lload_n 0, 1) := by decide +kernel
theorem dJ13_bitCount_95d88_2 : decode cJ13_bitCount_95d88 2 = .ok (.iconst 1, 1) := by decide +kernel
theorem dJ13_bitCount_95d88_3 : decode cJ13_bitCount_95d88 3 = .ok (.lushr, 1) := by decide +kernel
theorem dJ13_bitCount_95d88_4 : decode cJ13_bitCount_95d88 4 = .ok (.ldc2_w 314, 3) := by decide +kernel
theorem dJ13_bitCount_95d88_7 : decode cJ13_bitCount_95d88 7 = .ok (.land, 1) := by decide +kernel
theorem dJ13_bitCount_95d88_8 : decode cJ13_bitCount_95d88 8 = .ok (.lsub, 1) := by decide +kernel
theorem dJ13_bitCount_95d88_9 : decode cJ13_bitCount_95d88 9 = .ok (.lstore_n 0, 1) := by decide +kernel
theorem dJ13_bitCount_95d88_10 : decode cJ13_bitCount_95d88 10 = .ok (.lload_n 0, 1) := by decide +kernel
theorem dJ13_bitCount_95d88_11 : decode cJ13_bitCount_95d88 11 = .ok (.ldc2_w 316, 3) := by decide +kernel
theorem dJ13_bitCount_95d88_14 : decode cJ13_bitCount_95d88 14 = .ok (.land, 1) := by decide +kernel
theorem dJ13_bitCount_95d88_15 : decode cJ13_bitCount_95d88 15 = .ok (.lload_n 0, 1) := by decide +kernel
theorem dJ13_bitCount_95d88_16 : decode cJ13_bitCount_95d88 16 = .ok (.iconst 2, 1) := by decide +kernel
theorem dJ13_bitCount_95d88_17 : decode cJ13_bitCount_95d88 17 = .ok (.lushr, 1) := by decide +kernel
theorem dJ13_bitCount_95d88_18 : decode cJ13_bitCount_95d88 18 = .ok (.ldc2_w 316, 3) := by decide +kernel
theorem dJ13_bitCount_95d88_21 : decode cJ13_bitCount_95d88 21 = .ok (.land, 1) := by decide +kernel
theorem dJ13_bitCount_95d88_22 : decode cJ13_bitCount_95d88 22 = .ok (.ladd, 1) := by decide +kernel
theorem dJ13_bitCount_95d88_23 : decode cJ13_bitCount_95d88 23 = .ok (.lstore_n 0, 1) := by decide +kernel
theorem dJ13_bitCount_95d88_24 : decode cJ13_bitCount_95d88 24 = .ok (.lload_n 0, 1) := by decide +kernel
theorem dJ13_bitCount_95d88_25 : decode cJ13_bitCount_95d88 25 = .ok (.lload_n 0, 1) := by decide +kernel
theorem dJ13_bitCount_95d88_26 : decode cJ13_bitCount_95d88 26 = .ok (.iconst 4, 1) := by decide +kernel
theorem dJ13_bitCount_95d88_27 : decode cJ13_bitCount_95d88 27 = .ok (.lushr, 1) := by decide +kernel
theorem dJ13_bitCount_95d88_28 : decode cJ13_bitCount_95d88 28 = .ok (.ladd, 1) := by decide +kernel
theorem dJ13_bitCount_95d88_29 : decode cJ13_bitCount_95d88 29 = .ok (.ldc2_w 318, 3) := by decide +kernel
theorem dJ13_bitCount_95d88_32 : decode cJ13_bitCount_95d88 32 = .ok (.land, 1) := by decide +kernel
theorem dJ13_bitCount_95d88_33 : decode cJ13_bitCount_95d88 33 = .ok (.lstore_n 0, 1) := by decide +kernel
theorem dJ13_bitCount_95d88_34 : decode cJ13_bitCount_95d88 34 = .ok (.lload_n 0, 1) := by decide +kernel
theorem dJ13_bitCount_95d88_35 : decode cJ13_bitCount_95d88 35 = .ok (.lload_n 0, 1) := by decide +kernel
theorem dJ13_bitCount_95d88_36 : decode cJ13_bitCount_95d88 36 = .ok (.bipush 8, 2) := by decide +kernel
theorem dJ13_bitCount_95d88_38 : decode cJ13_bitCount_95d88 38 = .ok (.lushr, 1) := by decide +kernel
theorem dJ13_bitCount_95d88_39 : decode cJ13_bitCount_95d88 39 = .ok (.ladd, 1) := by decide +kernel
theorem dJ13_bitCount_95d88_40 : decode cJ13_bitCount_95d88 40 = .ok (.lstore_n 0, 1) := by decide +kernel
theorem dJ13_bitCount_95d88_41 : decode cJ13_bitCount_95d88 41 = .ok (.lload_n 0, 1) := by decide +kernel
theorem dJ13_bitCount_95d88_42 : decode cJ13_bitCount_95d88 42 = .ok (.lload_n 0, 1) := by decide +kernel
theorem dJ13_bitCount_95d88_43 : decode cJ13_bitCount_95d88 43 = .ok (.bipush 16, 2) := by decide +kernel
theorem dJ13_bitCount_95d88_45 : decode cJ13_bitCount_95d88 45 = .ok (.lushr, 1) := by decide +kernel
theorem dJ13_bitCount_95d88_46 : decode cJ13_bitCount_95d88 46 = .ok (.ladd, 1) := by decide +kernel
theorem dJ13_bitCount_95d88_47 : decode cJ13_bitCount_95d88 47 = .ok (.lstore_n 0, 1) := by decide +kernel
theorem dJ13_bitCount_95d88_48 : decode cJ13_bitCount_95d88 48 = .ok (.lload_n 0, 1) := by decide +kernel
theorem dJ13_bitCount_95d88_49 : decode cJ13_bitCount_95d88 49 = .ok (.lload_n 0, 1) := by decide +kernel
theorem dJ13_bitCount_95d88_50 : decode cJ13_bitCount_95d88 50 = .ok (.bipush 32, 2) := by decide +kernel
theorem dJ13_bitCount_95d88_52 : decode cJ13_bitCount_95d88 52 = .ok (.lushr, 1) := by decide +kernel
theorem dJ13_bitCount_95d88_53 : decode cJ13_bitCount_95d88 53 = .ok (.ladd, 1) := by decide +kernel
theorem dJ13_bitCount_95d88_54 : decode cJ13_bitCount_95d88 54 = .ok (.lstore_n 0, 1) := by decide +kernel
theorem dJ13_bitCount_95d88_55 : decode cJ13_bitCount_95d88 55 = .ok (.lload_n 0, 1) := by decide +kernel
theorem dJ13_bitCount_95d88_56 : decode cJ13_bitCount_95d88 56 = .ok (.l2i, 1) := by decide +kernel
theorem dJ13_bitCount_95d88_57 : decode cJ13_bitCount_95d88 57 = .ok (.bipush 127, 2) := by decide +kernel
theorem dJ13_bitCount_95d88_59 : decode cJ13_bitCount_95d88 59 = .ok (.iand, 1) := by decide +kernel
theorem dJ13_bitCount_95d88_60 : decode cJ13_bitCount_95d88 60 = .ok (.ireturn, 1) := by decide +kernel
abbrev vwCl : List vw_C := [(RX0, TX0, 8), (RX1, TX1, 6), (RX2, TX2, 10), (RX3, TX3, 1), (RX4, TX4, 5), (RX5, TX5, 15)]
end
section
/-! ===== the frame of all walks: the world as cells by number, locals as a list, rows of one instruction each ===== -/
/-- the numbers that are fixed for a run: class ids, slots, array classes, and the address of each numbered cell -/
abbrev kb_E : Type := (Nat → ClassId) × (Nat → Nat → Nat) × (Nat → ClassId) × (Nat → Nat)
abbrev kb_D (E : kb_E) : va_G := (E.1, E.2.1)
abbrev kb_cy (E : kb_E) : Nat → ClassId := E.2.2.1
abbrev kb_ad (E : kb_E) : Nat → Nat := E.2.2.2
def kb_tys (E : kb_E) : List (ClassId × FieldType) := [(E.2.2.1 0, .int), (E.2.2.1 1, .long), (E.2.2.1 2, .boolean), (E.2.2.1 3, .object RX0), (E.2.2.1 4, .object RX2), (E.2.2.1 5, .object RX3)]
/-- the first N cells, with contents g -/
def kb_W (E : kb_E) (N : Nat) (g : Nat → va_E) : va_W := (List.range N).map (fun n => (E.2.2.2 n, g n))
theorem kb_W_at {E : kb_E} {N : Nat} {g : Nat → va_E} {n : Nat} (h : n < N) : (kb_W E N g)[n]? = some (E.2.2.2 n, g n) := by
  simp [kb_W, h]
theorem kb_W_set {E : kb_E} {N : Nat} {g : Nat → va_E} {n : Nat} (e : va_E) (_h : n < N) : (kb_W E N g).set n (E.2.2.2 n, e) = kb_W E N (va_up g n e) := by
  apply List.ext_getElem?
  intro k
  by_cases hk : k < N
  · rw [kb_W_at hk, List.getElem?_set]
    by_cases hn : n = k
    · subst hn
      simp [kb_W, va_up, hk]
    · rw [if_neg hn, kb_W_at hk]
      simp [va_up, Ne.symm hn]
  · have h1 : ((kb_W E N g).set n (E.2.2.2 n, e)).length ≤ k := by simp [kb_W]; omega
    have h2 : (kb_W E N (va_up g n e)).length ≤ k := by simp [kb_W]; omega
    rw [List.getElem?_eq_none h1, List.getElem?_eq_none h2]
def kb_HW (E : kb_E) (A : Nat → Prop) (N : Nat) (g : Nat → va_E) (H : Heap) : Prop := va_P (kb_D E) vwCl (kb_W E N g) H ∧ va_D A (kb_W E N g)
/-- the addresses that a method may write: its cells, and what is new -/
def kb_A (E : kb_E) (N sz : Nat) : Nat → Prop := fun q => (∃ n, n < N ∧ q = E.2.2.2 n) ∨ sz ≤ q
/-- locals: what each place holds, as far as it is known -/
def kb_L (ls : Array Slot) (nL : Nat) (lv : List (Option Value)) : Prop := ls.size = nL ∧ lv_wf ls ∧ ∀ (i : Nat) (v : Value), lv[i]? = some (some v) → ls[i]? = some (.val v)
def kb_tl (lv : List (Option Value)) : List (Nat × Value) := (List.range lv.length).filterMap (fun i => (lv[i]?.join).map (fun v => (i, v)))
theorem kb_tl_mem {lv : List (Option Value)} {j : Nat} {w : Value} : (j, w) ∈ kb_tl lv ↔ lv[j]? = some (some w) := by
  unfold kb_tl
  constructor
  · intro h
    obtain ⟨i, hi, h⟩ := List.mem_filterMap.mp h
    cases h1 : lv[i]? with
    | none => rw [h1] at h; cases h
    | some o =>
      cases o with
      | none => rw [h1] at h; cases h
      | some v =>
        rw [h1] at h
        cases h
        exact h1
  · intro h
    refine List.mem_filterMap.mpr ⟨j, List.mem_range.mpr ?_, by rw [h]; rfl⟩
    exact (List.getElem?_eq_some_iff.mp h).1
theorem kb_L.has {ls : Array Slot} {nL : Nat} {lv : List (Option Value)} (h : kb_L ls nL lv) : lv_has ls nL (kb_tl lv) := ⟨h.1, h.2.1, fun q hq => h.2.2 q.1 q.2 (kb_tl_mem.mp hq)⟩
theorem kb_L.of {ls : Array Slot} {nL : Nat} {l : List (Nat × Value)} {lv : List (Option Value)} (h : lv_has ls nL l) (hl : ∀ (i : Nat) (v : Value), lv[i]? = some (some v) → (i, v) ∈ l) : kb_L ls nL lv := ⟨h.1, h.2.1, fun i v hi => h.2.2 (i, v) (hl i v hi)⟩
/-- storing a value of one slot at i is plain if no long stands right ahead -/
def kb_ok1 (lv : List (Option Value)) (i : Nat) : Bool := match i with
  | 0 => true
  | k + 1 => match lv[k]? with
    | some (some v) => v.category == 1
    | _ => true
theorem kb_L.set1 {ls : Array Slot} {nL : Nat} {lv : List (Option Value)} {i : Nat} {v : Value} (hok : kb_ok1 lv i = true)
    (h : lv_has ls nL ((i, v) :: (kb_tl lv).filter (fun q => !(q.1 == i) && !(q.1 + 1 == i && q.2.category == 2)))) : kb_L ls nL (lv.set i (some v)) := by
  refine kb_L.of h (fun j w hj => ?_)
  rw [List.getElem?_set] at hj
  by_cases hji : i = j
  · subst hji
    rw [if_pos rfl] at hj
    split at hj
    · cases hj
      exact List.mem_cons_self
    · cases hj
  · rw [if_neg hji] at hj
    refine List.mem_cons_of_mem _ (List.mem_filter.mpr ⟨kb_tl_mem.mpr hj, ?_⟩)
    have h1 : (j == i) = false := by simp; omega
    rw [h1]
    by_cases h2 : j + 1 = i
    · subst h2
      have h3 : w.category = 1 := by
        simp only [kb_ok1, hj] at hok
        simpa using hok
      simp [h3]
    · simp [h2]
def kb_st2 (lv : List (Option Value)) (i : Nat) (v : Value) : List (Option Value) := (lv.set i (some v)).set (i + 1) none
theorem kb_L.set2 {ls : Array Slot} {nL : Nat} {lv : List (Option Value)} {i : Nat} {v : Value} (hok : kb_ok1 lv i = true)
    (h : lv_has ls nL ((i, v) :: (kb_tl lv).filter (fun q => !(q.1 == i) && (!(q.1 == i + 1) && !(q.1 + 1 == i && q.2.category == 2))))) : kb_L ls nL (kb_st2 lv i v) := by
  refine kb_L.of h (fun j w hj => ?_)
  unfold kb_st2 at hj
  rw [List.getElem?_set] at hj
  by_cases hj1 : i + 1 = j
  · subst hj1
    rw [if_pos rfl] at hj
    split at hj <;> cases hj
  rw [if_neg hj1, List.getElem?_set] at hj
  by_cases hji : i = j
  · subst hji
    rw [if_pos rfl] at hj
    split at hj
    · cases hj
      exact List.mem_cons_self
    · cases hj
  · rw [if_neg hji] at hj
    refine List.mem_cons_of_mem _ (List.mem_filter.mpr ⟨kb_tl_mem.mpr hj, ?_⟩)
    have h1 : (j == i) = false := by simp; omega
    have h1' : (j == i + 1) = false := by simp; omega
    rw [h1, h1']
    by_cases h2 : j + 1 = i
    · subst h2
      have h3 : w.category = 1 := by
        simp only [kb_ok1, hj] at hok
        simpa using hok
      simp [h3]
    · simp [h2]
end
section
/-! ===== what lies outside the world and stays: nest links, the statics that a throw reads, texts, the two static tables ===== -/
def kb_nestF : List (String × Nat × String × String × String × String) := [(RX4, 110, RX2, "rows", "I", RX4), (RX4, 111, RX2, "threads", "I", RX4), (RX4, 112, RX2, "told", "[I", RX4), (RX4, 115, RX2, "workedOut", "Z", RX4), (RX4, 119, RX2, "toldAtFirst", "[I", RX4), (RX4, 125, RX2, "startCount", "I", RX4), (RX4, 128, RX2, "firstStart", "I", RX4), (RX4, 138, RX2, "suspectCount", "I", RX4), (RX4, 141, RX2, "suspects", "[I", RX4), (RX4, 41, RX0, "threads", "I", RX4), (RX4, 55, RX0, "colours", "[I", RX4), (RX4, 59, RX0, "rows", "I", RX4), (RX4, 62, RX0, "kinds", "[I", RX4), (RX4, 80, RX0, "shown", "[I", RX4), (RX4, 86, RX0, "standing", "[I", RX4), (RX4, 89, RX0, "spent", "[I", RX4), (RX0, 37, RX2, "threads", "I", RX4), (RX0, 40, RX2, "rows", "I", RX4), (RX0, 41, RX2, "firstStart", "I", RX4), (RX0, 48, RX2, "kinds", "[I", RX4), (RX1, 110, RX2, "kinds", "[I", RX4), (RX1, 137, RX2, "suspects", "[I", RX4), (RX1, 46, RX2, "toldAtFirst", "[I", RX4), (RX1, 55, RX2, "suspectCount", "I", RX4), (RX1, 62, RX2, "startCount", "I", RX4), (RX1, 68, RX2, "firstStart", "I", RX4), (RX1, 77, RX2, "workedOut", "Z", RX4), (RX1, 81, RX2, "rows", "I", RX4), (RX1, 84, RX2, "threads", "I", RX4), (RX1, 94, RX2, "told", "[I", RX4)]
def kb_nestM : List (String × Nat × MethodName × String) := [(RX4, 35, yX0_init, RX4), (RX4, 36, yX2_init, RX4), (RX0, 44, yX4_colourIn, RX4), (RX0, 49, yX4_knotsIn, RX4), (RX0, 56, yX4_leftPlaceOf, RX4), (RX0, 59, yX4_kindIn, RX4), (RX0, 62, yX4_showingPlace, RX4), (RX0, 65, yX4_spotOf, RX4), (RX1, 113, yX4_withKind, RX4), (RX1, 120, yX4_showingPlace, RX4), (RX1, 123, yX4_colourIn, RX4), (RX1, 130, yX4_bitOf, RX4), (RX1, 134, yX4_exchanged, RX4), (RX1, 31, yX3_init, RX4), (RX1, 87, yX4_knotsIn, RX4), (RX1, 91, yX4_leftPlaceOf, RX4), (RX1, 97, yX4_spotOf, RX4), (RX3, 45, yX4_exchanged, RX4)]
def kb_NSE : String := "java/util/NoSuchElementException"
def kb_IAE : String := "java/lang/IllegalArgumentException"
def kb_up : List String := ["java/lang/RuntimeException", "java/lang/Exception"]
/-- where a row of colours is less at place 3 than at place 4, by 1, 2, 3 -/
def kb_P3 (j : Nat) : Int64 := if j = 0 then 0x0000F0000F0000F0 else if j = 1 then 0x00000000F0000F00 else 0x000000000000F000
def kb_P4 (j : Nat) : Int64 := if j = 0 then 0x0842084208420842 else if j = 1 then 0x0084008400840084 else 0x0008000800080008
def kb_O (l : Launch) (E : kb_E) (A : Nat → Prop) (U : State) (H : Heap) : Prop :=
  (∀ q ∈ kb_nestF, va_Nw (.fieldLinkNest q.1 q.2.1 q.2.2.1 q.2.2.2.1 q.2.2.2.2.1 q.2.2.2.2.2) U) ∧ (∀ q ∈ kb_nestM, va_Nw (.methodLinkNest q.1 q.2.1 q.2.2.1 q.2.2.2) U) ∧ l.stackTraces = false ∧
  vx_Zq Bundle.tN "UNASSIGNED_STACK" Bundle.steD A U H ∧ vx_Zq Bundle.tN "SUPPRESSED_SENTINEL" Bundle.listD A U H ∧
  (∀ Y ∈ ["java/lang/RuntimeException", "java/lang/Exception", "java/lang/Throwable"], va_Nw (.declares (Bundle.initS Y)) U) ∧ (∀ X ∈ [kb_NSE, kb_IAE], va_Nw (.castable X X) U) ∧
  (∃ a, vk_R RX4 149 "no such element" a U) ∧ (∃ a, vk_R RX4 152 "no such colour or kind" a U) ∧ (∃ a, vk_R RX4 98 "bands unlike in threads or rows" a U) ∧
  (va_Z RX3 "PLACE_3_LESS" "[J" (.ref (E.2.2.2 300)) A U H ∧ va_T .long (E.2.2.2 300) 3 (fun j => .long (kb_P3 j)) A U H) ∧ ((va_Z RX3 "PLACE_4_LESS" "[J" (.ref (E.2.2.2 301)) A U H ∧ va_T .long (E.2.2.2 301) 3 (fun j => .long (kb_P4 j)) A U H) ∧ va_Nc kb_IAE kb_NSE U)
theorem kb_O.goE {l : Launch} {E E' : kb_E} {A B : Nat → Prop} {s U : State} {H H1 : Heap} (h : kb_O l E A s H) (hW : s.WarmedH U.vm) (hq : ∀ a : Nat, a < H.size → ¬ A a → H1[a]? = H[a]?) (hAB : ∀ q, B q → A q) (e0 : E'.2.2.2 300 = E.2.2.2 300) (e1 : E'.2.2.2 301 = E.2.2.2 301) : kb_O l E' B U H1 := by
  unfold kb_O
  rw [e0, e1]
  obtain ⟨h1, h2, h3, h4, h5, h6, h7, ⟨a1, h8⟩, ⟨a2, h9⟩, ⟨a3, h10⟩, ⟨z1, y1⟩, ⟨z2, y2⟩, hnc⟩ := h
  refine ⟨fun q hq => va_Nw.warmF hW (h1 q hq), fun q hq => va_Nw.warmM hW (h2 q hq), h3, ?_, ?_, fun Y hY => va_Nw.warmD hW (h6 Y hY), fun X hX => va_Nw.warmC hW (h7 X hX), ⟨a1, vk_R.warm hW h8⟩, ⟨a2, vk_R.warm hW h9⟩, ⟨a3, vk_R.warm hW h10⟩, ⟨?_, ?_⟩, ⟨?_, ?_⟩, va_Nc.moved hW.alike hnc⟩
  · exact ((vx_Zq.moved hW.alike h4).kept hq).narrow hAB
  · exact ((vx_Zq.moved hW.alike h5).kept hq).narrow hAB
  · exact ((va_Z.moved hW.alike z1).kept hq).narrow hAB
  · exact ((va_T.moved hW.alike y1).kept hq).narrow hAB
  · exact ((va_Z.moved hW.alike z2).kept hq).narrow hAB
  · exact ((va_T.moved hW.alike y2).kept hq).narrow hAB
theorem kb_O.go {l : Launch} {E : kb_E} {A B : Nat → Prop} {s U : State} {H H1 : Heap} (h : kb_O l E A s H) (hW : s.WarmedH U.vm) (hq : ∀ a : Nat, a < H.size → ¬ A a → H1[a]? = H[a]?) (hAB : ∀ q, B q → A q) : kb_O l E B U H1 := h.goE hW hq hAB rfl rfl
end
section
section KBR
variable {p : Program} {l : Launch} {e : Env} {R : Room} {s : State} {m : MethodId} {args : Array Value} {below : List Frame} {meth : Method} {c : Code} {E : kb_E} {A : Nat → Prop} {N : Nat} {g : Nat → va_E} {cells slots : Nat} {Q : State → Prop} {cc : ByteArray} {nL : Nat} {own : String} {Ts : List Cond} {ret : Option FieldType} {pc : Nat} {lv : List (Option Value)} {st : List Value}
/-- what is fixed in a method's walk -/
def kb_C (l : Launch) (E : kb_E) (A : Nat → Prop) (cc : ByteArray) (nL : Nat) (own : String) (Ts : List Cond) (ret : Option FieldType) (p : Program) (s : State) (m : MethodId) (args : Array Value) (meth : Method) (c : Code) : Prop :=
  p.tables.exec = Jvm.exec ∧ c.code = cc ∧ c.maxLocals = nL ∧ s.vm.findClass own = some m.cls ∧ (∀ w ∈ Ts, w.before args s = true) ∧ meth.sig.returnType = ret ∧ meth.locks = false ∧ va_K (kb_D E) vwCl (kb_tys E) s ∧ (∀ q, s.heap.size ≤ q → A q) ∧ kb_O l E A s s.heap
/-- the walk's goal at pc with locals lv and stack st, the world holding g -/
def kb_G (p : Program) (l : Launch) (e : Env) (R : Room) (s : State) (m : MethodId) (args : Array Value) (below : List Frame) (meth : Method) (c : Code) (E : kb_E) (A : Nat → Prop) (N nL : Nat) (g : Nat → va_E) (cells slots : Nat) (Q : State → Prop) (pc : Nat) (lv : List (Option Value)) (st : List Value) : Prop :=
  ∀ (H : Heap) (locs : List Loc) (ls : Array Slot), kb_HW E A N g H → va_S A s.heap H locs → kb_L ls nL lv → W p l e R s m args below meth c H locs cells slots Q (F0 m pc ls st)
theorem q_iconst (C : kb_C l E A cc nL own Ts ret p s m args meth c) {n : Int} {v : Int32} (hd : decode cc pc = .ok (.iconst n, 1)) (hv : Int32.ofInt n = v) (K : kb_G p l e R s m args below meth c E A N nL g cells slots Q (pc + 1) lv (.int v :: st)) : kb_G p l e R s m args below meth c E A N nL g cells slots Q pc lv (st) := fun H locs ls h1 h2 h3 => lv_iconst C.1 C.2.1 hd hv (K H locs ls h1 h2 h3)
theorem q_bipush (C : kb_C l E A cc nL own Ts ret p s m args meth c) {n : Int} {v : Int32} (hd : decode cc pc = .ok (.bipush n, 2)) (hv : (Int8.ofInt n).toInt32 = v) (K : kb_G p l e R s m args below meth c E A N nL g cells slots Q (pc + 2) lv (.int v :: st)) : kb_G p l e R s m args below meth c E A N nL g cells slots Q pc lv (st) := fun H locs ls h1 h2 h3 => lv_bipush C.1 C.2.1 hd hv (K H locs ls h1 h2 h3)
theorem q_sipush (C : kb_C l E A cc nL own Ts ret p s m args meth c) {n : Int} {v : Int32} (hd : decode cc pc = .ok (.sipush n, 3)) (hv : (Int16.ofInt n).toInt32 = v) (K : kb_G p l e R s m args below meth c E A N nL g cells slots Q (pc + 3) lv (.int v :: st)) : kb_G p l e R s m args below meth c E A N nL g cells slots Q pc lv (st) := fun H locs ls h1 h2 h3 => lv_sipush C.1 C.2.1 hd hv (K H locs ls h1 h2 h3)
theorem q_lconst (C : kb_C l E A cc nL own Ts ret p s m args meth c) {n : Fin 2} {v : Int64} (hd : decode cc pc = .ok (.lconst n, 1)) (hv : Int64.ofNat (n : Nat) = v) (K : kb_G p l e R s m args below meth c E A N nL g cells slots Q (pc + 1) lv (.long v :: st)) : kb_G p l e R s m args below meth c E A N nL g cells slots Q pc lv (st) := fun H locs ls h1 h2 h3 => lv_lconst C.1 C.2.1 hd hv (K H locs ls h1 h2 h3)
theorem q_ldc (C : kb_C l E A cc nL own Ts ret p s m args meth c) {k : Nat} {v : Int32} (hd : decode cc pc = .ok (.ldc k, 2)) (hw : Cond.constant own k v ∈ Ts) (K : kb_G p l e R s m args below meth c E A N nL g cells slots Q (pc + 2) lv (.int v :: st)) : kb_G p l e R s m args below meth c E A N nL g cells slots Q pc lv (st) := fun H locs ls h1 h2 h3 => lv_ldc C.1 C.2.1 C.2.2.2.1 (C.2.2.2.2.1 _ hw) hd (K H locs ls h1 h2 h3)
theorem q_ldc2 (C : kb_C l E A cc nL own Ts ret p s m args meth c) {k : Nat} {v : Int64} (hd : decode cc pc = .ok (.ldc2_w k, 3)) (hw : Cond.constantLong own k v ∈ Ts) (K : kb_G p l e R s m args below meth c E A N nL g cells slots Q (pc + 3) lv (.long v :: st)) : kb_G p l e R s m args below meth c E A N nL g cells slots Q pc lv (st) := fun H locs ls h1 h2 h3 => lv_ldc2 C.1 C.2.1 C.2.2.2.1 (C.2.2.2.2.1 _ hw) hd (K H locs ls h1 h2 h3)
theorem q_iload_n (C : kb_C l E A cc nL own Ts ret p s m args meth c) {k : Fin 4} {x : Int32} (hd : decode cc pc = .ok (.iload_n k, 1)) (hv : lv[(k : Nat)]? = some (some (.int x))) (K : kb_G p l e R s m args below meth c E A N nL g cells slots Q (pc + 1) lv (.int x :: st)) : kb_G p l e R s m args below meth c E A N nL g cells slots Q pc lv (st) := fun H locs ls h1 h2 h3 => lv_iload_n C.1 C.2.1 hd rfl (h3.2.2 _ _ hv) (K H locs ls h1 h2 h3)
theorem q_iload (C : kb_C l E A cc nL own Ts ret p s m args meth c) {i : Nat} {x : Int32} (hd : decode cc pc = .ok (.iload i, 2)) (hv : lv[i]? = some (some (.int x))) (K : kb_G p l e R s m args below meth c E A N nL g cells slots Q (pc + 2) lv (.int x :: st)) : kb_G p l e R s m args below meth c E A N nL g cells slots Q pc lv (st) := fun H locs ls h1 h2 h3 => lv_iload C.1 C.2.1 hd (h3.2.2 _ _ hv) (K H locs ls h1 h2 h3)
theorem q_lload_n (C : kb_C l E A cc nL own Ts ret p s m args meth c) {k : Fin 4} {x : Int64} (hd : decode cc pc = .ok (.lload_n k, 1)) (hv : lv[(k : Nat)]? = some (some (.long x))) (K : kb_G p l e R s m args below meth c E A N nL g cells slots Q (pc + 1) lv (.long x :: st)) : kb_G p l e R s m args below meth c E A N nL g cells slots Q pc lv (st) := fun H locs ls h1 h2 h3 => lv_lload_n C.1 C.2.1 hd rfl (h3.2.2 _ _ hv) (K H locs ls h1 h2 h3)
theorem q_lload (C : kb_C l E A cc nL own Ts ret p s m args meth c) {i : Nat} {x : Int64} (hd : decode cc pc = .ok (.lload i, 2)) (hv : lv[i]? = some (some (.long x))) (K : kb_G p l e R s m args below meth c E A N nL g cells slots Q (pc + 2) lv (.long x :: st)) : kb_G p l e R s m args below meth c E A N nL g cells slots Q pc lv (st) := fun H locs ls h1 h2 h3 => lv_lload C.1 C.2.1 hd (h3.2.2 _ _ hv) (K H locs ls h1 h2 h3)
theorem q_aload_n (C : kb_C l E A cc nL own Ts ret p s m args meth c) {k : Fin 4} {x : Nat} (hd : decode cc pc = .ok (.aload_n k, 1)) (hv : lv[(k : Nat)]? = some (some (.ref x))) (K : kb_G p l e R s m args below meth c E A N nL g cells slots Q (pc + 1) lv (.ref x :: st)) : kb_G p l e R s m args below meth c E A N nL g cells slots Q pc lv (st) := fun H locs ls h1 h2 h3 => lv_aload_n C.1 C.2.1 hd rfl (h3.2.2 _ _ hv) (K H locs ls h1 h2 h3)
theorem q_aload (C : kb_C l E A cc nL own Ts ret p s m args meth c) {i : Nat} {x : Nat} (hd : decode cc pc = .ok (.aload i, 2)) (hv : lv[i]? = some (some (.ref x))) (K : kb_G p l e R s m args below meth c E A N nL g cells slots Q (pc + 2) lv (.ref x :: st)) : kb_G p l e R s m args below meth c E A N nL g cells slots Q pc lv (st) := fun H locs ls h1 h2 h3 => lv_aload C.1 C.2.1 hd (h3.2.2 _ _ hv) (K H locs ls h1 h2 h3)
theorem q_istore_n (C : kb_C l E A cc nL own Ts ret p s m args meth c) {k : Fin 4} {x : Int32} (hd : decode cc pc = .ok (.istore_n k, 1)) (hn : (k : Nat) < nL) (hok : kb_ok1 lv (k : Nat) = true) (K : kb_G p l e R s m args below meth c E A N nL g cells slots Q (pc + 1) (lv.set (k : Nat) (some (.int x))) (st)) : kb_G p l e R s m args below meth c E A N nL g cells slots Q pc lv (.int x :: st) := fun H locs ls h1 h2 h3 => lv_istore_n C.1 C.2.1 hd rfl h3.has hn rfl (fun ls' h => K H locs ls' h1 h2 (kb_L.set1 hok h))
theorem q_istore (C : kb_C l E A cc nL own Ts ret p s m args meth c) {i : Nat} {x : Int32} (hd : decode cc pc = .ok (.istore i, 2)) (hn : i < nL) (hok : kb_ok1 lv i = true) (K : kb_G p l e R s m args below meth c E A N nL g cells slots Q (pc + 2) (lv.set i (some (.int x))) (st)) : kb_G p l e R s m args below meth c E A N nL g cells slots Q pc lv (.int x :: st) := fun H locs ls h1 h2 h3 => lv_istore C.1 C.2.1 hd h3.has hn rfl (fun ls' h => K H locs ls' h1 h2 (kb_L.set1 hok h))
theorem q_astore_n (C : kb_C l E A cc nL own Ts ret p s m args meth c) {k : Fin 4} {x : Nat} (hd : decode cc pc = .ok (.astore_n k, 1)) (hn : (k : Nat) < nL) (hok : kb_ok1 lv (k : Nat) = true) (K : kb_G p l e R s m args below meth c E A N nL g cells slots Q (pc + 1) (lv.set (k : Nat) (some (.ref x))) (st)) : kb_G p l e R s m args below meth c E A N nL g cells slots Q pc lv (.ref x :: st) := fun H locs ls h1 h2 h3 => lv_astore_n C.1 C.2.1 hd rfl h3.has hn rfl (fun ls' h => K H locs ls' h1 h2 (kb_L.set1 hok h))
theorem q_astore (C : kb_C l E A cc nL own Ts ret p s m args meth c) {i : Nat} {x : Nat} (hd : decode cc pc = .ok (.astore i, 2)) (hn : i < nL) (hok : kb_ok1 lv i = true) (K : kb_G p l e R s m args below meth c E A N nL g cells slots Q (pc + 2) (lv.set i (some (.ref x))) (st)) : kb_G p l e R s m args below meth c E A N nL g cells slots Q pc lv (.ref x :: st) := fun H locs ls h1 h2 h3 => lv_astore C.1 C.2.1 hd h3.has hn rfl (fun ls' h => K H locs ls' h1 h2 (kb_L.set1 hok h))
theorem q_lstore_n (C : kb_C l E A cc nL own Ts ret p s m args meth c) {k : Fin 4} {x : Int64} (hd : decode cc pc = .ok (.lstore_n k, 1)) (hn : (k : Nat) + 1 < nL) (hok : kb_ok1 lv (k : Nat) = true) (K : kb_G p l e R s m args below meth c E A N nL g cells slots Q (pc + 1) (kb_st2 lv (k : Nat) (.long x)) (st)) : kb_G p l e R s m args below meth c E A N nL g cells slots Q pc lv (.long x :: st) := fun H locs ls h1 h2 h3 => lv_lstore_n C.1 C.2.1 hd rfl h3.has hn rfl (fun ls' h => K H locs ls' h1 h2 (kb_L.set2 hok h))
theorem q_lstore (C : kb_C l E A cc nL own Ts ret p s m args meth c) {i : Nat} {x : Int64} (hd : decode cc pc = .ok (.lstore i, 2)) (hn : i + 1 < nL) (hok : kb_ok1 lv i = true) (K : kb_G p l e R s m args below meth c E A N nL g cells slots Q (pc + 2) (kb_st2 lv i (.long x)) (st)) : kb_G p l e R s m args below meth c E A N nL g cells slots Q pc lv (.long x :: st) := fun H locs ls h1 h2 h3 => lv_lstore C.1 C.2.1 hd h3.has hn rfl (fun ls' h => K H locs ls' h1 h2 (kb_L.set2 hok h))
theorem q_iinc (C : kb_C l E A cc nL own Ts ret p s m args meth c) {i : Nat} {n : Int} {x : Int32} (hd : decode cc pc = .ok (.iinc i n, 3)) (hx : lv[i]? = some (some (.int x))) (hn : i < nL) (hok : kb_ok1 lv i = true) (K : kb_G p l e R s m args below meth c E A N nL g cells slots Q (pc + 3) (lv.set i (some (.int (x + Int32.ofInt n)))) (st)) : kb_G p l e R s m args below meth c E A N nL g cells slots Q pc lv (st) := fun H locs ls h1 h2 h3 => by
  obtain ⟨k, hk⟩ := List.getElem?_of_mem (kb_tl_mem.mpr hx)
  exact lv_iinc C.1 C.2.1 hd h3.has hk rfl hn rfl (fun ls' h => K H locs ls' h1 h2 (kb_L.set1 hok h))
theorem q_iadd (C : kb_C l E A cc nL own Ts ret p s m args meth c) {x y : Int32} (hd : decode cc pc = .ok (.iadd, 1))  (K : kb_G p l e R s m args below meth c E A N nL g cells slots Q (pc + 1) lv (.int (x + y) :: st)) : kb_G p l e R s m args below meth c E A N nL g cells slots Q pc lv (.int y :: .int x :: st) := fun H locs ls h1 h2 h3 => lv_iadd C.1 C.2.1 hd (K H locs ls h1 h2 h3)
theorem q_isub (C : kb_C l E A cc nL own Ts ret p s m args meth c) {x y : Int32} (hd : decode cc pc = .ok (.isub, 1))  (K : kb_G p l e R s m args below meth c E A N nL g cells slots Q (pc + 1) lv (.int (x - y) :: st)) : kb_G p l e R s m args below meth c E A N nL g cells slots Q pc lv (.int y :: .int x :: st) := fun H locs ls h1 h2 h3 => lv_isub C.1 C.2.1 hd (K H locs ls h1 h2 h3)
theorem q_imul (C : kb_C l E A cc nL own Ts ret p s m args meth c) {x y : Int32} (hd : decode cc pc = .ok (.imul, 1))  (K : kb_G p l e R s m args below meth c E A N nL g cells slots Q (pc + 1) lv (.int (x * y) :: st)) : kb_G p l e R s m args below meth c E A N nL g cells slots Q pc lv (.int y :: .int x :: st) := fun H locs ls h1 h2 h3 => lv_imul C.1 C.2.1 hd (K H locs ls h1 h2 h3)
theorem q_iand (C : kb_C l E A cc nL own Ts ret p s m args meth c) {x y : Int32} (hd : decode cc pc = .ok (.iand, 1))  (K : kb_G p l e R s m args below meth c E A N nL g cells slots Q (pc + 1) lv (.int (x &&& y) :: st)) : kb_G p l e R s m args below meth c E A N nL g cells slots Q pc lv (.int y :: .int x :: st) := fun H locs ls h1 h2 h3 => lv_iand C.1 C.2.1 hd (K H locs ls h1 h2 h3)
theorem q_ior (C : kb_C l E A cc nL own Ts ret p s m args meth c) {x y : Int32} (hd : decode cc pc = .ok (.ior, 1))  (K : kb_G p l e R s m args below meth c E A N nL g cells slots Q (pc + 1) lv (.int (x ||| y) :: st)) : kb_G p l e R s m args below meth c E A N nL g cells slots Q pc lv (.int y :: .int x :: st) := fun H locs ls h1 h2 h3 => lv_ior C.1 C.2.1 hd (K H locs ls h1 h2 h3)
theorem q_ixor (C : kb_C l E A cc nL own Ts ret p s m args meth c) {x y : Int32} (hd : decode cc pc = .ok (.ixor, 1))  (K : kb_G p l e R s m args below meth c E A N nL g cells slots Q (pc + 1) lv (.int (x ^^^ y) :: st)) : kb_G p l e R s m args below meth c E A N nL g cells slots Q pc lv (.int y :: .int x :: st) := fun H locs ls h1 h2 h3 => lv_ixor C.1 C.2.1 hd (K H locs ls h1 h2 h3)
theorem q_ishl (C : kb_C l E A cc nL own Ts ret p s m args meth c) {x y : Int32} (hd : decode cc pc = .ok (.ishl, 1))  (K : kb_G p l e R s m args below meth c E A N nL g cells slots Q (pc + 1) lv (.int (x <<< (y &&& 31)) :: st)) : kb_G p l e R s m args below meth c E A N nL g cells slots Q pc lv (.int y :: .int x :: st) := fun H locs ls h1 h2 h3 => lv_ishl C.1 C.2.1 hd (K H locs ls h1 h2 h3)
theorem q_ishr (C : kb_C l E A cc nL own Ts ret p s m args meth c) {x y : Int32} (hd : decode cc pc = .ok (.ishr, 1))  (K : kb_G p l e R s m args below meth c E A N nL g cells slots Q (pc + 1) lv (.int (x >>> (y &&& 31)) :: st)) : kb_G p l e R s m args below meth c E A N nL g cells slots Q pc lv (.int y :: .int x :: st) := fun H locs ls h1 h2 h3 => lv_ishr C.1 C.2.1 hd (K H locs ls h1 h2 h3)
theorem q_idiv (C : kb_C l E A cc nL own Ts ret p s m args meth c) {x y : Int32} (hd : decode cc pc = .ok (.idiv, 1)) (hne : ¬ y = 0) (K : kb_G p l e R s m args below meth c E A N nL g cells slots Q (pc + 1) lv (.int (x / y) :: st)) : kb_G p l e R s m args below meth c E A N nL g cells slots Q pc lv (.int y :: .int x :: st) := fun H locs ls h1 h2 h3 => lv_idiv C.1 C.2.1 hd hne (K H locs ls h1 h2 h3)
theorem q_irem (C : kb_C l E A cc nL own Ts ret p s m args meth c) {x y : Int32} (hd : decode cc pc = .ok (.irem, 1)) (hne : ¬ y = 0) (K : kb_G p l e R s m args below meth c E A N nL g cells slots Q (pc + 1) lv (.int (x - x / y * y) :: st)) : kb_G p l e R s m args below meth c E A N nL g cells slots Q pc lv (.int y :: .int x :: st) := fun H locs ls h1 h2 h3 => lv_irem C.1 C.2.1 hd hne (K H locs ls h1 h2 h3)
theorem q_ladd (C : kb_C l E A cc nL own Ts ret p s m args meth c) {x y : Int64} (hd : decode cc pc = .ok (.ladd, 1))  (K : kb_G p l e R s m args below meth c E A N nL g cells slots Q (pc + 1) lv (.long (x + y) :: st)) : kb_G p l e R s m args below meth c E A N nL g cells slots Q pc lv (.long y :: .long x :: st) := fun H locs ls h1 h2 h3 => lv_ladd C.1 C.2.1 hd (K H locs ls h1 h2 h3)
theorem q_lsub (C : kb_C l E A cc nL own Ts ret p s m args meth c) {x y : Int64} (hd : decode cc pc = .ok (.lsub, 1))  (K : kb_G p l e R s m args below meth c E A N nL g cells slots Q (pc + 1) lv (.long (x - y) :: st)) : kb_G p l e R s m args below meth c E A N nL g cells slots Q pc lv (.long y :: .long x :: st) := fun H locs ls h1 h2 h3 => lv_lsub C.1 C.2.1 hd (K H locs ls h1 h2 h3)
theorem q_land (C : kb_C l E A cc nL own Ts ret p s m args meth c) {x y : Int64} (hd : decode cc pc = .ok (.land, 1))  (K : kb_G p l e R s m args below meth c E A N nL g cells slots Q (pc + 1) lv (.long (x &&& y) :: st)) : kb_G p l e R s m args below meth c E A N nL g cells slots Q pc lv (.long y :: .long x :: st) := fun H locs ls h1 h2 h3 => lv_land C.1 C.2.1 hd (K H locs ls h1 h2 h3)
theorem q_lor (C : kb_C l E A cc nL own Ts ret p s m args meth c) {x y : Int64} (hd : decode cc pc = .ok (.lor, 1))  (K : kb_G p l e R s m args below meth c E A N nL g cells slots Q (pc + 1) lv (.long (x ||| y) :: st)) : kb_G p l e R s m args below meth c E A N nL g cells slots Q pc lv (.long y :: .long x :: st) := fun H locs ls h1 h2 h3 => lv_lor C.1 C.2.1 hd (K H locs ls h1 h2 h3)
theorem q_lxor (C : kb_C l E A cc nL own Ts ret p s m args meth c) {x y : Int64} (hd : decode cc pc = .ok (.lxor, 1))  (K : kb_G p l e R s m args below meth c E A N nL g cells slots Q (pc + 1) lv (.long (x ^^^ y) :: st)) : kb_G p l e R s m args below meth c E A N nL g cells slots Q pc lv (.long y :: .long x :: st) := fun H locs ls h1 h2 h3 => lv_lxor C.1 C.2.1 hd (K H locs ls h1 h2 h3)
theorem q_i2l (C : kb_C l E A cc nL own Ts ret p s m args meth c) {x : Int32} (hd : decode cc pc = .ok (.i2l, 1))  (K : kb_G p l e R s m args below meth c E A N nL g cells slots Q (pc + 1) lv (.long x.toInt64 :: st)) : kb_G p l e R s m args below meth c E A N nL g cells slots Q pc lv (.int x :: st) := fun H locs ls h1 h2 h3 => lv_i2l C.1 C.2.1 hd rfl (K H locs ls h1 h2 h3)
theorem q_l2i (C : kb_C l E A cc nL own Ts ret p s m args meth c) {x : Int64} (hd : decode cc pc = .ok (.l2i, 1))  (K : kb_G p l e R s m args below meth c E A N nL g cells slots Q (pc + 1) lv (.int x.toInt32 :: st)) : kb_G p l e R s m args below meth c E A N nL g cells slots Q pc lv (.long x :: st) := fun H locs ls h1 h2 h3 => lv_l2i C.1 C.2.1 hd rfl (K H locs ls h1 h2 h3)
theorem q_lshl (C : kb_C l E A cc nL own Ts ret p s m args meth c) {x : Int64} {y : Int32} (hd : decode cc pc = .ok (.lshl, 1))  (K : kb_G p l e R s m args below meth c E A N nL g cells slots Q (pc + 1) lv (.long (x <<< (y.toInt64 &&& 63)) :: st)) : kb_G p l e R s m args below meth c E A N nL g cells slots Q pc lv (.int y :: .long x :: st) := fun H locs ls h1 h2 h3 => lv_lshl C.1 C.2.1 hd rfl (K H locs ls h1 h2 h3)
theorem q_lushr (C : kb_C l E A cc nL own Ts ret p s m args meth c) {x : Int64} {y : Int32} (hd : decode cc pc = .ok (.lushr, 1))  (K : kb_G p l e R s m args below meth c E A N nL g cells slots Q (pc + 1) lv (.long ((x.toUInt64 >>> (y.toInt64.toUInt64 &&& Int64.toUInt64 63)).toInt64) :: st)) : kb_G p l e R s m args below meth c E A N nL g cells slots Q pc lv (.int y :: .long x :: st) := fun H locs ls h1 h2 h3 => lv_lushr C.1 C.2.1 hd rfl (K H locs ls h1 h2 h3)
theorem q_lcmp (C : kb_C l E A cc nL own Ts ret p s m args meth c) {x y : Int64} (hd : decode cc pc = .ok (.lcmp, 1))  (K : kb_G p l e R s m args below meth c E A N nL g cells slots Q (pc + 1) lv (.int (lg_cmp x y) :: st)) : kb_G p l e R s m args below meth c E A N nL g cells slots Q pc lv (.long y :: .long x :: st) := fun H locs ls h1 h2 h3 => W.lcmp C.1 C.2.1 hd (K H locs ls h1 h2 h3)
theorem q_dup (C : kb_C l E A cc nL own Ts ret p s m args meth c) {va : Value} (hd : decode cc pc = .ok (.dup, 1)) (hc : va.category = 1) (K : kb_G p l e R s m args below meth c E A N nL g cells slots Q (pc + 1) lv (va :: va :: st)) : kb_G p l e R s m args below meth c E A N nL g cells slots Q pc lv (va :: st) := fun H locs ls h1 h2 h3 => lv_dup C.1 C.2.1 hd hc (K H locs ls h1 h2 h3)
theorem q_pop (C : kb_C l E A cc nL own Ts ret p s m args meth c) {va : Value} (hd : decode cc pc = .ok (.pop, 1)) (hc : va.category = 1) (K : kb_G p l e R s m args below meth c E A N nL g cells slots Q (pc + 1) lv (st)) : kb_G p l e R s m args below meth c E A N nL g cells slots Q pc lv (va :: st) := fun H locs ls h1 h2 h3 => lv_pop C.1 C.2.1 hd hc (K H locs ls h1 h2 h3)
theorem q_dup_x1 (C : kb_C l E A cc nL own Ts ret p s m args meth c) {va vb : Value} (hd : decode cc pc = .ok (.dup_x1, 1)) (hc : va.category = 1) (hc2 : vb.category = 1) (K : kb_G p l e R s m args below meth c E A N nL g cells slots Q (pc + 1) lv (va :: vb :: va :: st)) : kb_G p l e R s m args below meth c E A N nL g cells slots Q pc lv (va :: vb :: st) := fun H locs ls h1 h2 h3 => lv_dup_x1 C.1 C.2.1 hd hc hc2 (K H locs ls h1 h2 h3)
theorem q_dup2 (C : kb_C l E A cc nL own Ts ret p s m args meth c) {va vb : Value} (hd : decode cc pc = .ok (.dup2, 1)) (hc : va.category = 1) (hc2 : vb.category = 1) (K : kb_G p l e R s m args below meth c E A N nL g cells slots Q (pc + 1) lv (va :: vb :: va :: vb :: st)) : kb_G p l e R s m args below meth c E A N nL g cells slots Q pc lv (va :: vb :: st) := fun H locs ls h1 h2 h3 => lv_dup2_11 C.1 C.2.1 hd hc hc2 (K H locs ls h1 h2 h3)
theorem q_ifeq (C : kb_C l E A cc nL own Ts ret p s m args meth c) {x : Int32} {off : Int} {tgt : Nat} (hd : decode cc pc = .ok (.ifCond .eq off, 3)) (ht : (pc : Int) + off = (tgt : Int)) (K1 : (x = 0) → kb_G p l e R s m args below meth c E A N nL g cells slots Q tgt lv (st)) (K2 : ¬ (x = 0) → kb_G p l e R s m args below meth c E A N nL g cells slots Q (pc + 3) lv (st)) : kb_G p l e R s m args below meth c E A N nL g cells slots Q pc lv (.int x :: st) := fun H locs ls h1 h2 h3 => lv_if_eq C.1 C.2.1 hd ht (fun hc => K1 hc H locs ls h1 h2 h3) (fun hc => K2 hc H locs ls h1 h2 h3)
theorem q_ifne (C : kb_C l E A cc nL own Ts ret p s m args meth c) {x : Int32} {off : Int} {tgt : Nat} (hd : decode cc pc = .ok (.ifCond .ne off, 3)) (ht : (pc : Int) + off = (tgt : Int)) (K1 : (¬ x = 0) → kb_G p l e R s m args below meth c E A N nL g cells slots Q tgt lv (st)) (K2 : x = 0 → kb_G p l e R s m args below meth c E A N nL g cells slots Q (pc + 3) lv (st)) : kb_G p l e R s m args below meth c E A N nL g cells slots Q pc lv (.int x :: st) := fun H locs ls h1 h2 h3 => lv_if_ne C.1 C.2.1 hd ht (fun hc => K1 hc H locs ls h1 h2 h3) (fun hc => K2 hc H locs ls h1 h2 h3)
theorem q_iflt (C : kb_C l E A cc nL own Ts ret p s m args meth c) {x : Int32} {off : Int} {tgt : Nat} (hd : decode cc pc = .ok (.ifCond .lt off, 3)) (ht : (pc : Int) + off = (tgt : Int)) (K1 : (x < 0) → kb_G p l e R s m args below meth c E A N nL g cells slots Q tgt lv (st)) (K2 : ¬ (x < 0) → kb_G p l e R s m args below meth c E A N nL g cells slots Q (pc + 3) lv (st)) : kb_G p l e R s m args below meth c E A N nL g cells slots Q pc lv (.int x :: st) := fun H locs ls h1 h2 h3 => lv_if_lt C.1 C.2.1 hd ht (fun hc => K1 hc H locs ls h1 h2 h3) (fun hc => K2 hc H locs ls h1 h2 h3)
theorem q_ifge (C : kb_C l E A cc nL own Ts ret p s m args meth c) {x : Int32} {off : Int} {tgt : Nat} (hd : decode cc pc = .ok (.ifCond .ge off, 3)) (ht : (pc : Int) + off = (tgt : Int)) (K1 : (0 ≤ x) → kb_G p l e R s m args below meth c E A N nL g cells slots Q tgt lv (st)) (K2 : ¬ (0 ≤ x) → kb_G p l e R s m args below meth c E A N nL g cells slots Q (pc + 3) lv (st)) : kb_G p l e R s m args below meth c E A N nL g cells slots Q pc lv (.int x :: st) := fun H locs ls h1 h2 h3 => lv_if_ge C.1 C.2.1 hd ht (fun hc => K1 hc H locs ls h1 h2 h3) (fun hc => K2 hc H locs ls h1 h2 h3)
theorem q_ifgt (C : kb_C l E A cc nL own Ts ret p s m args meth c) {x : Int32} {off : Int} {tgt : Nat} (hd : decode cc pc = .ok (.ifCond .gt off, 3)) (ht : (pc : Int) + off = (tgt : Int)) (K1 : (0 < x) → kb_G p l e R s m args below meth c E A N nL g cells slots Q tgt lv (st)) (K2 : ¬ (0 < x) → kb_G p l e R s m args below meth c E A N nL g cells slots Q (pc + 3) lv (st)) : kb_G p l e R s m args below meth c E A N nL g cells slots Q pc lv (.int x :: st) := fun H locs ls h1 h2 h3 => lv_if_gt C.1 C.2.1 hd ht (fun hc => K1 hc H locs ls h1 h2 h3) (fun hc => K2 hc H locs ls h1 h2 h3)
theorem q_ifle (C : kb_C l E A cc nL own Ts ret p s m args meth c) {x : Int32} {off : Int} {tgt : Nat} (hd : decode cc pc = .ok (.ifCond .le off, 3)) (ht : (pc : Int) + off = (tgt : Int)) (K1 : (x ≤ 0) → kb_G p l e R s m args below meth c E A N nL g cells slots Q tgt lv (st)) (K2 : ¬ (x ≤ 0) → kb_G p l e R s m args below meth c E A N nL g cells slots Q (pc + 3) lv (st)) : kb_G p l e R s m args below meth c E A N nL g cells slots Q pc lv (.int x :: st) := fun H locs ls h1 h2 h3 => lv_if_le C.1 C.2.1 hd ht (fun hc => K1 hc H locs ls h1 h2 h3) (fun hc => K2 hc H locs ls h1 h2 h3)
theorem q_icmpeq (C : kb_C l E A cc nL own Ts ret p s m args meth c) {x y : Int32} {off : Int} {tgt : Nat} (hd : decode cc pc = .ok (.if_icmp .eq off, 3)) (ht : (pc : Int) + off = (tgt : Int)) (K1 : (x = y) → kb_G p l e R s m args below meth c E A N nL g cells slots Q tgt lv (st)) (K2 : ¬ (x = y) → kb_G p l e R s m args below meth c E A N nL g cells slots Q (pc + 3) lv (st)) : kb_G p l e R s m args below meth c E A N nL g cells slots Q pc lv (.int y :: .int x :: st) := fun H locs ls h1 h2 h3 => lv_icmp_eq C.1 C.2.1 hd ht (fun hc => K1 hc H locs ls h1 h2 h3) (fun hc => K2 hc H locs ls h1 h2 h3)
theorem q_icmpne (C : kb_C l E A cc nL own Ts ret p s m args meth c) {x y : Int32} {off : Int} {tgt : Nat} (hd : decode cc pc = .ok (.if_icmp .ne off, 3)) (ht : (pc : Int) + off = (tgt : Int)) (K1 : (¬ x = y) → kb_G p l e R s m args below meth c E A N nL g cells slots Q tgt lv (st)) (K2 : x = y → kb_G p l e R s m args below meth c E A N nL g cells slots Q (pc + 3) lv (st)) : kb_G p l e R s m args below meth c E A N nL g cells slots Q pc lv (.int y :: .int x :: st) := fun H locs ls h1 h2 h3 => lv_icmp_ne C.1 C.2.1 hd ht (fun hc => K1 hc H locs ls h1 h2 h3) (fun hc => K2 hc H locs ls h1 h2 h3)
theorem q_icmplt (C : kb_C l E A cc nL own Ts ret p s m args meth c) {x y : Int32} {off : Int} {tgt : Nat} (hd : decode cc pc = .ok (.if_icmp .lt off, 3)) (ht : (pc : Int) + off = (tgt : Int)) (K1 : (x < y) → kb_G p l e R s m args below meth c E A N nL g cells slots Q tgt lv (st)) (K2 : ¬ (x < y) → kb_G p l e R s m args below meth c E A N nL g cells slots Q (pc + 3) lv (st)) : kb_G p l e R s m args below meth c E A N nL g cells slots Q pc lv (.int y :: .int x :: st) := fun H locs ls h1 h2 h3 => lv_icmp_lt C.1 C.2.1 hd ht (fun hc => K1 hc H locs ls h1 h2 h3) (fun hc => K2 hc H locs ls h1 h2 h3)
theorem q_icmpge (C : kb_C l E A cc nL own Ts ret p s m args meth c) {x y : Int32} {off : Int} {tgt : Nat} (hd : decode cc pc = .ok (.if_icmp .ge off, 3)) (ht : (pc : Int) + off = (tgt : Int)) (K1 : (y ≤ x) → kb_G p l e R s m args below meth c E A N nL g cells slots Q tgt lv (st)) (K2 : ¬ (y ≤ x) → kb_G p l e R s m args below meth c E A N nL g cells slots Q (pc + 3) lv (st)) : kb_G p l e R s m args below meth c E A N nL g cells slots Q pc lv (.int y :: .int x :: st) := fun H locs ls h1 h2 h3 => lv_icmp_ge C.1 C.2.1 hd ht (fun hc => K1 hc H locs ls h1 h2 h3) (fun hc => K2 hc H locs ls h1 h2 h3)
theorem q_icmpgt (C : kb_C l E A cc nL own Ts ret p s m args meth c) {x y : Int32} {off : Int} {tgt : Nat} (hd : decode cc pc = .ok (.if_icmp .gt off, 3)) (ht : (pc : Int) + off = (tgt : Int)) (K1 : (y < x) → kb_G p l e R s m args below meth c E A N nL g cells slots Q tgt lv (st)) (K2 : ¬ (y < x) → kb_G p l e R s m args below meth c E A N nL g cells slots Q (pc + 3) lv (st)) : kb_G p l e R s m args below meth c E A N nL g cells slots Q pc lv (.int y :: .int x :: st) := fun H locs ls h1 h2 h3 => lv_icmp_gt C.1 C.2.1 hd ht (fun hc => K1 hc H locs ls h1 h2 h3) (fun hc => K2 hc H locs ls h1 h2 h3)
theorem q_icmple (C : kb_C l E A cc nL own Ts ret p s m args meth c) {x y : Int32} {off : Int} {tgt : Nat} (hd : decode cc pc = .ok (.if_icmp .le off, 3)) (ht : (pc : Int) + off = (tgt : Int)) (K1 : (x ≤ y) → kb_G p l e R s m args below meth c E A N nL g cells slots Q tgt lv (st)) (K2 : ¬ (x ≤ y) → kb_G p l e R s m args below meth c E A N nL g cells slots Q (pc + 3) lv (st)) : kb_G p l e R s m args below meth c E A N nL g cells slots Q pc lv (.int y :: .int x :: st) := fun H locs ls h1 h2 h3 => lv_icmp_le C.1 C.2.1 hd ht (fun hc => K1 hc H locs ls h1 h2 h3) (fun hc => K2 hc H locs ls h1 h2 h3)
theorem q_goto (C : kb_C l E A cc nL own Ts ret p s m args meth c) {off : Int} {tgt : Nat} (hd : decode cc pc = .ok (.goto off, 3)) (ht : (pc : Int) + off = (tgt : Int)) (K : kb_G p l e R s m args below meth c E A N nL g cells slots Q tgt lv (st)) : kb_G p l e R s m args below meth c E A N nL g cells slots Q pc lv (st) := fun H locs ls h1 h2 h3 => lv_goto C.1 C.2.1 hd ht (K H locs ls h1 h2 h3)
theorem q_tableOut (C : kb_C l E A cc nL own Ts ret p s m args meth c) {dflt lo hi : Int} {offs : Array Int} {len : Nat} {x : Int32} {tgt : Nat} (hd : decode cc pc = .ok (.tableswitch dflt lo hi offs, len)) (h : x.toInt < lo ∨ hi < x.toInt) (ht : (pc : Int) + dflt = (tgt : Int)) (K : kb_G p l e R s m args below meth c E A N nL g cells slots Q tgt lv (st)) : kb_G p l e R s m args below meth c E A N nL g cells slots Q pc lv (.int x :: st) := fun H locs ls h1 h2 h3 => lv_tableOut C.1 C.2.1 hd h ht (K H locs ls h1 h2 h3)
theorem q_tableIn (C : kb_C l E A cc nL own Ts ret p s m args meth c) {dflt lo hi : Int} {offs : Array Int} {len : Nat} {x : Int32} {off : Int} {tgt : Nat} (hd : decode cc pc = .ok (.tableswitch dflt lo hi offs, len)) (ha : ¬ x.toInt < lo) (hb : ¬ hi < x.toInt) (ho : offs[(x.toInt - lo).toNat]? = some off) (ht : (pc : Int) + off = (tgt : Int)) (K : kb_G p l e R s m args below meth c E A N nL g cells slots Q tgt lv (st)) : kb_G p l e R s m args below meth c E A N nL g cells slots Q pc lv (.int x :: st) := fun H locs ls h1 h2 h3 => lv_tableIn C.1 C.2.1 hd ha hb ho ht (K H locs ls h1 h2 h3)
/-- a number on top by another name -/
theorem q_top {v w : Value} (h : v = w) (K : kb_G p l e R s m args below meth c E A N nL g cells slots Q pc lv (w :: st)) : kb_G p l e R s m args below meth c E A N nL g cells slots Q pc lv (v :: st) := h ▸ K
theorem q_eq {pc' : Nat} {lv' : List (Option Value)} {st' : List Value} (K : kb_G p l e R s m args below meth c E A N nL g cells slots Q pc' lv' (st')) (h1 : pc = pc') (h2 : lv = lv') (h3 : st = st') : kb_G p l e R s m args below meth c E A N nL g cells slots Q pc lv (st) := h1 ▸ h2 ▸ h3 ▸ K
theorem q_get (C : kb_C l E A cc nL own Ts ret p s m args meth c) {ci k index n NF : Nat} {ref C0 : String} {T : u_T} {fs : List Value} {v : Value} (hd : decode cc pc = .ok (.getfield index, 3)) (hn : n < N) (hg : g n = .inr (ci, fs)) (hc : vwCl[ci]? = some (C0, T, NF)) (hin : ∀ w ∈ u_ws C0 T NF, w ∈ Ts) (hk : k < NF) (hw : Cond.fieldLink own index ref (T k).2.1 (T k).2.2.1 ∈ Ts) (hr : ref = (T k).1) (hv : fs[k]? = some v) (K : kb_G p l e R s m args below meth c E A N nL g cells slots Q (pc + 3) lv (v :: st)) : kb_G p l e R s m args below meth c E A N nL g cells slots Q pc lv (.ref (E.2.2.2 n) :: st) := fun H locs ls h1 h2 h3 =>
  va_get C.1 C.2.1 C.2.2.2.2.1 hin C.2.2.2.1 C.2.2.2.2.2.2.2.1 h1.1 n ((kb_W_at hn).trans (by rw [hg])) hc k hk (C.2.2.2.2.1 _ hw) (fun x hx => by rw [hr]; exact hx) hv hd (K H locs ls h1 h2 h3)
theorem q_getN (C : kb_C l E A cc nL own Ts ret p s m args meth c) {ci k index n NF : Nat} {ref C0 host : String} {T : u_T} {fs : List Value} {v : Value} (hd : decode cc pc = .ok (.getfield index, 3)) (hn : n < N) (hg : g n = .inr (ci, fs)) (hc : vwCl[ci]? = some (C0, T, NF)) (hin : ∀ w ∈ u_ws C0 T NF, w ∈ Ts) (hk : k < NF) (hw : (own, index, ref, (T k).2.1, (T k).2.2.1, host) ∈ kb_nestF) (hr : ref = (T k).1) (hv : fs[k]? = some v) (K : kb_G p l e R s m args below meth c E A N nL g cells slots Q (pc + 3) lv (v :: st)) : kb_G p l e R s m args below meth c E A N nL g cells slots Q pc lv (.ref (E.2.2.2 n) :: st) := fun H locs ls h1 h2 h3 =>
  va_getN C.1 C.2.1 C.2.2.2.2.1 hin C.2.2.2.1 C.2.2.2.2.2.2.2.1 h1.1 n ((kb_W_at hn).trans (by rw [hg])) hc k hk (va_Nw.use rfl (C.2.2.2.2.2.2.2.2.2.1 _ hw)) (fun x hx => by rw [hr]; exact hx) hv hd (K H locs ls h1 h2 h3)
theorem q_put (C : kb_C l E A cc nL own Ts ret p s m args meth c) {ci k index n NF : Nat} {ref C0 host : String} {T : u_T} {ty0 : Nat → FieldType} {fs : List Value} {v : Value} {ty : FieldType} (hd : decode cc pc = .ok (.putfield index, 3)) (hn : n < N) (hg : g n = .inr (ci, fs)) (hc : vwCl[ci]? = some (C0, T, NF)) (hin : ∀ w ∈ u_ws C0 T NF, w ∈ Ts) (hty : ∀ k, k < NF → parseFieldDescriptor (T k).2.2.1 = some (ty0 k)) (hnm : ∀ a, a < NF → ∀ b, b < NF → a ≠ b → (T a).2.1 ≠ (T b).2.1) (hk : k < NF) (hw : Cond.fieldLink own index ref (T k).2.1 (T k).2.2.1 ∈ Ts) (hr : ref = (T k).1) (hfin : (T k).2.2.2 = false) (hp : parseFieldDescriptor (T k).2.2.1 = some ty) (hna : narrow ty v = v) (hfit : fits ty v = true) (hl : k < fs.length) (K : kb_G p l e R s m args below meth c E A N nL (va_up g n (.inr (ci, fs.set k v))) cells slots Q (pc + 3) lv (st)) : kb_G p l e R s m args below meth c E A N nL g cells slots Q pc lv (v :: .ref (E.2.2.2 n) :: st) := fun H locs ls h1 h2 h3 =>
  va_put C.1 C.2.1 C.2.2.2.2.1 hin ty0 hty hnm C.2.2.2.1 C.2.2.2.2.2.2.2.1 h1.1 h1.2 h2 n ((kb_W_at hn).trans (by rw [hg])) hc k hk (C.2.2.2.2.1 _ hw) (fun x hx => by rw [hr]; exact hx) hfin hp hna hfit hl hd (fun H1 locs1 a b c => K H1 locs1 ls ⟨by rw [← kb_W_set _ hn]; exact a, by rw [← kb_W_set _ hn]; exact b⟩ c h3)
theorem q_putN (C : kb_C l E A cc nL own Ts ret p s m args meth c) {ci k index n NF : Nat} {ref C0 host : String} {T : u_T} {ty0 : Nat → FieldType} {fs : List Value} {v : Value} {ty : FieldType} (hd : decode cc pc = .ok (.putfield index, 3)) (hn : n < N) (hg : g n = .inr (ci, fs)) (hc : vwCl[ci]? = some (C0, T, NF)) (hin : ∀ w ∈ u_ws C0 T NF, w ∈ Ts) (hty : ∀ k, k < NF → parseFieldDescriptor (T k).2.2.1 = some (ty0 k)) (hnm : ∀ a, a < NF → ∀ b, b < NF → a ≠ b → (T a).2.1 ≠ (T b).2.1) (hk : k < NF) (hw : (own, index, ref, (T k).2.1, (T k).2.2.1, host) ∈ kb_nestF) (hr : ref = (T k).1) (hfin : (T k).2.2.2 = false) (hp : parseFieldDescriptor (T k).2.2.1 = some ty) (hna : narrow ty v = v) (hfit : fits ty v = true) (hl : k < fs.length) (K : kb_G p l e R s m args below meth c E A N nL (va_up g n (.inr (ci, fs.set k v))) cells slots Q (pc + 3) lv (st)) : kb_G p l e R s m args below meth c E A N nL g cells slots Q pc lv (v :: .ref (E.2.2.2 n) :: st) := fun H locs ls h1 h2 h3 =>
  va_putN C.1 C.2.1 C.2.2.2.2.1 hin ty0 hty hnm C.2.2.2.1 C.2.2.2.2.2.2.2.1 h1.1 h1.2 h2 n ((kb_W_at hn).trans (by rw [hg])) hc k hk (va_Nw.use rfl (C.2.2.2.2.2.2.2.2.2.1 _ hw)) (fun x hx => by rw [hr]; exact hx) hfin hp hna hfit hl hd (fun H1 locs1 a b c => K H1 locs1 ls ⟨by rw [← kb_W_set _ hn]; exact a, by rw [← kb_W_set _ hn]; exact b⟩ c h3)
theorem q_iald (C : kb_C l E A cc nL own Ts ret p s m args meth c) {n len : Nat} {f : Nat → Int32} {i : Int32} (hd : decode cc pc = .ok (.iaload, 1)) (hn : n < N) (hg : g n = .inl (E.2.2.1 0, len, .inl f)) (hi : vp_in i len) (K : kb_G p l e R s m args below meth c E A N nL g cells slots Q (pc + 1) lv (.int (f i.toNatClampNeg) :: st)) : kb_G p l e R s m args below meth c E A N nL g cells slots Q pc lv (.int i :: .ref (E.2.2.2 n) :: st) := fun H locs ls h1 h2 h3 =>
  va_iald C.1 C.2.1 C.2.2.2.2.2.2.2.1 h1.1 n 0 ((kb_W_at hn).trans (by rw [hg])) rfl hi hd (K H locs ls h1 h2 h3)
theorem q_lald (C : kb_C l E A cc nL own Ts ret p s m args meth c) {n len : Nat} {f : Nat → Int64} {i : Int32} (hd : decode cc pc = .ok (.laload, 1)) (hn : n < N) (hg : g n = .inl (E.2.2.1 1, len, .inr (.inl f))) (hi : vp_in i len) (K : kb_G p l e R s m args below meth c E A N nL g cells slots Q (pc + 1) lv (.long (f i.toNatClampNeg) :: st)) : kb_G p l e R s m args below meth c E A N nL g cells slots Q pc lv (.int i :: .ref (E.2.2.2 n) :: st) := fun H locs ls h1 h2 h3 =>
  va_lald C.1 C.2.1 C.2.2.2.2.2.2.2.1 h1.1 n 1 ((kb_W_at hn).trans (by rw [hg])) rfl hi hd (K H locs ls h1 h2 h3)
theorem q_zald (C : kb_C l E A cc nL own Ts ret p s m args meth c) {n len : Nat} {f : Nat → Int32} {i : Int32} (hd : decode cc pc = .ok (.baload, 1)) (hn : n < N) (hg : g n = .inl (E.2.2.1 2, len, .inl f)) (hi : vp_in i len) (K : kb_G p l e R s m args below meth c E A N nL g cells slots Q (pc + 1) lv (.int (f i.toNatClampNeg) :: st)) : kb_G p l e R s m args below meth c E A N nL g cells slots Q pc lv (.int i :: .ref (E.2.2.2 n) :: st) := fun H locs ls h1 h2 h3 =>
  va_zald C.1 C.2.1 C.2.2.2.2.2.2.2.1 h1.1 n 2 ((kb_W_at hn).trans (by rw [hg])) rfl hi hd (K H locs ls h1 h2 h3)
theorem q_aald (C : kb_C l E A cc nL own Ts ret p s m args meth c) {n len t0 q : Nat} {C0 : String} {f : Nat → Option Nat} {i : Int32} (hd : decode cc pc = .ok (.aaload, 1)) (hn : n < N) (hg : g n = .inl (E.2.2.1 t0, len, .inr (.inr (.inr (.inr f))))) (ht : (kb_tys E)[t0]? = some (E.2.2.1 t0, .object C0)) (hi : vp_in i len) (hf : f i.toNatClampNeg = some q) (K : kb_G p l e R s m args below meth c E A N nL g cells slots Q (pc + 1) lv (.ref q :: st)) : kb_G p l e R s m args below meth c E A N nL g cells slots Q pc lv (.int i :: .ref (E.2.2.2 n) :: st) := fun H locs ls h1 h2 h3 =>
  va_aldq C.1 C.2.1 C.2.2.2.2.2.2.2.1 h1.1 n t0 ((kb_W_at hn).trans (by rw [hg])) ht hi hd (by rw [hf]; exact K H locs ls h1 h2 h3)
theorem q_iast (C : kb_C l E A cc nL own Ts ret p s m args meth c) {n len : Nat} {f : Nat → Int32} {i : Int32} {x : Int32} (hd : decode cc pc = .ok (.iastore, 1)) (hn : n < N) (hg : g n = .inl (E.2.2.1 0, len, .inl f)) (hi : vp_in i len) (K : kb_G p l e R s m args below meth c E A N nL (va_up g n (.inl (E.2.2.1 0, len, .inl (upd f i.toNatClampNeg x)))) cells slots Q (pc + 1) lv (st)) : kb_G p l e R s m args below meth c E A N nL g cells slots Q pc lv (.int x :: .int i :: .ref (E.2.2.2 n) :: st) := fun H locs ls h1 h2 h3 =>
  va_iast C.1 C.2.1 C.2.2.2.2.2.2.2.1 h1.1 h1.2 h2 n 0 ((kb_W_at hn).trans (by rw [hg])) rfl hi hd (fun H1 locs1 a b c => K H1 locs1 ls ⟨by rw [← kb_W_set _ hn]; exact a, by rw [← kb_W_set _ hn]; exact b⟩ c h3)
theorem q_last (C : kb_C l E A cc nL own Ts ret p s m args meth c) {n len : Nat} {f : Nat → Int64} {i : Int32} {x : Int64} (hd : decode cc pc = .ok (.lastore, 1)) (hn : n < N) (hg : g n = .inl (E.2.2.1 1, len, .inr (.inl f))) (hi : vp_in i len) (K : kb_G p l e R s m args below meth c E A N nL (va_up g n (.inl (E.2.2.1 1, len, .inr (.inl (vp_updL f i.toNatClampNeg x))))) cells slots Q (pc + 1) lv (st)) : kb_G p l e R s m args below meth c E A N nL g cells slots Q pc lv (.long x :: .int i :: .ref (E.2.2.2 n) :: st) := fun H locs ls h1 h2 h3 =>
  va_last C.1 C.2.1 C.2.2.2.2.2.2.2.1 h1.1 h1.2 h2 n 1 ((kb_W_at hn).trans (by rw [hg])) rfl hi hd (fun H1 locs1 a b c => K H1 locs1 ls ⟨by rw [← kb_W_set _ hn]; exact a, by rw [← kb_W_set _ hn]; exact b⟩ c h3)
theorem q_zast (C : kb_C l E A cc nL own Ts ret p s m args meth c) {n len : Nat} {f : Nat → Int32} {i : Int32} {x : Int32} (hd : decode cc pc = .ok (.bastore, 1)) (hn : n < N) (hg : g n = .inl (E.2.2.1 2, len, .inl f)) (hi : vp_in i len) (K : kb_G p l e R s m args below meth c E A N nL (va_up g n (.inl (E.2.2.1 2, len, .inl (upd f i.toNatClampNeg (vp_nar .boolean x))))) cells slots Q (pc + 1) lv (st)) : kb_G p l e R s m args below meth c E A N nL g cells slots Q pc lv (.int x :: .int i :: .ref (E.2.2.2 n) :: st) := fun H locs ls h1 h2 h3 =>
  va_zast C.1 C.2.1 C.2.2.2.2.2.2.2.1 h1.1 h1.2 h2 n 2 ((kb_W_at hn).trans (by rw [hg])) rfl hi hd (fun H1 locs1 a b c => K H1 locs1 ls ⟨by rw [← kb_W_set _ hn]; exact a, by rw [← kb_W_set _ hn]; exact b⟩ c h3)
theorem q_alen (C : kb_C l E A cc nL own Ts ret p s m args meth c) {n len t0 : Nat} {ty : FieldType} {w} {v : Int32} (hd : decode cc pc = .ok (.arraylength, 1)) (hn : n < N) (hg : g n = .inl (E.2.2.1 t0, len, w)) (ht : (kb_tys E)[t0]? = some (E.2.2.1 t0, ty)) (hv : Int32.ofNat len = v) (K : kb_G p l e R s m args below meth c E A N nL g cells slots Q (pc + 1) lv (.int v :: st)) : kb_G p l e R s m args below meth c E A N nL g cells slots Q pc lv (.ref (E.2.2.2 n) :: st) := fun H locs ls h1 h2 h3 =>
  va_alen C.1 C.2.1 C.2.2.2.2.2.2.2.1 h1.1 n t0 ((kb_W_at hn).trans (by rw [hg])) ht hv hd (K H locs ls h1 h2 h3)
end KBR
end
section
/-! ===== contracts over the numbered world; entering, leaving, calling ===== -/
/-- what holds at a method's start: the world holds g -/
def kb_PR (l : Launch) (E : kb_E) (N sz : Nat) (g : Nat → va_E) (U : State) : Prop := U.heap.size = sz ∧ kb_HW E (fun _ => True) N g U.heap ∧ va_K (kb_D E) vwCl (kb_tys E) U ∧ kb_O l E (kb_A E N sz) U U.heap
/-- what holds where it has returned: some answer v and some contents g' of which post speaks -/
def kb_Qc (E : kb_E) (N sz : Nat) (post : Option Value → (Nat → va_E) → Prop) : Array Value → State → Outcome → State → Prop := fun _ st oc t => ∃ (v : Option Value) (g' : Nat → va_E), oc = .returned v ∧ post v g' ∧ kb_HW E (fun _ => True) N g' t.heap ∧ va_F (kb_A E N sz) st t
def kb_XC (E : kb_E) (N sz : Nat) (g : Nat → va_E) (thr : String → Prop) : String → State → State → Prop := fun X st t => thr X ∧ kb_HW E (fun _ => True) N g t.heap ∧ va_F (kb_A E N sz) st t
def kb_Met (l : Launch) (E : kb_E) (N : Nat) (y : MethodName) (ws : List Cond) (rm : Room) (av : List Value) (g : Nat → va_E) (post : Option Value → (Nat → va_E) → Prop) : Prop :=
  ∀ sz, Met l y ws rm (va_Pc av (kb_PR l E N sz g)) (kb_Qc E N sz post) rm.cells rm.slots (kb_A E N sz)
def kb_MetX (l : Launch) (E : kb_E) (N : Nat) (y : MethodName) (ws : List Cond) (rm : Room) (av : List Value) (g : Nat → va_E) (post : Option Value → (Nat → va_E) → Prop) (thr : String → Prop) : Prop :=
  ∀ sz, vx_Met l y ws rm (va_Pc av (kb_PR l E N sz g)) (kb_Qc E N sz post) (kb_XC E N sz g thr) rm.cells rm.slots (kb_A E N sz)
theorem kb_blind {l : Launch} {E : kb_E} {N sz : Nat} {g : Nat → va_E} {av : List Value} : FrameBlind (va_Pc av (kb_PR l E N sz g)) := by
  intro a U gf mk h
  obtain ⟨h0, h1, h2, h3, h4⟩ := h
  exact ⟨h0, h1, h2, va_K.moved (u := U) (U := U.calling gf mk a) (Vm.Alike.refl U.vm) h3, h4.go (U := U.calling gf mk a) (State.WarmedH.refl U) (fun _ _ _ => rfl) (fun _ h => h)⟩
theorem kb_D_any {E : kb_E} {A : Nat → Prop} {N : Nat} {g g' : Nat → va_E} (h : va_D A (kb_W E N g)) : va_D A (kb_W E N g') := by
  have key : ∀ (gg : Nat → va_E) (i : Nat) (q : Nat × va_E), (kb_W E N gg)[i]? = some q → i < N ∧ q.1 = E.2.2.2 i := by
    intro gg i q hq
    have hi : i < N := by
      have := (List.getElem?_eq_some_iff.mp hq).1
      simpa [kb_W] using this
    rw [kb_W_at hi] at hq
    cases hq
    exact ⟨hi, rfl⟩
  refine ⟨fun i j p q hp hq hpq => ?_, fun k q hk => ?_⟩
  · obtain ⟨hi, e1⟩ := key _ _ _ hp
    obtain ⟨hj, e2⟩ := key _ _ _ hq
    exact h.1 i j _ _ (kb_W_at hi) (kb_W_at hj) (by show E.2.2.2 i = E.2.2.2 j; rw [← e1, ← e2]; exact hpq)
  · obtain ⟨hk', e1⟩ := key _ _ _ hk
    rw [e1]
    exact h.2 k _ (kb_W_at hk')
theorem kb_D_A {E : kb_E} {A : Nat → Prop} {N sz : Nat} {g : Nat → va_E} (h : va_D A (kb_W E N g)) : va_D (kb_A E N sz) (kb_W E N g) := by
  refine ⟨h.1, fun k q hk => Or.inl ?_⟩
  have hi : k < N := by
    have := (List.getElem?_eq_some_iff.mp hk).1
    simpa [kb_W] using this
  rw [kb_W_at hi] at hk
  cases hk
  exact ⟨k, hi, rfl⟩
theorem kb_D_T {A : Nat → Prop} {ws : va_W} (h : va_D A ws) : va_D (fun _ => True) ws := ⟨h.1, fun _ _ _ => trivial⟩
theorem kb_lv0 (av : List Value) (h : ∀ v ∈ av, v.category = 1) : ∀ (k i : Nat) (v : Value), av[i]? = some v → (k + i, v) ∈ lv_args k av := by
  induction av with
  | nil => intro k i v hv; simp at hv
  | cons a as ih =>
    intro k i v hv
    have ha : a.category = 1 := h a List.mem_cons_self
    cases i with
    | zero =>
      simp only [List.getElem?_cons_zero, Option.some.injEq] at hv
      subst hv
      exact List.mem_cons_self
    | succ i =>
      simp only [List.getElem?_cons_succ] at hv
      unfold lv_args
      refine List.mem_cons_of_mem _ ?_
      rw [if_neg (by omega)]
      have := ih (fun v hv => h v (List.mem_cons_of_mem _ hv)) (k + 1) i v hv
      rw [show k + (i + 1) = k + 1 + i by omega]
      exact this
theorem kb_sl (av : List Value) (h : ∀ v ∈ av, v.category = 1) : (lg_sl av).length = av.length := by
  induction av with
  | nil => rfl
  | cons a as ih =>
    have ha : a.category = 1 := h a List.mem_cons_self
    have := ih (fun v hv => h v (List.mem_cons_of_mem _ hv))
    have e1 : lg_sl (a :: as) = .val a :: lg_sl as := by simp [lg_sl, ha]
    rw [e1, List.length_cons, List.length_cons, this]
theorem kb_L0 {av : List Value} {n : Nat} (h : ∀ v ∈ av, v.category = 1) (hn : av.length ≤ n) : kb_L ((lg_sl av ++ List.replicate (n - (lg_sl av).length) Slot.unset).toArray) n (av.map some ++ List.replicate (n - av.length) none) := by
  refine kb_L.of (lv_entry av (by rw [kb_sl av h]; exact hn)) (fun i v hv => ?_)
  have hi : av[i]? = some v := by
    rcases Nat.lt_or_ge i av.length with q | q
    · rw [List.getElem?_append_left (by simpa using q), List.getElem?_map] at hv
      cases h1 : av[i]? with
      | none => rw [h1] at hv; cases hv
      | some w => rw [h1] at hv; simpa using hv
    · rw [List.getElem?_append_right (by simpa using q), List.getElem?_replicate] at hv
      split at hv <;> cases hv
  have := kb_lv0 av h 0 i v hi
  simpa using this
section KBC
variable {l : Launch} {E : kb_E} {N : Nat} {y : MethodName} {ws ws' : List Cond} {rm : Room} {av : List Value} {g : Nat → va_E} {post : Option Value → (Nat → va_E) → Prop} {thr : String → Prop} {cc : ByteArray} {maxL : Nat} {ret : Option FieldType}
theorem kb_cx {p : Program} {e : Env} {s : State} {m : MethodId} {args : Array Value} {below : List Frame} {meth : Method} {c : Code} {s₁ : State} (B : BodyLoose p l y (headSpec ws rm) cc maxL ret e s m args below meth c s₁) (hml : c.maxLocals = maxL) (hp : kb_PR l E N s.heap.size g s) : kb_C l E (kb_A E N s.heap.size) cc maxL y.cls ws ret p s m args meth c :=
  ⟨B.exec, B.bytes, hml, findClass_of_methodNamed B.named, atoms_spec (ws := ws) B.pre, B.returns, B.notSynchronized, hp.2.2.1, fun _ h => Or.inr h, hp.2.2.2⟩
/-- a method that returns: its body's walk from the entry -/
theorem kb_enter (hy : plainName y.cls = true) (hw : ws = Cond.code y cc maxL ret :: ws') (hav : ∀ v ∈ av, v.category = 1) (hn : av.length ≤ maxL)
    (body : ∀ (p : Program) (e : Env) (s : State) (m : MethodId) (args : Array Value) (below : List Frame) (meth : Method) (c : Code), kb_C l E (kb_A E N s.heap.size) cc maxL y.cls ws ret p s m args meth c → (y.name = "<init>" → meth.name = "<init>") →
      kb_G p l e rm s m args below meth c E (kb_A E N s.heap.size) N maxL g 0 0 (MQ below (kb_Qc E N s.heap.size post) args s rm.cells rm.slots (kb_A E N s.heap.size)) 0 (av.map some ++ List.replicate (maxL - av.length) none) []) : kb_Met l E N y ws rm av g post := by
  intro sz
  refine Met.ofW (cc := cc) (maxL := maxL) (ret := ret) hy hw ?_
  intro p e s m args below meth c s₁ B hml hv
  obtain ⟨rfl, hp⟩ := hv
  have hsz := hp.1
  subst hsz
  rw [lg_entry_eq]
  exact body p e s m _ below meth c (kb_cx B hml hp) (fun h => by rw [← h]; exact (name_of_methodNamed B.named B.method).1) s.heap [] _ ⟨hp.2.1.1, kb_D_A hp.2.1.2⟩ va_S.rf (kb_L0 hav hn)
/-- a method that may throw -/
theorem kb_enterX (hy : plainName y.cls = true) (hw : ws = Cond.code y cc maxL ret :: ws') (hav : ∀ v ∈ av, v.category = 1) (hn : av.length ≤ maxL)
    (body : ∀ (p : Program) (e : Env) (s : State) (m : MethodId) (args : Array Value) (below : List Frame) (meth : Method) (c : Code), kb_C l E (kb_A E N s.heap.size) cc maxL y.cls ws ret p s m args meth c → (∀ x ∈ c.exceptionTable.toList, False) →
      kb_G p l e rm s m args below meth c E (kb_A E N s.heap.size) N maxL g 0 0 (vx_MQ below (kb_Qc E N s.heap.size post) (kb_XC E N s.heap.size g thr) args s rm.cells rm.slots (kb_A E N s.heap.size)) 0 (av.map some ++ List.replicate (maxL - av.length) none) []) : kb_MetX l E N y ws rm av g post thr := by
  intro sz
  refine vx_ofW (cc := cc) (maxL := maxL) (ret := ret) hy hw ?_
  intro p e s m args below meth c s₁ B hml hx hv
  obtain ⟨rfl, hp⟩ := hv
  have hsz := hp.1
  subst hsz
  rw [lg_entry_eq]
  exact body p e s m _ below meth c (kb_cx B hml hp) hx s.heap [] _ ⟨hp.2.1.1, kb_D_A hp.2.1.2⟩ va_S.rf (kb_L0 hav hn)
end KBC
section KBX
variable {p : Program} {l : Launch} {e : Env} {R : Room} {s : State} {m : MethodId} {args : Array Value} {below : List Frame} {meth : Method} {c : Code} {E : kb_E} {A : Nat → Prop} {N : Nat} {g g' : Nat → va_E} {cells slots : Nat} {Q : State → Prop} {cc : ByteArray} {nL : Nat} {own : String} {Ts : List Cond} {ret : Option FieldType} {pc : Nat} {lv : List (Option Value)} {st : List Value} {post : Option Value → (Nat → va_E) → Prop} {thr : String → Prop}
theorem q_widen {k n : Nat} (h1 : cells ≤ k) (h2 : slots ≤ n) (K : kb_G p l e R s m args below meth c E A N nL g k n Q pc lv st) : kb_G p l e R s m args below meth c E A N nL g cells slots Q pc lv st := fun H locs ls a b d => W.widen (k := k) (n := n) h1 h2 (K H locs ls a b d)
theorem q_world (h : g = g') (K : kb_G p l e R s m args below meth c E A N nL g' cells slots Q pc lv st) : kb_G p l e R s m args below meth c E A N nL g cells slots Q pc lv st := h ▸ K
theorem q_iret (C : kb_C l E (kb_A E N s.heap.size) cc nL own Ts (some .int) p s m args meth c) {v : Int32} (hd : decode cc pc = .ok (.ireturn, 1)) (hp : post (some (.int v)) g) : kb_G p l e R s m args below meth c E (kb_A E N s.heap.size) N nL g cells slots (MQ below (kb_Qc E N s.heap.size post) args s cells slots (kb_A E N s.heap.size)) pc lv [.int v] := fun H locs ls h1 h2 h3 =>
  W.iret C.1 C.2.1 C.2.2.2.2.2.1 (fun t ht _ => ⟨_, g, rfl, hp, by rw [ht]; exact ⟨h1.1, kb_D_T h1.2⟩, h2.F ht⟩) h2.2.2 hd C.2.2.2.2.2.2.1
theorem q_zret (C : kb_C l E (kb_A E N s.heap.size) cc nL own Ts (some .boolean) p s m args meth c) {v : Int32} (hd : decode cc pc = .ok (.ireturn, 1)) (hn : narrow .boolean (.int v) = .int v) (hp : post (some (.int v)) g) : kb_G p l e R s m args below meth c E (kb_A E N s.heap.size) N nL g cells slots (MQ below (kb_Qc E N s.heap.size post) args s cells slots (kb_A E N s.heap.size)) pc lv [.int v] := fun H locs ls h1 h2 h3 =>
  W.zret C.1 C.2.1 C.2.2.2.2.2.1 hn (fun t ht _ => ⟨_, g, rfl, hp, by rw [ht]; exact ⟨h1.1, kb_D_T h1.2⟩, h2.F ht⟩) h2.2.2 hd C.2.2.2.2.2.2.1
theorem q_lret (C : kb_C l E (kb_A E N s.heap.size) cc nL own Ts (some .long) p s m args meth c) {v : Int64} (hd : decode cc pc = .ok (.lreturn, 1)) (hp : post (some (.long v)) g) : kb_G p l e R s m args below meth c E (kb_A E N s.heap.size) N nL g cells slots (MQ below (kb_Qc E N s.heap.size post) args s cells slots (kb_A E N s.heap.size)) pc lv [.long v] := fun H locs ls h1 h2 h3 =>
  W.lret C.1 C.2.1 C.2.2.2.2.2.1 (fun t ht _ => ⟨_, g, rfl, hp, by rw [ht]; exact ⟨h1.1, kb_D_T h1.2⟩, h2.F ht⟩) h2.2.2 hd C.2.2.2.2.2.2.1
theorem q_aret {rt : String} (C : kb_C l E (kb_A E N s.heap.size) cc nL own Ts (some (.object rt)) p s m args meth c) {v : Nat} (hd : decode cc pc = .ok (.areturn, 1)) (hp : post (some (.ref v)) g) : kb_G p l e R s m args below meth c E (kb_A E N s.heap.size) N nL g cells slots (MQ below (kb_Qc E N s.heap.size post) args s cells slots (kb_A E N s.heap.size)) pc lv [.ref v] := fun H locs ls h1 h2 h3 =>
  W.aret C.1 C.2.1 C.2.2.2.2.2.1 (Or.inl ⟨_, rfl⟩) (Or.inr ⟨_, rfl⟩) (fun t ht _ => ⟨_, g, rfl, hp, by rw [ht]; exact ⟨h1.1, kb_D_T h1.2⟩, h2.F ht⟩) h2.2.2 hd C.2.2.2.2.2.2.1
theorem q_vret (C : kb_C l E (kb_A E N s.heap.size) cc nL own Ts none p s m args meth c) (hd : decode cc pc = .ok (.return_, 1)) (hp : post none g) : kb_G p l e R s m args below meth c E (kb_A E N s.heap.size) N nL g cells slots (MQ below (kb_Qc E N s.heap.size post) args s cells slots (kb_A E N s.heap.size)) pc lv [] := fun H locs ls h1 h2 h3 =>
  W.vret C.1 C.2.1 C.2.2.2.2.2.1 (fun t ht _ => ⟨_, g, rfl, hp, by rw [ht]; exact ⟨h1.1, kb_D_T h1.2⟩, h2.F ht⟩) h2.2.2 hd C.2.2.2.2.2.2.1
/-- out of a body that may throw, by returning -/
theorem q_retX {Qc : Array Value → State → Outcome → State → Prop} {XC : String → State → State → Prop} {free : Addr → Prop} {mc ms : Nat} (h1 : cells ≤ mc) (h2 : slots ≤ ms) (K : kb_G p l e R s m args below meth c E A N nL g mc ms (MQ below Qc args s mc ms free) pc lv st) : kb_G p l e R s m args below meth c E A N nL g cells slots (vx_MQ below Qc XC args s mc ms free) pc lv st := fun H locs ls a b d => vx_ret (W.widen (k := mc) (n := ms) h1 h2 (K H locs ls a b d))
theorem kb_SF {H H1 : Heap} {locs L : List Loc} (hD : va_D A (kb_W E N g)) (hA : ∀ q, s.heap.size ≤ q → A q) (hS : va_S A s.heap H locs) (hz : H.size ≤ H1.size) (hk : ∀ q : Nat, q < H.size → ¬ kb_A E N H.size q → H1[q]? = H[q]?) (hL : ∀ q ∈ L, kb_A E N H.size q.base) : va_S A s.heap H1 (locs ++ L) := by
  have hAA : ∀ q, kb_A E N H.size q → A q := by
    intro q h
    rcases h with ⟨n, hn, rfl⟩ | h
    · exact hD.2 n _ (kb_W_at hn)
    · exact hA q (Nat.le_trans hS.1 h)
  refine ⟨Nat.le_trans hS.1 hz, fun q h1 h2 => ?_, fun q hq => ?_⟩
  · rw [hk q (Nat.lt_of_lt_of_le h1 hS.1) (fun h => h2 (hAA q h))]
    exact hS.2.1 q h1 h2
  · rcases List.mem_append.mp hq with h | h
    · exact hS.2.2 q h
    · exact hAA _ (hL q h)
theorem kb_pre (C : kb_C l E A cc nL own Ts ret p s m args meth c) {H : Heap} {locs : List Loc} (h1 : kb_HW E A N g H) (h2 : va_S A s.heap H locs) {U : State} (hU : U.heap = H) (hW : s.WarmedH U.vm) : kb_PR l E N H.size g U := by
  refine ⟨by rw [hU], ⟨by rw [hU]; exact h1.1, kb_D_T h1.2⟩, va_K.moved hW.alike C.2.2.2.2.2.2.2.1, ?_⟩
  refine C.2.2.2.2.2.2.2.2.2.go hW ?_ ?_
  · intro a ha hn
    rw [hU]
    exact h2.2.1 a ha hn
  · intro q h
    rcases h with ⟨n, hn, rfl⟩ | h
    · exact h1.2.2 n _ (kb_W_at hn)
    · exact C.2.2.2.2.2.2.2.2.1 q (Nat.le_trans h2.1 h)
theorem kb_call {mc ms : Nat} {rest st0 : List Value} {a : Array Value} (C : kb_C l E A cc nL own Ts ret p s m args meth c)
    (hr : ∀ (H : Heap) (locs : List Loc) (ls : Array Slot), kb_HW E A N g H → va_S A s.heap H locs → kb_L ls nL lv → va_Run p l e R s m args below meth c H locs cells slots mc ms (F0 m pc ls st0) rest (kb_Qc E N H.size post a) (kb_A E N H.size))
    (K : ∀ (v : Option Value) (g' : Nat → va_E), post v g' → kb_G p l e R s m args below meth c E A N nL g' (cells + mc) (slots + ms) Q (pc + 3) lv (v.toList ++ rest)) : kb_G p l e R s m args below meth c E A N nL g cells slots Q pc lv st0 := by
  intro H locs ls h1 h2 h3 T hT X
  obtain ⟨v, st₀, t, T', L, h0, X', hL, e1, e2, ⟨v', g', hv, hp, hHW, hF⟩, go⟩ := hr H locs ls h1 h2 h3 T hT X
  cases hv
  have hz : H.size ≤ T'.heap.size := by rw [e1, ← h0]; exact hF.1
  have hk : ∀ q : Nat, q < H.size → ¬ kb_A E N H.size q → T'.heap[q]? = H[q]? := fun q a b => by rw [e1, ← h0]; exact hF.2 q (by rw [h0]; exact a) b
  obtain ⟨t2, a1, b1⟩ := K v g' hp T'.heap (locs ++ L) ls ⟨by rw [e1]; exact hHW.1, kb_D_any h1.2⟩ (kb_SF h1.2 C.2.2.2.2.2.2.2.2.1 h2 hz hk hL) h3 T' rfl X'
  exact ⟨t2, go t2 a1, b1⟩
theorem kb_callX {mc ms : Nat} {rest st0 : List Value} {a : Array Value} (C : kb_C l E A cc nL own Ts ret p s m args meth c)
    (hr : ∀ (H : Heap) (locs : List Loc) (ls : Array Slot), kb_HW E A N g H → va_S A s.heap H locs → kb_L ls nL lv → vx_Run p l e R s m args below meth c H locs cells slots mc ms (F0 m pc ls st0) rest (kb_Qc E N H.size post a) (kb_XC E N H.size g thr) (kb_A E N H.size))
    (K : ∀ (v : Option Value) (g' : Nat → va_E), post v g' → kb_G p l e R s m args below meth c E A N nL g' (cells + mc) (slots + ms) Q (pc + 3) lv (v.toList ++ rest))
    (KX : ∀ (X : String) (ce : Cell) (q : Addr) (H : Heap) (locs : List Loc) (ls : Array Slot), thr X → kb_HW E A N g H → va_S A s.heap H locs → kb_L ls nL lv → H[q]? = some ce → ce.vm = .none → s.vm.findClass X = some ce.cls → vx_W p l e R s m args below meth c H locs (cells + mc) (slots + ms) Q (F0 m pc ls rest) q) : kb_G p l e R s m args below meth c E A N nL g cells slots Q pc lv st0 := by
  intro H locs ls h1 h2 h3 T hT X
  rcases hr H locs ls h1 h2 h3 T hT X with ⟨v, st₀, t, T', L, h0, X', hL, e1, e2, ⟨v', g', hv, hp, hHW, hF⟩, go⟩ | ⟨q, st₀, t, T', L, X9, ce, h0, X', hL, e1, e2, ⟨ht, hHW, hF⟩, hce, hcv, hcl, go⟩
  · cases hv
    have hz : H.size ≤ T'.heap.size := by rw [e1, ← h0]; exact hF.1
    have hk : ∀ q : Nat, q < H.size → ¬ kb_A E N H.size q → T'.heap[q]? = H[q]? := fun q a b => by rw [e1, ← h0]; exact hF.2 q (by rw [h0]; exact a) b
    obtain ⟨t2, a1, b1⟩ := K v g' hp T'.heap (locs ++ L) ls ⟨by rw [e1]; exact hHW.1, kb_D_any h1.2⟩ (kb_SF h1.2 C.2.2.2.2.2.2.2.2.1 h2 hz hk hL) h3 T' rfl X'
    exact ⟨t2, go t2 a1, b1⟩
  · have hz : H.size ≤ T'.heap.size := by rw [e1, ← h0]; exact hF.1
    have hk : ∀ q : Nat, q < H.size → ¬ kb_A E N H.size q → T'.heap[q]? = H[q]? := fun q a b => by rw [e1, ← h0]; exact hF.2 q (by rw [h0]; exact a) b
    obtain ⟨t2, a1, b1⟩ := KX X9 ce q T'.heap (locs ++ L) ls ht ⟨by rw [e1]; exact hHW.1, kb_D_any h1.2⟩ (kb_SF h1.2 C.2.2.2.2.2.2.2.2.1 h2 hz hk hL) h3 (by rw [e1]; exact hce) hcv hcl T' rfl X'
    exact ⟨t2, go.trans a1, b1⟩
theorem q_callS {y : MethodName} {nA : Nat} {ws ws' : List Cond} {rm0 : Room} {bytes : ByteArray} {maxL index : Nat} {rt : Option FieldType} {As rest : List Value} (C : kb_C l E A cc nL own Ts ret p s m args meth c) (hd : decode cc pc = .ok (.invokestatic index, 3)) (hM : kb_Met l E N y ws rm0 As g post) (hG : GoodIn Ts (va_wsS own index y ws)) (hw : ws = Cond.code y bytes maxL rt :: ws')
    (hy : y.cls ≠ "java/lang/invoke/MethodHandle" ∧ y.cls ≠ "java/lang/invoke/VarHandle" ∧ (parseMethodDescriptor y.desc).map (fun d => d.parameters.length) = some nA) (hlen : As.length = nA) (hR : rm0.frames + 1 ≤ R.frames ∧ 8 + (maxL + 11) + rm0.locals ≤ R.locals) (hW : (rest.map fun v => v.category).sum ≤ 8) (hf : cells + rm0.cells ≤ R.cells ∧ slots + rm0.slots ≤ R.slots)
    (K : ∀ (v : Option Value) (g' : Nat → va_E), post v g' → kb_G p l e R s m args below meth c E A N nL g' (cells + rm0.cells) (slots + rm0.slots) Q (pc + 3) lv (v.toList ++ rest)) : kb_G p l e R s m args below meth c E A N nL g cells slots Q pc lv (As.reverse ++ rest) :=
  kb_call C (fun H locs ls h1 h2 h3 => va_runS (As := As) (rest := rest) ⟨C.1, C.2.1, C.2.2.1, C.2.2.2.1, C.2.2.2.2.1⟩ (hM H.size) (va_cwS nA C.2.2.2.2.1 hG hw rfl rfl hy hR) ⟨kb_blind, fun U hU hWm => ⟨rfl, kb_pre C h1 h2 hU hWm⟩⟩ rfl hlen h3.1 rfl (lv_room hW) hd hf) K
theorem q_callSN {y : MethodName} {nA : Nat} {ws ws' : List Cond} {rm0 : Room} {bytes : ByteArray} {maxL index : Nat} {rt : Option FieldType} {host : String} {As rest : List Value} (C : kb_C l E A cc nL own Ts ret p s m args meth c) (hd : decode cc pc = .ok (.invokestatic index, 3)) (hM : kb_Met l E N y ws rm0 As g post) (hG : GoodIn Ts ws) (hw : ws = Cond.code y bytes maxL rt :: ws') (hl : (own, index, y, host) ∈ kb_nestM) (hi : Cond.initialized y.cls ∈ Ts) (hs : Cond.static y ∈ Ts)
    (hy : y.cls ≠ "java/lang/invoke/MethodHandle" ∧ y.cls ≠ "java/lang/invoke/VarHandle" ∧ (parseMethodDescriptor y.desc).map (fun d => d.parameters.length) = some nA) (hlen : As.length = nA) (hR : rm0.frames + 1 ≤ R.frames ∧ 8 + (maxL + 11) + rm0.locals ≤ R.locals) (hW : (rest.map fun v => v.category).sum ≤ 8) (hf : cells + rm0.cells ≤ R.cells ∧ slots + rm0.slots ≤ R.slots)
    (K : ∀ (v : Option Value) (g' : Nat → va_E), post v g' → kb_G p l e R s m args below meth c E A N nL g' (cells + rm0.cells) (slots + rm0.slots) Q (pc + 3) lv (v.toList ++ rest)) : kb_G p l e R s m args below meth c E A N nL g cells slots Q pc lv (As.reverse ++ rest) :=
  kb_call C (fun H locs ls h1 h2 h3 => va_runSN (As := As) (rest := rest) ⟨C.1, C.2.1, C.2.2.1, C.2.2.2.1, C.2.2.2.2.1⟩ (hM H.size) ⟨va_cnB nA C.2.2.2.2.1 hG hw rfl rfl (C.2.2.2.2.2.2.2.2.2.2.1 _ hl) (C.2.2.2.2.1 _ hi) hy hR, C.2.2.2.2.1 _ hs, trivial⟩ ⟨kb_blind, fun U hU hWm => ⟨rfl, kb_pre C h1 h2 hU hWm⟩⟩ rfl hlen h3.1 rfl (lv_room hW) hd hf) K
theorem q_callV {y : MethodName} {nA : Nat} {ws ws' : List Cond} {rm0 : Room} {bytes : ByteArray} {maxL index n ci NF : Nat} {T : u_T} {rt : Option FieldType} {fs : List Value} {As rest : List Value} (C : kb_C l E A cc nL own Ts ret p s m args meth c) (hd : decode cc pc = .ok (.invokevirtual index, 3)) (hn : n < N) (hg : g n = .inr (ci, fs)) (hc : vwCl[ci]? = some (y.cls, T, NF)) (hM : kb_Met l E N y ws rm0 (.ref (E.2.2.2 n) :: As) g post) (hG : GoodIn Ts (wsV own index y.cls y ws)) (hw : ws = Cond.code y bytes maxL rt :: ws')
    (hy : y.cls ≠ "java/lang/invoke/MethodHandle" ∧ y.cls ≠ "java/lang/invoke/VarHandle" ∧ (parseMethodDescriptor y.desc).map (fun d => d.parameters.length) = some nA) (hlen : As.length = nA) (hR : rm0.frames + 1 ≤ R.frames ∧ 8 + (maxL + 11) + rm0.locals ≤ R.locals) (hW : (rest.map fun v => v.category).sum ≤ 8) (hf : cells + rm0.cells ≤ R.cells ∧ slots + rm0.slots ≤ R.slots)
    (K : ∀ (v : Option Value) (g' : Nat → va_E), post v g' → kb_G p l e R s m args below meth c E A N nL g' (cells + rm0.cells) (slots + rm0.slots) Q (pc + 3) lv (v.toList ++ rest)) : kb_G p l e R s m args below meth c E A N nL g cells slots Q pc lv (As.reverse ++ .ref (E.2.2.2 n) :: rest) :=
  kb_call C (fun H locs ls h1 h2 h3 => va_runV (As := As) (rest := rest) ⟨C.1, C.2.1, C.2.2.1, C.2.2.2.1, C.2.2.2.2.1⟩ (hM H.size) (cwV nA C.2.2.2.2.1 hG hw rfl rfl ⟨rfl, hy⟩ hR) ⟨kb_blind, va_recv C.2.2.2.2.2.2.2.1 h1.1 hc ((kb_W_at hn).trans (by rw [hg])), fun U hU hWm => ⟨rfl, kb_pre C h1 h2 hU hWm⟩⟩ rfl hlen h3.1 rfl (lv_room hW) hd hf) K
/-- a static call that may throw, in a body that catches nothing -/
theorem q_callSX {y : MethodName} {nA : Nat} {ws ws' : List Cond} {rm0 : Room} {bytes : ByteArray} {maxL index mc ms : Nat} {rt : Option FieldType} {As rest : List Value} {thr0 : String → Prop} {Qc : Array Value → State → Outcome → State → Prop} (C : kb_C l E (kb_A E N s.heap.size) cc nL own Ts ret p s m args meth c) (hx : ∀ x ∈ c.exceptionTable.toList, False) (hd : decode cc pc = .ok (.invokestatic index, 3)) (hM : kb_MetX l E N y ws rm0 As g post thr0) (hG : GoodIn Ts (va_wsS own index y ws)) (hw : ws = Cond.code y bytes maxL rt :: ws')
    (hy : y.cls ≠ "java/lang/invoke/MethodHandle" ∧ y.cls ≠ "java/lang/invoke/VarHandle" ∧ (parseMethodDescriptor y.desc).map (fun d => d.parameters.length) = some nA) (hlen : As.length = nA) (hR : rm0.frames + 1 ≤ R.frames ∧ 8 + (maxL + 11) + rm0.locals ≤ R.locals) (hW : (rest.map fun v => v.category).sum ≤ 8) (hf : cells + rm0.cells ≤ R.cells ∧ slots + rm0.slots ≤ R.slots) (hcm : cells + rm0.cells ≤ mc ∧ slots + rm0.slots ≤ ms) (hthr : ∀ X, thr0 X → thr X)
    (K : ∀ (v : Option Value) (g' : Nat → va_E), post v g' → kb_G p l e R s m args below meth c E (kb_A E N s.heap.size) N nL g' (cells + rm0.cells) (slots + rm0.slots) (vx_MQ below Qc (kb_XC E N s.heap.size g thr) args s mc ms (kb_A E N s.heap.size)) (pc + 3) lv (v.toList ++ rest)) : kb_G p l e R s m args below meth c E (kb_A E N s.heap.size) N nL g cells slots (vx_MQ below Qc (kb_XC E N s.heap.size g thr) args s mc ms (kb_A E N s.heap.size)) pc lv (As.reverse ++ rest) :=
  kb_callX C (fun H locs ls h1 h2 h3 => vx_runS (As := As) (rest := rest) ⟨C.1, C.2.1, C.2.2.1, C.2.2.2.1, C.2.2.2.2.1⟩ (hM H.size) (va_cwS nA C.2.2.2.2.1 hG hw rfl rfl hy hR) ⟨kb_blind, fun U hU hWm => ⟨rfl, kb_pre C h1 h2 hU hWm⟩⟩ rfl hlen h3.1 rfl (lv_room hW) hd hf) K
    (fun X ce q H locs ls ht h1 h2 h3 hce hcv hcl => vx_out (fun x hxx => (hx x hxx).elim) C.2.2.2.2.2.2.1 hce hcv hcl (fun t ht9 _ => ⟨hthr X ht, by rw [ht9]; exact ⟨h1.1, kb_D_T h1.2⟩, h2.F ht9⟩) h2.2.2 hcm.1 hcm.2)
theorem q_callVX {y : MethodName} {nA : Nat} {ws ws' : List Cond} {rm0 : Room} {bytes : ByteArray} {maxL index mc ms n ci NF : Nat} {T : u_T} {rt : Option FieldType} {fs : List Value} {As rest : List Value} {thr0 : String → Prop} {Qc : Array Value → State → Outcome → State → Prop} (C : kb_C l E (kb_A E N s.heap.size) cc nL own Ts ret p s m args meth c) (hx : ∀ x ∈ c.exceptionTable.toList, False) (hd : decode cc pc = .ok (.invokevirtual index, 3)) (hn : n < N) (hg : g n = .inr (ci, fs)) (hc : vwCl[ci]? = some (y.cls, T, NF)) (hM : kb_MetX l E N y ws rm0 (.ref (E.2.2.2 n) :: As) g post thr0) (hG : GoodIn Ts (wsV own index y.cls y ws)) (hw : ws = Cond.code y bytes maxL rt :: ws')
    (hy : y.cls ≠ "java/lang/invoke/MethodHandle" ∧ y.cls ≠ "java/lang/invoke/VarHandle" ∧ (parseMethodDescriptor y.desc).map (fun d => d.parameters.length) = some nA) (hlen : As.length = nA) (hR : rm0.frames + 1 ≤ R.frames ∧ 8 + (maxL + 11) + rm0.locals ≤ R.locals) (hW : (rest.map fun v => v.category).sum ≤ 8) (hf : cells + rm0.cells ≤ R.cells ∧ slots + rm0.slots ≤ R.slots) (hcm : cells + rm0.cells ≤ mc ∧ slots + rm0.slots ≤ ms) (hthr : ∀ X, thr0 X → thr X)
    (K : ∀ (v : Option Value) (g' : Nat → va_E), post v g' → kb_G p l e R s m args below meth c E (kb_A E N s.heap.size) N nL g' (cells + rm0.cells) (slots + rm0.slots) (vx_MQ below Qc (kb_XC E N s.heap.size g thr) args s mc ms (kb_A E N s.heap.size)) (pc + 3) lv (v.toList ++ rest)) : kb_G p l e R s m args below meth c E (kb_A E N s.heap.size) N nL g cells slots (vx_MQ below Qc (kb_XC E N s.heap.size g thr) args s mc ms (kb_A E N s.heap.size)) pc lv (As.reverse ++ .ref (E.2.2.2 n) :: rest) :=
  kb_callX C (fun H locs ls h1 h2 h3 => vx_runV (As := As) (rest := rest) ⟨C.1, C.2.1, C.2.2.1, C.2.2.2.1, C.2.2.2.2.1⟩ (hM H.size) (cwV nA C.2.2.2.2.1 hG hw rfl rfl ⟨rfl, hy⟩ hR) ⟨kb_blind, va_recv C.2.2.2.2.2.2.2.1 h1.1 hc ((kb_W_at hn).trans (by rw [hg])), fun U hU hWm => ⟨rfl, kb_pre C h1 h2 hU hWm⟩⟩ rfl hlen h3.1 rfl (lv_room hW) hd hf) K
    (fun X ce q H locs ls ht h1 h2 h3 hce hcv hcl => vx_out (fun x hxx => (hx x hxx).elim) C.2.2.2.2.2.2.1 hce hcv hcl (fun t ht9 _ => ⟨hthr X ht, by rw [ht9]; exact ⟨h1.1, kb_D_T h1.2⟩, h2.F ht9⟩) h2.2.2 hcm.1 hcm.2)
end KBX
end
section
/-! ===== the layout of all cells, once both objects stand: X n k the int at place (or field) k of cell n, Y n k the long ===== -/
/-- lengths: of a band's arrays, a picture's, the model's -/
def kb_bl (j : Nat) : Nat := if j = 1 then 6 else if j = 2 then 16 else if j = 5 then 48 else 6
def kb_pl (j : Nat) : Nat := if j = 1 then 48 else if j = 2 then 6 else if j = 3 then 16 else 40
def kb_ml (n : Nat) : Nat := if n = 191 then 48 else if n = 192 then 384 else if n = 195 then 384 else if n = 196 then 48 else if n < 197 then 8 else 6
def kb_ent (E : kb_E) (X : Nat → Nat → Int32) (Y : Nat → Nat → Int64) (n : Nat) : va_E :=
  if n < 92 then
    if n = 0 then .inr (4, [.ref (E.2.2.2 1), .ref (E.2.2.2 2), .ref (E.2.2.2 3), .int (X n 3), .int (X n 4)])
    else if n = 1 then .inl (E.2.2.1 3, 8, .inr (.inr (.inr (.inr (fun i => some (E.2.2.2 (92 + 7 * i)))))))
    else if n = 2 then .inl (E.2.2.1 4, 8, .inr (.inr (.inr (.inr (fun i => some (E.2.2.2 (148 + 5 * i)))))))
    else if n = 3 then .inr (1, [.ref (E.2.2.2 4), .ref (E.2.2.2 5), .ref (E.2.2.2 6), .int (X n 3), .ref (E.2.2.2 7), .ref (E.2.2.2 8)])
    else if n < 7 then .inl (E.2.2.1 0, 40, .inl (X n))
    else if n = 7 then .inl (E.2.2.1 5, 41, .inr (.inr (.inr (.inr (fun i => some (E.2.2.2 (10 + 2 * i)))))))
    else if n % 2 = 0 then .inr (3, [.ref (E.2.2.2 (n + 1))])
    else .inl (E.2.2.1 1, 64, .inr (.inl (Y n)))
  else if n < 148 then
    if (n - 92) % 7 = 0 then .inr (0, [.ref (E.2.2.2 (n + 1)), .ref (E.2.2.2 (n + 2)), .int (X n 2), .int (X n 3), .ref (E.2.2.2 (n + 3)), .ref (E.2.2.2 (n + 4)), .ref (E.2.2.2 (n + 5)), .ref (E.2.2.2 (n + 6))])
    else .inl (E.2.2.1 0, kb_bl ((n - 92) % 7), .inl (X n))
  else if n < 188 then
    if (n - 148) % 5 = 0 then .inr (2, [.ref (E.2.2.2 (n + 1)), .ref (E.2.2.2 (n + 2)), .int (X n 2), .int (X n 3), .int (X n 4), .int (X n 5), .int (X n 6), .ref (E.2.2.2 (n + 3)), .ref (E.2.2.2 (n + 4)), .int (X n 9)])
    else .inl (E.2.2.1 0, kb_pl ((n - 148) % 5), .inl (X n))
  else if n = 188 then .inr (5, [.int (X n 0), .int (X n 1), .int (X n 2), .ref (E.2.2.2 189), .ref (E.2.2.2 190), .ref (E.2.2.2 191), .ref (E.2.2.2 192), .ref (E.2.2.2 193), .ref (E.2.2.2 194), .ref (E.2.2.2 195), .ref (E.2.2.2 196), .ref (E.2.2.2 197), .ref (E.2.2.2 198), .ref (E.2.2.2 199), .ref (E.2.2.2 200)])
  else if n = 200 then .inl (E.2.2.1 2, 69632, .inl (X n))
  else if n = 201 then .inl (E.2.2.1 1, 1, .inr (.inl (Y n)))
  else .inl (E.2.2.1 0, kb_ml n, .inl (X n))
def kb_IA (n len : Nat) : Prop := n < 202 ∧ ∀ E X Y, kb_ent E X Y n = .inl (E.2.2.1 0, len, .inl (X n))
def kb_LA (n len : Nat) : Prop := n < 202 ∧ ∀ E X Y, kb_ent E X Y n = .inl (E.2.2.1 1, len, .inr (.inl (Y n)))
theorem kb_ZA : ∀ E X Y, kb_ent E X Y 200 = .inl (E.2.2.1 2, 69632, .inl (X 200)) := fun _ _ _ => rfl
/-- a field that holds a cell -/
def kb_FR (n ci k mm : Nat) : Prop := n < 202 ∧ ∀ E X Y, ∃ fs, kb_ent E X Y n = .inr (ci, fs) ∧ fs[k]? = some (.ref (E.2.2.2 mm))
/-- a field that holds an int -/
def kb_FI (n ci k : Nat) : Prop := n < 202 ∧ ∀ E X Y, ∃ fs, kb_ent E X Y n = .inr (ci, fs) ∧ fs[k]? = some (.int (X n k)) ∧ ∀ v, kb_ent E (va_up X n (upd (X n) k v)) Y n = .inr (ci, fs.set k (.int v))
/-- an array of cells -/
def kb_RA (n t0 len : Nat) (f : Nat → Nat) : Prop := n < 202 ∧ ∀ E X Y, kb_ent E X Y n = .inl (E.2.2.1 t0, len, .inr (.inr (.inr (.inr (fun i => some (E.2.2.2 (f i)))))))
/-- an object of class ci -/
def kb_OB (n ci : Nat) : Prop := n < 202 ∧ ∀ E X Y, ∃ fs, kb_ent E X Y n = .inr (ci, fs)
theorem kb_FR.ob {n ci k mm : Nat} (h : kb_FR n ci k mm) : kb_OB n ci := ⟨h.1, fun E X Y => by obtain ⟨fs, h1, -⟩ := h.2 E X Y; exact ⟨fs, h1⟩⟩
theorem kb_ent_ne {E : kb_E} {X X' : Nat → Nat → Int32} {Y Y' : Nat → Nat → Int64} {n : Nat} (hX : X n = X' n) (hY : Y n = Y' n) : kb_ent E X Y n = kb_ent E X' Y' n := by
  simp only [kb_ent, hX, hY]
theorem kb_upX {E : kb_E} {X : Nat → Nat → Int32} {Y : Nat → Nat → Int64} {n : Nat} {f : Nat → Int32} {w : va_E} (h : kb_ent E (va_up X n f) Y n = w) : va_up (kb_ent E X Y) n w = kb_ent E (va_up X n f) Y := by
  funext m
  by_cases hm : m = n
  · subst hm
    rw [h]
    simp [va_up]
  · have h1 : va_up (kb_ent E X Y) n w m = kb_ent E X Y m := by simp [va_up, hm]
    rw [h1]
    exact kb_ent_ne (by simp [va_up, hm]) rfl
theorem kb_upY {E : kb_E} {X : Nat → Nat → Int32} {Y : Nat → Nat → Int64} {n : Nat} {f : Nat → Int64} {w : va_E} (h : kb_ent E X (va_up Y n f) n = w) : va_up (kb_ent E X Y) n w = kb_ent E X (va_up Y n f) := by
  funext m
  by_cases hm : m = n
  · subst hm
    rw [h]
    simp [va_up]
  · have h1 : va_up (kb_ent E X Y) n w m = kb_ent E X Y m := by simp [va_up, hm]
    rw [h1]
    exact kb_ent_ne rfl (by simp [va_up, hm])
theorem kb_up_self {α : Type} {f : Nat → α} {n : Nat} {v : α} : va_up f n v n = v := by simp [va_up]
theorem kb_up_ne {α : Type} {f : Nat → α} {n j : Nat} {v : α} (h : j ≠ n) : va_up f n v j = f j := by simp [va_up, h]
theorem ia_Bcol {i : Nat} (hi : i < 8) : kb_IA (92 + 7 * i + 1) 6 := ⟨by omega, fun E X Y => by
  have e : (92 + 7 * i + 1 - 92) % 7 = 1 := by omega
  rw [kb_ent, if_neg (by omega), if_pos (by omega), if_neg (by omega), e]; rfl⟩
theorem ia_Bkin {i : Nat} (hi : i < 8) : kb_IA (92 + 7 * i + 2) 16 := ⟨by omega, fun E X Y => by
  have e : (92 + 7 * i + 2 - 92) % 7 = 2 := by omega
  rw [kb_ent, if_neg (by omega), if_pos (by omega), if_neg (by omega), e]; rfl⟩
theorem ia_Bsta {i : Nat} (hi : i < 8) : kb_IA (92 + 7 * i + 3) 6 := ⟨by omega, fun E X Y => by
  have e : (92 + 7 * i + 3 - 92) % 7 = 3 := by omega
  rw [kb_ent, if_neg (by omega), if_pos (by omega), if_neg (by omega), e]; rfl⟩
theorem ia_Bspe {i : Nat} (hi : i < 8) : kb_IA (92 + 7 * i + 4) 6 := ⟨by omega, fun E X Y => by
  have e : (92 + 7 * i + 4 - 92) % 7 = 4 := by omega
  rw [kb_ent, if_neg (by omega), if_pos (by omega), if_neg (by omega), e]; rfl⟩
theorem ia_Bsho {i : Nat} (hi : i < 8) : kb_IA (92 + 7 * i + 5) 48 := ⟨by omega, fun E X Y => by
  have e : (92 + 7 * i + 5 - 92) % 7 = 5 := by omega
  rw [kb_ent, if_neg (by omega), if_pos (by omega), if_neg (by omega), e]; rfl⟩
theorem ia_Brep {i : Nat} (hi : i < 8) : kb_IA (92 + 7 * i + 6) 6 := ⟨by omega, fun E X Y => by
  have e : (92 + 7 * i + 6 - 92) % 7 = 6 := by omega
  rw [kb_ent, if_neg (by omega), if_pos (by omega), if_neg (by omega), e]; rfl⟩
theorem ia_Ptol {i : Nat} (hi : i < 8) : kb_IA (148 + 5 * i + 1) 48 := ⟨by omega, fun E X Y => by
  have e : (148 + 5 * i + 1 - 148) % 5 = 1 := by omega
  rw [kb_ent, if_neg (by omega), if_neg (by omega), if_pos (by omega), if_neg (by omega), e]; rfl⟩
theorem ia_Pfir {i : Nat} (hi : i < 8) : kb_IA (148 + 5 * i + 2) 6 := ⟨by omega, fun E X Y => by
  have e : (148 + 5 * i + 2 - 148) % 5 = 2 := by omega
  rw [kb_ent, if_neg (by omega), if_neg (by omega), if_pos (by omega), if_neg (by omega), e]; rfl⟩
theorem ia_Pkin {i : Nat} (hi : i < 8) : kb_IA (148 + 5 * i + 3) 16 := ⟨by omega, fun E X Y => by
  have e : (148 + 5 * i + 3 - 148) % 5 = 3 := by omega
  rw [kb_ent, if_neg (by omega), if_neg (by omega), if_pos (by omega), if_neg (by omega), e]; rfl⟩
theorem ia_Psus {i : Nat} (hi : i < 8) : kb_IA (148 + 5 * i + 4) 40 := ⟨by omega, fun E X Y => by
  have e : (148 + 5 * i + 4 - 148) % 5 = 4 := by omega
  rw [kb_ent, if_neg (by omega), if_neg (by omega), if_pos (by omega), if_neg (by omega), e]; rfl⟩
theorem kb_eB {E X Y} {i : Nat} (hi : i < 8) : kb_ent E X Y (92 + 7 * i) = .inr (0, [.ref (E.2.2.2 (92 + 7 * i + 1)), .ref (E.2.2.2 (92 + 7 * i + 2)), .int (X (92 + 7 * i) 2), .int (X (92 + 7 * i) 3), .ref (E.2.2.2 (92 + 7 * i + 3)), .ref (E.2.2.2 (92 + 7 * i + 4)), .ref (E.2.2.2 (92 + 7 * i + 5)), .ref (E.2.2.2 (92 + 7 * i + 6))]) := by
  rw [kb_ent, if_neg (by omega), if_pos (by omega), if_pos (by omega)]
theorem kb_eP {E X Y} {i : Nat} (hi : i < 8) : kb_ent E X Y (148 + 5 * i) = .inr (2, [.ref (E.2.2.2 (148 + 5 * i + 1)), .ref (E.2.2.2 (148 + 5 * i + 2)), .int (X (148 + 5 * i) 2), .int (X (148 + 5 * i) 3), .int (X (148 + 5 * i) 4), .int (X (148 + 5 * i) 5), .int (X (148 + 5 * i) 6), .ref (E.2.2.2 (148 + 5 * i + 3)), .ref (E.2.2.2 (148 + 5 * i + 4)), .int (X (148 + 5 * i) 9)]) := by
  rw [kb_ent, if_neg (by omega), if_neg (by omega), if_pos (by omega), if_pos (by omega)]
theorem fr_Bcol {i : Nat} (hi : i < 8) : kb_FR (92 + 7 * i) 0 0 (92 + 7 * i + 1) := ⟨by omega, fun E X Y => ⟨_, kb_eB hi, rfl⟩⟩
theorem fr_Bkin {i : Nat} (hi : i < 8) : kb_FR (92 + 7 * i) 0 1 (92 + 7 * i + 2) := ⟨by omega, fun E X Y => ⟨_, kb_eB hi, rfl⟩⟩
theorem fr_Bsta {i : Nat} (hi : i < 8) : kb_FR (92 + 7 * i) 0 4 (92 + 7 * i + 3) := ⟨by omega, fun E X Y => ⟨_, kb_eB hi, rfl⟩⟩
theorem fr_Bspe {i : Nat} (hi : i < 8) : kb_FR (92 + 7 * i) 0 5 (92 + 7 * i + 4) := ⟨by omega, fun E X Y => ⟨_, kb_eB hi, rfl⟩⟩
theorem fr_Bsho {i : Nat} (hi : i < 8) : kb_FR (92 + 7 * i) 0 6 (92 + 7 * i + 5) := ⟨by omega, fun E X Y => ⟨_, kb_eB hi, rfl⟩⟩
theorem fr_Brep {i : Nat} (hi : i < 8) : kb_FR (92 + 7 * i) 0 7 (92 + 7 * i + 6) := ⟨by omega, fun E X Y => ⟨_, kb_eB hi, rfl⟩⟩
theorem fi_Bthr {i : Nat} (hi : i < 8) : kb_FI (92 + 7 * i) 0 2 := ⟨by omega, fun E X Y => ⟨_, kb_eB hi, rfl, fun v => by rw [kb_eB hi]; simp [va_up, upd]⟩⟩
theorem fi_Brow {i : Nat} (hi : i < 8) : kb_FI (92 + 7 * i) 0 3 := ⟨by omega, fun E X Y => ⟨_, kb_eB hi, rfl, fun v => by rw [kb_eB hi]; simp [va_up, upd]⟩⟩
theorem fr_Ptol {i : Nat} (hi : i < 8) : kb_FR (148 + 5 * i) 2 0 (148 + 5 * i + 1) := ⟨by omega, fun E X Y => ⟨_, kb_eP hi, rfl⟩⟩
theorem fr_Pfir {i : Nat} (hi : i < 8) : kb_FR (148 + 5 * i) 2 1 (148 + 5 * i + 2) := ⟨by omega, fun E X Y => ⟨_, kb_eP hi, rfl⟩⟩
theorem fr_Pkin {i : Nat} (hi : i < 8) : kb_FR (148 + 5 * i) 2 7 (148 + 5 * i + 3) := ⟨by omega, fun E X Y => ⟨_, kb_eP hi, rfl⟩⟩
theorem fr_Psus {i : Nat} (hi : i < 8) : kb_FR (148 + 5 * i) 2 8 (148 + 5 * i + 4) := ⟨by omega, fun E X Y => ⟨_, kb_eP hi, rfl⟩⟩
theorem fi_Pthr {i : Nat} (hi : i < 8) : kb_FI (148 + 5 * i) 2 2 := ⟨by omega, fun E X Y => ⟨_, kb_eP hi, rfl, fun v => by rw [kb_eP hi]; simp [va_up, upd]⟩⟩
theorem fi_Prow {i : Nat} (hi : i < 8) : kb_FI (148 + 5 * i) 2 3 := ⟨by omega, fun E X Y => ⟨_, kb_eP hi, rfl, fun v => by rw [kb_eP hi]; simp [va_up, upd]⟩⟩
theorem fi_Pwor {i : Nat} (hi : i < 8) : kb_FI (148 + 5 * i) 2 4 := ⟨by omega, fun E X Y => ⟨_, kb_eP hi, rfl, fun v => by rw [kb_eP hi]; simp [va_up, upd]⟩⟩
theorem fi_Psta {i : Nat} (hi : i < 8) : kb_FI (148 + 5 * i) 2 5 := ⟨by omega, fun E X Y => ⟨_, kb_eP hi, rfl, fun v => by rw [kb_eP hi]; simp [va_up, upd]⟩⟩
theorem fi_Pfst {i : Nat} (hi : i < 8) : kb_FI (148 + 5 * i) 2 6 := ⟨by omega, fun E X Y => ⟨_, kb_eP hi, rfl, fun v => by rw [kb_eP hi]; simp [va_up, upd]⟩⟩
theorem fi_Psuc {i : Nat} (hi : i < 8) : kb_FI (148 + 5 * i) 2 9 := ⟨by omega, fun E X Y => ⟨_, kb_eP hi, rfl, fun v => by rw [kb_eP hi]; simp [va_up, upd]⟩⟩
theorem fr_Kbands : kb_FR 0 4 0 1 := ⟨by omega, fun E X Y => ⟨_, rfl, rfl⟩⟩
theorem fr_Kpics : kb_FR 0 4 1 2 := ⟨by omega, fun E X Y => ⟨_, rfl, rfl⟩⟩
theorem fr_Kloom : kb_FR 0 4 2 3 := ⟨by omega, fun E X Y => ⟨_, rfl, rfl⟩⟩
theorem fi_Kbc : kb_FI 0 4 3 := ⟨by omega, fun E X Y => ⟨_, rfl, rfl, fun v => by simp [kb_ent, va_up, upd]⟩⟩
theorem fi_Kpc : kb_FI 0 4 4 := ⟨by omega, fun E X Y => ⟨_, rfl, rfl, fun v => by simp [kb_ent, va_up, upd]⟩⟩
theorem ra_Kbands : kb_RA 1 3 8 (fun i => 92 + 7 * i) := ⟨by omega, fun E X Y => rfl⟩
theorem ra_Kpics : kb_RA 2 4 8 (fun i => 148 + 5 * i) := ⟨by omega, fun E X Y => rfl⟩
theorem ra_Lahead : kb_RA 7 5 41 (fun i => 10 + 2 * i) := ⟨by omega, fun E X Y => rfl⟩
theorem fr_Lnames : kb_FR 3 1 0 4 := ⟨by omega, fun E X Y => ⟨_, rfl, rfl⟩⟩
theorem fr_Llefts : kb_FR 3 1 1 5 := ⟨by omega, fun E X Y => ⟨_, rfl, rfl⟩⟩
theorem fr_Lwish : kb_FR 3 1 2 6 := ⟨by omega, fun E X Y => ⟨_, rfl, rfl⟩⟩
theorem fr_Lahead : kb_FR 3 1 4 7 := ⟨by omega, fun E X Y => ⟨_, rfl, rfl⟩⟩
theorem fr_Lnow : kb_FR 3 1 5 8 := ⟨by omega, fun E X Y => ⟨_, rfl, rfl⟩⟩
theorem fi_Lkc : kb_FI 3 1 3 := ⟨by omega, fun E X Y => ⟨_, rfl, rfl, fun v => by simp [kb_ent, va_up, upd]⟩⟩
theorem ia_Lnames : kb_IA 4 40 := ⟨by omega, fun E X Y => rfl⟩
theorem ia_Llefts : kb_IA 5 40 := ⟨by omega, fun E X Y => rfl⟩
theorem ia_Lwish : kb_IA 6 40 := ⟨by omega, fun E X Y => rfl⟩
/-- a set of standings lies at an even place from 8 to 90, its words behind it -/
def kb_SN (n : Nat) : Prop := 8 ≤ n ∧ n < 92 ∧ n % 2 = 0
theorem fr_Swords {n : Nat} (h : kb_SN n) : kb_FR n 3 0 (n + 1) := ⟨by have := h.2.1; omega, fun E X Y => ⟨[.ref (E.2.2.2 (n + 1))], by
  obtain ⟨h1, h2, h3⟩ := h
  rw [kb_ent, if_pos (by omega), if_neg (by omega), if_neg (by omega), if_neg (by omega), if_neg (by omega), if_neg (by omega), if_neg (by omega), if_pos h3], rfl⟩⟩
theorem la_Swords {n : Nat} (h : kb_SN n) : kb_LA (n + 1) 64 := ⟨by have := h.2.1; omega, fun E X Y => by
  obtain ⟨h1, h2, h3⟩ := h
  rw [kb_ent, if_pos (by omega), if_neg (by omega), if_neg (by omega), if_neg (by omega), if_neg (by omega), if_neg (by omega), if_neg (by omega), if_neg (by omega)]⟩
theorem fr_Mthr : kb_FR 188 5 3 189 := ⟨by omega, fun E X Y => ⟨_, rfl, rfl⟩⟩
theorem fr_Mrow : kb_FR 188 5 4 190 := ⟨by omega, fun E X Y => ⟨_, rfl, rfl⟩⟩
theorem fr_Mcol : kb_FR 188 5 5 191 := ⟨by omega, fun E X Y => ⟨_, rfl, rfl⟩⟩
theorem fr_Mkin : kb_FR 188 5 6 192 := ⟨by omega, fun E X Y => ⟨_, rfl, rfl⟩⟩
theorem fr_Mwid : kb_FR 188 5 7 193 := ⟨by omega, fun E X Y => ⟨_, rfl, rfl⟩⟩
theorem fr_Mhig : kb_FR 188 5 8 194 := ⟨by omega, fun E X Y => ⟨_, rfl, rfl⟩⟩
theorem fr_Msee : kb_FR 188 5 9 195 := ⟨by omega, fun E X Y => ⟨_, rfl, rfl⟩⟩
theorem fr_Mmus : kb_FR 188 5 10 196 := ⟨by omega, fun E X Y => ⟨_, rfl, rfl⟩⟩
theorem fr_Mat : kb_FR 188 5 11 197 := ⟨by omega, fun E X Y => ⟨_, rfl, rfl⟩⟩
theorem fr_Mnow : kb_FR 188 5 12 198 := ⟨by omega, fun E X Y => ⟨_, rfl, rfl⟩⟩
theorem fr_Mthe : kb_FR 188 5 13 199 := ⟨by omega, fun E X Y => ⟨_, rfl, rfl⟩⟩
theorem fr_Mcan : kb_FR 188 5 14 200 := ⟨by omega, fun E X Y => ⟨_, rfl, rfl⟩⟩
theorem fi_Mthw : kb_FI 188 5 0 := ⟨by omega, fun E X Y => ⟨_, rfl, rfl, fun v => by simp [kb_ent, va_up, upd]⟩⟩
theorem fi_Mbc : kb_FI 188 5 1 := ⟨by omega, fun E X Y => ⟨_, rfl, rfl, fun v => by simp [kb_ent, va_up, upd]⟩⟩
theorem fi_Mpc : kb_FI 188 5 2 := ⟨by omega, fun E X Y => ⟨_, rfl, rfl, fun v => by simp [kb_ent, va_up, upd]⟩⟩
theorem ia_Mthr : kb_IA 189 8 := ⟨by omega, fun E X Y => rfl⟩
theorem ia_Mrow : kb_IA 190 8 := ⟨by omega, fun E X Y => rfl⟩
theorem ia_Mcol : kb_IA 191 48 := ⟨by omega, fun E X Y => rfl⟩
theorem ia_Mkin : kb_IA 192 384 := ⟨by omega, fun E X Y => rfl⟩
theorem ia_Mwid : kb_IA 193 8 := ⟨by omega, fun E X Y => rfl⟩
theorem ia_Mhig : kb_IA 194 8 := ⟨by omega, fun E X Y => rfl⟩
theorem ia_Msee : kb_IA 195 384 := ⟨by omega, fun E X Y => rfl⟩
theorem ia_Mmus : kb_IA 196 48 := ⟨by omega, fun E X Y => rfl⟩
theorem ia_Mat : kb_IA 197 6 := ⟨by omega, fun E X Y => rfl⟩
theorem ia_Mnow : kb_IA 198 6 := ⟨by omega, fun E X Y => rfl⟩
theorem ia_Mthe : kb_IA 199 6 := ⟨by omega, fun E X Y => rfl⟩
theorem la_out : kb_LA 201 1 := ⟨by omega, fun E X Y => rfl⟩
theorem ob_B {i : Nat} (hi : i < 8) : kb_OB (92 + 7 * i) 0 := (fr_Bcol hi).ob
theorem ob_P {i : Nat} (hi : i < 8) : kb_OB (148 + 5 * i) 2 := (fr_Ptol hi).ob
theorem ob_K : kb_OB 0 4 := fr_Kbands.ob
theorem ob_L : kb_OB 3 1 := fr_Lnames.ob
theorem ob_S {n : Nat} (h : kb_SN n) : kb_OB n 3 := (fr_Swords h).ob
theorem ob_M : kb_OB 188 5 := fr_Mthr.ob
section KBY
variable {p : Program} {l : Launch} {e : Env} {R : Room} {s : State} {m : MethodId} {args : Array Value} {below : List Frame} {meth : Method} {c : Code} {E : kb_E} {A : Nat → Prop} {X : Nat → Nat → Int32} {Y : Nat → Nat → Int64} {cells slots : Nat} {Q : State → Prop} {cc : ByteArray} {nL : Nat} {own : String} {Ts : List Cond} {ret : Option FieldType} {pc : Nat} {lv : List (Option Value)} {st : List Value}
theorem x_getR (C : kb_C l E A cc nL own Ts ret p s m args meth c) {ci k index n NF : Nat} {ref C0 host : String} {T : u_T} {mm : Nat} (hd : decode cc pc = .ok (.getfield index, 3)) (h : kb_FR n ci k mm) (hc : vwCl[ci]? = some (C0, T, NF)) (hin : ∀ w ∈ u_ws C0 T NF, w ∈ Ts) (hk : k < NF) (hw : Cond.fieldLink own index ref (T k).2.1 (T k).2.2.1 ∈ Ts) (hr : ref = (T k).1) (K : kb_G p l e R s m args below meth c E A 202 nL (kb_ent E X Y) cells slots Q (pc + 3) lv (.ref (E.2.2.2 mm) :: st)) : kb_G p l e R s m args below meth c E A 202 nL (kb_ent E X Y) cells slots Q pc lv (.ref (E.2.2.2 n) :: st) := by
  obtain ⟨fs, h1, h2⟩ := h.2 E X Y
  exact q_get C hd h.1 h1 hc hin hk hw hr h2 K
theorem x_getI (C : kb_C l E A cc nL own Ts ret p s m args meth c) {ci k index n NF : Nat} {ref C0 host : String} {T : u_T} (hd : decode cc pc = .ok (.getfield index, 3)) (h : kb_FI n ci k) (hc : vwCl[ci]? = some (C0, T, NF)) (hin : ∀ w ∈ u_ws C0 T NF, w ∈ Ts) (hk : k < NF) (hw : Cond.fieldLink own index ref (T k).2.1 (T k).2.2.1 ∈ Ts) (hr : ref = (T k).1) (K : kb_G p l e R s m args below meth c E A 202 nL (kb_ent E X Y) cells slots Q (pc + 3) lv (.int (X n k) :: st)) : kb_G p l e R s m args below meth c E A 202 nL (kb_ent E X Y) cells slots Q pc lv (.ref (E.2.2.2 n) :: st) := by
  obtain ⟨fs, h1, h2, -⟩ := h.2 E X Y
  exact q_get C hd h.1 h1 hc hin hk hw hr h2 K
theorem x_putI (C : kb_C l E A cc nL own Ts ret p s m args meth c) {ci k index n NF : Nat} {ref C0 host : String} {T : u_T} {ty0 : Nat → FieldType} {v : Int32} {ty : FieldType} (hd : decode cc pc = .ok (.putfield index, 3)) (h : kb_FI n ci k) (hc : vwCl[ci]? = some (C0, T, NF)) (hin : ∀ w ∈ u_ws C0 T NF, w ∈ Ts) (hty : ∀ k, k < NF → parseFieldDescriptor (T k).2.2.1 = some (ty0 k)) (hnm : ∀ a, a < NF → ∀ b, b < NF → a ≠ b → (T a).2.1 ≠ (T b).2.1) (hk : k < NF) (hw : Cond.fieldLink own index ref (T k).2.1 (T k).2.2.1 ∈ Ts) (hr : ref = (T k).1) (hfin : (T k).2.2.2 = false) (hp : parseFieldDescriptor (T k).2.2.1 = some ty) (hna : narrow ty (.int v) = .int v) (hfit : fits ty (.int v) = true) (K : kb_G p l e R s m args below meth c E A 202 nL (kb_ent E (va_up X n (upd (X n) k v)) Y) cells slots Q (pc + 3) lv (st)) : kb_G p l e R s m args below meth c E A 202 nL (kb_ent E X Y) cells slots Q pc lv (.int v :: .ref (E.2.2.2 n) :: st) := by
  obtain ⟨fs, h1, h2, h3⟩ := h.2 E X Y
  exact q_put (host := own) C hd h.1 h1 hc hin hty hnm hk hw hr hfin hp hna hfit (List.getElem?_eq_some_iff.mp h2).1 (q_world (kb_upX (h3 v)) K)
theorem x_getRN (C : kb_C l E A cc nL own Ts ret p s m args meth c) {ci k index n NF : Nat} {ref C0 host : String} {T : u_T} {mm : Nat} (hd : decode cc pc = .ok (.getfield index, 3)) (h : kb_FR n ci k mm) (hc : vwCl[ci]? = some (C0, T, NF)) (hin : ∀ w ∈ u_ws C0 T NF, w ∈ Ts) (hk : k < NF) (hw : (own, index, ref, (T k).2.1, (T k).2.2.1, host) ∈ kb_nestF) (hr : ref = (T k).1) (K : kb_G p l e R s m args below meth c E A 202 nL (kb_ent E X Y) cells slots Q (pc + 3) lv (.ref (E.2.2.2 mm) :: st)) : kb_G p l e R s m args below meth c E A 202 nL (kb_ent E X Y) cells slots Q pc lv (.ref (E.2.2.2 n) :: st) := by
  obtain ⟨fs, h1, h2⟩ := h.2 E X Y
  exact q_getN C hd h.1 h1 hc hin hk hw hr h2 K
theorem x_getIN (C : kb_C l E A cc nL own Ts ret p s m args meth c) {ci k index n NF : Nat} {ref C0 host : String} {T : u_T} (hd : decode cc pc = .ok (.getfield index, 3)) (h : kb_FI n ci k) (hc : vwCl[ci]? = some (C0, T, NF)) (hin : ∀ w ∈ u_ws C0 T NF, w ∈ Ts) (hk : k < NF) (hw : (own, index, ref, (T k).2.1, (T k).2.2.1, host) ∈ kb_nestF) (hr : ref = (T k).1) (K : kb_G p l e R s m args below meth c E A 202 nL (kb_ent E X Y) cells slots Q (pc + 3) lv (.int (X n k) :: st)) : kb_G p l e R s m args below meth c E A 202 nL (kb_ent E X Y) cells slots Q pc lv (.ref (E.2.2.2 n) :: st) := by
  obtain ⟨fs, h1, h2, -⟩ := h.2 E X Y
  exact q_getN C hd h.1 h1 hc hin hk hw hr h2 K
theorem x_putIN (C : kb_C l E A cc nL own Ts ret p s m args meth c) {ci k index n NF : Nat} {ref C0 host : String} {T : u_T} {ty0 : Nat → FieldType} {v : Int32} {ty : FieldType} (hd : decode cc pc = .ok (.putfield index, 3)) (h : kb_FI n ci k) (hc : vwCl[ci]? = some (C0, T, NF)) (hin : ∀ w ∈ u_ws C0 T NF, w ∈ Ts) (hty : ∀ k, k < NF → parseFieldDescriptor (T k).2.2.1 = some (ty0 k)) (hnm : ∀ a, a < NF → ∀ b, b < NF → a ≠ b → (T a).2.1 ≠ (T b).2.1) (hk : k < NF) (hw : (own, index, ref, (T k).2.1, (T k).2.2.1, host) ∈ kb_nestF) (hr : ref = (T k).1) (hfin : (T k).2.2.2 = false) (hp : parseFieldDescriptor (T k).2.2.1 = some ty) (hna : narrow ty (.int v) = .int v) (hfit : fits ty (.int v) = true) (K : kb_G p l e R s m args below meth c E A 202 nL (kb_ent E (va_up X n (upd (X n) k v)) Y) cells slots Q (pc + 3) lv (st)) : kb_G p l e R s m args below meth c E A 202 nL (kb_ent E X Y) cells slots Q pc lv (.int v :: .ref (E.2.2.2 n) :: st) := by
  obtain ⟨fs, h1, h2, h3⟩ := h.2 E X Y
  exact q_putN C hd h.1 h1 hc hin hty hnm hk hw hr hfin hp hna hfit (List.getElem?_eq_some_iff.mp h2).1 (q_world (kb_upX (h3 v)) K)
theorem x_iald (C : kb_C l E A cc nL own Ts ret p s m args meth c) {n len : Nat} {i : Int32} (hd : decode cc pc = .ok (.iaload, 1)) (h : kb_IA n len) (hi : vp_in i len) (K : kb_G p l e R s m args below meth c E A 202 nL (kb_ent E X Y) cells slots Q (pc + 1) lv (.int (X n i.toNatClampNeg) :: st)) : kb_G p l e R s m args below meth c E A 202 nL (kb_ent E X Y) cells slots Q pc lv (.int i :: .ref (E.2.2.2 n) :: st) := q_iald C hd h.1 (h.2 E X Y) hi K
theorem x_lald (C : kb_C l E A cc nL own Ts ret p s m args meth c) {n len : Nat} {i : Int32} (hd : decode cc pc = .ok (.laload, 1)) (h : kb_LA n len) (hi : vp_in i len) (K : kb_G p l e R s m args below meth c E A 202 nL (kb_ent E X Y) cells slots Q (pc + 1) lv (.long (Y n i.toNatClampNeg) :: st)) : kb_G p l e R s m args below meth c E A 202 nL (kb_ent E X Y) cells slots Q pc lv (.int i :: .ref (E.2.2.2 n) :: st) := q_lald C hd h.1 (h.2 E X Y) hi K
theorem x_zald (C : kb_C l E A cc nL own Ts ret p s m args meth c) {i : Int32} (hd : decode cc pc = .ok (.baload, 1)) (hi : vp_in i 69632) (K : kb_G p l e R s m args below meth c E A 202 nL (kb_ent E X Y) cells slots Q (pc + 1) lv (.int (X 200 i.toNatClampNeg) :: st)) : kb_G p l e R s m args below meth c E A 202 nL (kb_ent E X Y) cells slots Q pc lv (.int i :: .ref (E.2.2.2 200) :: st) := q_zald C hd (by decide) (kb_ZA E X Y) hi K
theorem x_iast (C : kb_C l E A cc nL own Ts ret p s m args meth c) {n len : Nat} {i x : Int32} (hd : decode cc pc = .ok (.iastore, 1)) (h : kb_IA n len) (hi : vp_in i len) (K : kb_G p l e R s m args below meth c E A 202 nL (kb_ent E (va_up X n (upd (X n) i.toNatClampNeg x)) Y) cells slots Q (pc + 1) lv (st)) : kb_G p l e R s m args below meth c E A 202 nL (kb_ent E X Y) cells slots Q pc lv (.int x :: .int i :: .ref (E.2.2.2 n) :: st) := q_iast C hd h.1 (h.2 E X Y) hi (q_world (kb_upX ((h.2 E _ Y).trans (by rw [kb_up_self]))) K)
theorem x_last (C : kb_C l E A cc nL own Ts ret p s m args meth c) {n len : Nat} {i : Int32} {x : Int64} (hd : decode cc pc = .ok (.lastore, 1)) (h : kb_LA n len) (hi : vp_in i len) (K : kb_G p l e R s m args below meth c E A 202 nL (kb_ent E X (va_up Y n (vp_updL (Y n) i.toNatClampNeg x))) cells slots Q (pc + 1) lv (st)) : kb_G p l e R s m args below meth c E A 202 nL (kb_ent E X Y) cells slots Q pc lv (.long x :: .int i :: .ref (E.2.2.2 n) :: st) := q_last C hd h.1 (h.2 E X Y) hi (q_world (kb_upY ((h.2 E X _).trans (by rw [kb_up_self]))) K)
theorem x_zast (C : kb_C l E A cc nL own Ts ret p s m args meth c) {i x : Int32} (hd : decode cc pc = .ok (.bastore, 1)) (hi : vp_in i 69632) (K : kb_G p l e R s m args below meth c E A 202 nL (kb_ent E (va_up X 200 (upd (X 200) i.toNatClampNeg (vp_nar .boolean x))) Y) cells slots Q (pc + 1) lv (st)) : kb_G p l e R s m args below meth c E A 202 nL (kb_ent E X Y) cells slots Q pc lv (.int x :: .int i :: .ref (E.2.2.2 200) :: st) := q_zast C hd (by decide) (kb_ZA E X Y) hi (q_world (kb_upX ((kb_ZA E _ Y).trans (by rw [kb_up_self]))) K)
theorem x_aald (C : kb_C l E A cc nL own Ts ret p s m args meth c) {n len t0 : Nat} {C0 : String} {f : Nat → Nat} {i : Int32} (hd : decode cc pc = .ok (.aaload, 1)) (h : kb_RA n t0 len f) (ht : (kb_tys E)[t0]? = some (E.2.2.1 t0, .object C0)) (hi : vp_in i len) (K : kb_G p l e R s m args below meth c E A 202 nL (kb_ent E X Y) cells slots Q (pc + 1) lv (.ref (E.2.2.2 (f i.toNatClampNeg)) :: st)) : kb_G p l e R s m args below meth c E A 202 nL (kb_ent E X Y) cells slots Q pc lv (.int i :: .ref (E.2.2.2 n) :: st) := q_aald C hd h.1 (h.2 E X Y) ht hi rfl K
end KBY
end
section
/-! ===== more rows: calls over the layout, fewer locals, throws ===== -/
theorem kb_SN8 : kb_SN 8 := ⟨by decide, by decide, by decide⟩
def kb_mask : List Bool → List (Option Value) → List (Option Value)
  | true :: b, x :: l => x :: kb_mask b l
  | false :: b, _ :: l => none :: kb_mask b l
  | _, _ => []
theorem kb_mask_at : ∀ (b : List Bool) (l : List (Option Value)) (i : Nat) (v : Value), (kb_mask b l)[i]? = some (some v) → l[i]? = some (some v)
  | [], l, i, v, h => by simp [kb_mask] at h
  | b0 :: b, [], i, v, h => by cases b0 <;> simp [kb_mask] at h
  | true :: b, x :: l, 0, v, h => by simpa [kb_mask] using h
  | false :: b, x :: l, 0, v, h => by simp [kb_mask] at h
  | true :: b, x :: l, i + 1, v, h => by
    simp only [kb_mask, List.getElem?_cons_succ] at h
    simpa using kb_mask_at b l i v h
  | false :: b, x :: l, i + 1, v, h => by
    simp only [kb_mask, List.getElem?_cons_succ] at h
    simpa using kb_mask_at b l i v h
section KBM
variable {p : Program} {l : Launch} {e : Env} {R : Room} {s : State} {m : MethodId} {args : Array Value} {below : List Frame} {meth : Method} {c : Code} {E : kb_E} {A : Nat → Prop} {N : Nat} {g : Nat → va_E} {X : Nat → Nat → Int32} {Y : Nat → Nat → Int64} {cells slots : Nat} {Q : State → Prop} {cc : ByteArray} {nL : Nat} {own : String} {Ts : List Cond} {ret : Option FieldType} {pc : Nat} {lv : List (Option Value)} {st : List Value} {post : Option Value → (Nat → va_E) → Prop} {thr : String → Prop}
theorem q_mask (b : List Bool) (K : kb_G p l e R s m args below meth c E A N nL g cells slots Q pc (kb_mask b lv) st) : kb_G p l e R s m args below meth c E A N nL g cells slots Q pc lv st := fun H locs ls h1 h2 h3 => K H locs ls h1 h2 ⟨h3.1, h3.2.1, fun i v h => h3.2.2 i v (kb_mask_at b lv i v h)⟩
theorem x_callV {y : MethodName} {nA : Nat} {ws ws' : List Cond} {rm0 : Room} {bytes : ByteArray} {maxL index n ci NF : Nat} {T : u_T} {rt : Option FieldType} {As rest : List Value} (C : kb_C l E A cc nL own Ts ret p s m args meth c) (hd : decode cc pc = .ok (.invokevirtual index, 3)) (h : kb_OB n ci) (hc : vwCl[ci]? = some (y.cls, T, NF)) (hM : kb_Met l E 202 y ws rm0 (.ref (E.2.2.2 n) :: As) (kb_ent E X Y) post) (hG : GoodIn Ts (wsV own index y.cls y ws)) (hw : ws = Cond.code y bytes maxL rt :: ws')
    (hy : y.cls ≠ "java/lang/invoke/MethodHandle" ∧ y.cls ≠ "java/lang/invoke/VarHandle" ∧ (parseMethodDescriptor y.desc).map (fun d => d.parameters.length) = some nA) (hlen : As.length = nA) (hR : rm0.frames + 1 ≤ R.frames ∧ 8 + (maxL + 11) + rm0.locals ≤ R.locals) (hW : (rest.map fun v => v.category).sum ≤ 8) (hf : cells + rm0.cells ≤ R.cells ∧ slots + rm0.slots ≤ R.slots)
    (K : ∀ (v : Option Value) (g' : Nat → va_E), post v g' → kb_G p l e R s m args below meth c E A 202 nL g' (cells + rm0.cells) (slots + rm0.slots) Q (pc + 3) lv (v.toList ++ rest)) : kb_G p l e R s m args below meth c E A 202 nL (kb_ent E X Y) cells slots Q pc lv (As.reverse ++ .ref (E.2.2.2 n) :: rest) := by
  obtain ⟨fs, hg⟩ := h.2 E X Y
  exact q_callV C hd h.1 hg hc hM hG hw hy hlen hR hW hf K
theorem x_callVX {y : MethodName} {nA : Nat} {ws ws' : List Cond} {rm0 : Room} {bytes : ByteArray} {maxL index mc ms n ci NF : Nat} {T : u_T} {rt : Option FieldType} {As rest : List Value} {thr0 : String → Prop} {Qc : Array Value → State → Outcome → State → Prop} (C : kb_C l E (kb_A E 202 s.heap.size) cc nL own Ts ret p s m args meth c) (hx : ∀ x ∈ c.exceptionTable.toList, False) (hd : decode cc pc = .ok (.invokevirtual index, 3)) (h : kb_OB n ci) (hc : vwCl[ci]? = some (y.cls, T, NF)) (hM : kb_MetX l E 202 y ws rm0 (.ref (E.2.2.2 n) :: As) (kb_ent E X Y) post thr0) (hG : GoodIn Ts (wsV own index y.cls y ws)) (hw : ws = Cond.code y bytes maxL rt :: ws')
    (hy : y.cls ≠ "java/lang/invoke/MethodHandle" ∧ y.cls ≠ "java/lang/invoke/VarHandle" ∧ (parseMethodDescriptor y.desc).map (fun d => d.parameters.length) = some nA) (hlen : As.length = nA) (hR : rm0.frames + 1 ≤ R.frames ∧ 8 + (maxL + 11) + rm0.locals ≤ R.locals) (hW : (rest.map fun v => v.category).sum ≤ 8) (hf : cells + rm0.cells ≤ R.cells ∧ slots + rm0.slots ≤ R.slots) (hcm : cells + rm0.cells ≤ mc ∧ slots + rm0.slots ≤ ms) (hthr : ∀ X, thr0 X → thr X)
    (K : ∀ (v : Option Value) (g' : Nat → va_E), post v g' → kb_G p l e R s m args below meth c E (kb_A E 202 s.heap.size) 202 nL g' (cells + rm0.cells) (slots + rm0.slots) (vx_MQ below Qc (kb_XC E 202 s.heap.size (kb_ent E X Y) thr) args s mc ms (kb_A E 202 s.heap.size)) (pc + 3) lv (v.toList ++ rest)) : kb_G p l e R s m args below meth c E (kb_A E 202 s.heap.size) 202 nL (kb_ent E X Y) cells slots (vx_MQ below Qc (kb_XC E 202 s.heap.size (kb_ent E X Y) thr) args s mc ms (kb_A E 202 s.heap.size)) pc lv (As.reverse ++ .ref (E.2.2.2 n) :: rest) := by
  obtain ⟨fs, hg⟩ := h.2 E X Y
  exact q_callVX C hx hd h.1 hg hc hM hG hw hy hlen hR hW hf hcm hthr K
/-- 'throw new X("text")' in a body that catches nothing -/
theorem q_throw {ik is ic mc ms : Nat} {cls text : String} {Qc : Array Value → State → Outcome → State → Prop} (C : kb_C l E (kb_A E N s.heap.size) cc nL own Ts ret p s m args meth c) (hx : ∀ x ∈ c.exceptionTable.toList, False)
    (d0 : decode cc pc = .ok (.new ik, 3)) (d3 : decode cc (pc + 3) = .ok (.dup, 1)) (d4 : decode cc (pc + 4) = .ok (.ldc is, 2)) (d6 : decode cc (pc + 6) = .ok (.invokespecial ic, 3)) (d9 : decode cc (pc + 9) = .ok (.athrow, 1))
    (hcl : Bundle.fit cls = true) (hk : Cond.classLink own ik cls ∈ Ts) (hi : Cond.initialized cls ∈ Ts) (hstr : ∃ a, vk_R own is text a s) (hg1 : ∀ w ∈ (vx_atS own ic cls kb_up).filter goodWord, w ∈ Ts) (hg2 : ∀ w ∈ (vx_atS own ic cls kb_up).filter (fun w => !goodWord w), w ∈ [Cond.declares (Bundle.initS "java/lang/RuntimeException"), .declares (Bundle.initS "java/lang/Exception"), .declares (Bundle.initS "java/lang/Throwable"), .castable kb_NSE kb_NSE, .castable kb_IAE kb_IAE])
    (hgood : ∀ w ∈ Cond.classLink own ik cls :: Cond.initialized cls :: vx_atS own ic cls kb_up, vx_ot w = true) (hRf : 5 < R.frames) (hRl : (st.map fun v => v.category).sum + 82 ≤ R.locals) (hRc : cells + 1 ≤ R.cells) (hRs : slots + 6 ≤ R.slots) (hc : cells + 1 ≤ mc) (hs : slots + 6 ≤ ms) (ht : thr cls) :
    kb_G p l e R s m args below meth c E (kb_A E N s.heap.size) N nL g cells slots (vx_MQ below Qc (kb_XC E N s.heap.size g thr) args s mc ms (kb_A E N s.heap.size)) pc lv st := by
  intro H locs ls h1 h2 h3
  obtain ⟨sa, hstr⟩ := hstr
  obtain ⟨-, -, hl, hU, hN, hdc, hca, -⟩ := C.2.2.2.2.2.2.2.2.2
  have hat : ∀ w ∈ vx_atS own ic cls kb_up, w.before args s = true := vx_hat (fun w hw => C.2.2.2.2.1 w (hg1 w hw)) hg2 (by
    refine vx_c (va_Nw.use rfl (hdc _ (by simp))) (vx_c (va_Nw.use rfl (hdc _ (by simp))) (vx_c (va_Nw.use rfl (hdc _ (by simp))) (vx_c (va_Nw.use rfl (hca _ (by simp))) (vx_c (va_Nw.use rfl (hca _ (by simp))) vx_n)))))
  refine vx_throwS C.1 C.2.1 hl (own := own) (cls := cls) (names := kb_up) C.2.2.2.1 hcl (by decide +kernel) (C.2.2.2.2.1 _ hk) (C.2.2.2.2.1 _ hi) hstr hat hgood hU hN h2 (h3.1.trans C.2.2.1.symm) d0 d3 d4 d6 d9 (fun x hxx => (hx x hxx).elim) hRf (by simpa [kb_up] using hRl) hRc hRs C.2.2.2.2.2.2.1 ?_ h2.2.2 hc hs
  intro t _ hz hk9
  refine ⟨ht, ⟨h1.1.kept (fun k q hq => hk9 q.1 (h1.1 k q hq).lt), kb_D_T h1.2⟩, Nat.le_trans h2.1 hz, fun q hq hn => ?_⟩
  rw [hk9 q (Nat.lt_of_lt_of_le hq h2.1)]
  exact h2.2.1 q hq hn
end KBM
section KBJ
variable {p : Program} {l : Launch} {e : Env} {R : Room} {s : State} {m : MethodId} {args : Array Value} {below : List Frame} {meth : Method} {c : Code} {E : kb_E} {A : Nat → Prop} {N : Nat} {g : Nat → va_E} {cells slots : Nat} {Q : State → Prop} {nL : Nat} {pc : Nat} {lv : List (Option Value)} {st : List Value}
/-- a join: a number f with P f is on the stack at pcJ, by whatever way -/
theorem q_cut (pcJ : Nat) (P : Int32 → Prop) (J : ∀ f : Int32, P f → kb_G p l e R s m args below meth c E A N nL g cells slots Q pcJ lv (.int f :: st)) (K : (∀ f : Int32, P f → kb_G p l e R s m args below meth c E A N nL g cells slots Q pcJ lv (.int f :: st)) → kb_G p l e R s m args below meth c E A N nL g cells slots Q pc lv st) : kb_G p l e R s m args below meth c E A N nL g cells slots Q pc lv st := K J
/-- a join with the stack as it is -/
theorem q_cut0 (pcJ : Nat) (J : kb_G p l e R s m args below meth c E A N nL g cells slots Q pcJ lv st) (K : kb_G p l e R s m args below meth c E A N nL g cells slots Q pcJ lv st → kb_G p l e R s m args below meth c E A N nL g cells slots Q pc lv st) : kb_G p l e R s m args below meth c E A N nL g cells slots Q pc lv st := K J
end KBJ
/-- a flag: 1 if cd, else 0 -/
def kb_flag (cd : Prop) (f : Int32) : Prop := (f = nI 1 ∧ cd) ∨ (f = nI 0 ∧ ¬ cd)
/-- the model's note of what was thrown -/
def kb_thr (X : Nat → Nat → Int32) (k : Int32) : Nat → Nat → Int32 := va_up X 188 (upd (X 188) 0 k)
theorem kb_thr_thr {X : Nat → Nat → Int32} {a b : Int32} : kb_thr (kb_thr X a) b = kb_thr X b := by
  funext n k
  by_cases hn : n = 188
  · subst hn
    by_cases hk : k = 0
    · subst hk; simp [kb_thr, va_up, upd]
    · simp [kb_thr, va_up, upd, hk]
  · simp [kb_thr, va_up, hn]
theorem kb_thr_at {X : Nat → Nat → Int32} {a : Int32} : kb_thr X a 188 0 = a := by simp [kb_thr, va_up, upd]
theorem kb_thr_ne {X : Nat → Nat → Int32} {a : Int32} {n : Nat} (h : n ≠ 188) : kb_thr X a n = X n := by simp [kb_thr, va_up, h]
theorem kb_thr_k {X : Nat → Nat → Int32} {a : Int32} {k : Nat} (h : k ≠ 0) : kb_thr X a 188 k = X 188 k := by simp [kb_thr, va_up, upd, h]
theorem kb_thr_id {X : Nat → Nat → Int32} {a : Int32} (h : X 188 0 = a) : kb_thr X a = X := by
  funext n k
  by_cases hn : n = 188
  · subst hn
    by_cases hk : k = 0
    · subst hk; simp [kb_thr, va_up, upd, h]
    · simp [kb_thr, va_up, upd, hk]
  · simp [kb_thr, va_up, hn]
section KBT
variable {p : Program} {l : Launch} {e : Env} {R : Room} {s : State} {m : MethodId} {args : Array Value} {below : List Frame} {meth : Method} {c : Code} {E : kb_E} {A : Nat → Prop} {N : Nat} {g : Nat → va_E} {cells slots : Nat} {Q : State → Prop} {cc : ByteArray} {nL : Nat} {own : String} {Ts : List Cond} {ret : Option FieldType} {pc : Nat} {lv : List (Option Value)} {st : List Value}
/-- the two static tables: j = 0 PLACE_3_LESS, 1 PLACE_4_LESS -/
def kb_PL (j : Nat) : Nat → Int64 := if j = 0 then kb_P3 else kb_P4
theorem q_gets3 (C : kb_C l E A cc nL own Ts ret p s m args meth c) {index : Nat} (hd : decode cc pc = .ok (.getstatic index, 3)) (hw : Cond.fieldLink own index RX3 "PLACE_3_LESS" "[J" ∈ Ts) (K : kb_G p l e R s m args below meth c E A N nL g cells slots Q (pc + 3) lv (.ref (E.2.2.2 300) :: st)) : kb_G p l e R s m args below meth c E A N nL g cells slots Q pc lv st := fun H locs ls h1 h2 h3 =>
  va_gets C.1 C.2.1 C.2.2.2.2.2.2.2.2.2.2.2.2.2.2.2.2.2.2.2.1.1 h2 C.2.2.2.1 (C.2.2.2.2.1 _ hw) (fun _ h => h) hd (K H locs ls h1 h2 h3)
theorem q_gets4 (C : kb_C l E A cc nL own Ts ret p s m args meth c) {index : Nat} (hd : decode cc pc = .ok (.getstatic index, 3)) (hw : Cond.fieldLink own index RX3 "PLACE_4_LESS" "[J" ∈ Ts) (K : kb_G p l e R s m args below meth c E A N nL g cells slots Q (pc + 3) lv (.ref (E.2.2.2 301) :: st)) : kb_G p l e R s m args below meth c E A N nL g cells slots Q pc lv st := fun H locs ls h1 h2 h3 =>
  va_gets C.1 C.2.1 C.2.2.2.2.2.2.2.2.2.2.2.2.2.2.2.2.2.2.2.2.1.1 h2 C.2.2.2.1 (C.2.2.2.2.1 _ hw) (fun _ h => h) hd (K H locs ls h1 h2 h3)
theorem kb_CT (C : kb_C l E A cc nL own Ts ret p s m args meth c) {j : Nat} (hj : j < 2) : va_T .long (E.2.2.2 (300 + j)) 3 (fun k => .long (kb_PL j k)) A s s.heap := by
  rcases (show j = 0 ∨ j = 1 by omega) with rfl | rfl
  · exact C.2.2.2.2.2.2.2.2.2.2.2.2.2.2.2.2.2.2.2.1.2
  · exact C.2.2.2.2.2.2.2.2.2.2.2.2.2.2.2.2.2.2.2.2.1.2
theorem q_tlen (C : kb_C l E A cc nL own Ts ret p s m args meth c) {j : Nat} (hj : j < 2) (hd : decode cc pc = .ok (.arraylength, 1)) (K : kb_G p l e R s m args below meth c E A N nL g cells slots Q (pc + 1) lv (.int (nI 3) :: st)) : kb_G p l e R s m args below meth c E A N nL g cells slots Q pc lv (.ref (E.2.2.2 (300 + j)) :: st) := fun H locs ls h1 h2 h3 =>
  va_tlen C.1 C.2.1 (kb_CT C hj) h2 rfl hd (K H locs ls h1 h2 h3)
theorem q_tl (C : kb_C l E A cc nL own Ts ret p s m args meth c) {j k : Nat} (hj : j < 2) (hd : decode cc pc = .ok (.laload, 1)) (hk : k < 3) (K : kb_G p l e R s m args below meth c E A N nL g cells slots Q (pc + 1) lv (.long (kb_PL j k) :: st)) : kb_G p l e R s m args below meth c E A N nL g cells slots Q pc lv (.int (nI k) :: .ref (E.2.2.2 (300 + j)) :: st) := fun H locs ls h1 h2 h3 =>
  va_tl C.1 C.2.1 (kb_CT C hj) h2 (vp_in_nI hk (by decide)) (by rw [nI_clamp (by omega)]) hd (K H locs ls h1 h2 h3)
end KBT
end
section
/-! ===== NoSuchElementException thrown ===== -/
section KBM2
variable {p : Program} {l : Launch} {e : Env} {R : Room} {s : State} {m : MethodId} {args : Array Value} {below : List Frame} {meth : Method} {c : Code} {E : kb_E} {A : Nat → Prop} {N : Nat} {g : Nat → va_E} {X : Nat → Nat → Int32} {Y : Nat → Nat → Int64} {cells slots : Nat} {Q : State → Prop} {cc : ByteArray} {nL : Nat} {own : String} {Ts : List Cond} {ret : Option FieldType} {pc : Nat} {lv : List (Option Value)} {st : List Value} {post : Option Value → (Nat → va_E) → Prop} {thr : String → Prop}
/-- 'throw new NoSuchElementException("text")' in a body that catches nothing -/
theorem q_throwN {ik is ic mc ms : Nat} {text : String} {Qc : Array Value → State → Outcome → State → Prop} (C : kb_C l E (kb_A E N s.heap.size) cc nL own Ts ret p s m args meth c) (hx : ∀ x ∈ c.exceptionTable.toList, False)
    (d0 : decode cc pc = .ok (.new ik, 3)) (d3 : decode cc (pc + 3) = .ok (.dup, 1)) (d4 : decode cc (pc + 4) = .ok (.ldc is, 2)) (d6 : decode cc (pc + 6) = .ok (.invokespecial ic, 3)) (d9 : decode cc (pc + 9) = .ok (.athrow, 1))
    (hk : Cond.classLink own ik kb_NSE ∈ Ts) (hi : Cond.initialized kb_NSE ∈ Ts) (hstr : ∃ a, vk_R own is text a s) (hg1 : ∀ w ∈ (vx_atN own ic).filter goodWord, w ∈ Ts) (hg2 : ∀ w ∈ (vx_atN own ic).filter (fun w => !goodWord w), w ∈ [Cond.declares (Bundle.initS "java/lang/RuntimeException"), .declares (Bundle.initS "java/lang/Exception"), .declares (Bundle.initS "java/lang/Throwable"), .castable kb_NSE kb_NSE, .castable kb_IAE kb_IAE])
    (hgood : ∀ w ∈ Cond.classLink own ik kb_NSE :: Cond.initialized kb_NSE :: vx_atN own ic, vx_ot w = true) (hRf : 5 < R.frames) (hRl : (st.map fun v => v.category).sum + 82 ≤ R.locals) (hRc : cells + 1 ≤ R.cells) (hRs : slots + 6 ≤ R.slots) (hc : cells + 1 ≤ mc) (hs : slots + 6 ≤ ms) (ht : thr kb_NSE) :
    kb_G p l e R s m args below meth c E (kb_A E N s.heap.size) N nL g cells slots (vx_MQ below Qc (kb_XC E N s.heap.size g thr) args s mc ms (kb_A E N s.heap.size)) pc lv st := by
  intro H locs ls h1 h2 h3
  obtain ⟨sa, hstr⟩ := hstr
  obtain ⟨-, -, hl, hU, hN, hdc, hca, -⟩ := C.2.2.2.2.2.2.2.2.2
  have hat : ∀ w ∈ vx_atN own ic, w.before args s = true := vx_hat (fun w hw => C.2.2.2.2.1 w (hg1 w hw)) hg2 (by
    refine vx_c (va_Nw.use rfl (hdc _ (by simp))) (vx_c (va_Nw.use rfl (hdc _ (by simp))) (vx_c (va_Nw.use rfl (hdc _ (by simp))) (vx_c (va_Nw.use rfl (hca _ (by simp))) (vx_c (va_Nw.use rfl (hca _ (by simp))) vx_n)))))
  refine vx_throwX (cls := kb_NSE) (sup := "java/lang/RuntimeException") (r := ["java/lang/Exception"]) (ix := 13) (rx := prog_14_method_4_code) C.1 C.2.1 hl (by decide +kernel) (by decide +kernel) (by decide +kernel) (by decide +kernel) (own := own) C.2.2.2.1 (by decide +kernel) (by decide +kernel) (by decide +kernel) (C.2.2.2.2.1 _ hk) (C.2.2.2.2.1 _ hi) hstr hat hgood hU hN h2 (h3.1.trans C.2.2.1.symm) d0 d3 d4 d6 d9 (fun x hxx => (hx x hxx).elim) hRf hRl hRc hRs C.2.2.2.2.2.2.1 ?_ h2.2.2 hc hs
  intro t _ hz hk9
  refine ⟨ht, ⟨h1.1.kept (fun k q hq => hk9 q.1 (h1.1 k q hq).lt), kb_D_T h1.2⟩, Nat.le_trans h2.1 hz, fun q hq hn => ?_⟩
  rw [hk9 q (Nat.lt_of_lt_of_le hq h2.1)]
  exact h2.2.1 q hq hn
end KBM2
end
section
/-! ===== rows for numbers that are naturals, and loops ===== -/
theorem kb_inc (k : Nat) : nI k + Int32.ofInt 1 = nI (k + 1) := by rw [nI_succ]; rfl
theorem kb_vin {k len : Nat} (h : k < len) (hl : len < 2 ^ 31) : vp_in (nI k) len := vp_in_nI h hl
section KBN
variable {p : Program} {l : Launch} {e : Env} {R : Room} {s : State} {m : MethodId} {args : Array Value} {below : List Frame} {meth : Method} {c : Code} {E : kb_E} {A : Nat → Prop} {N : Nat} {g : Nat → va_E} {X : Nat → Nat → Int32} {Y : Nat → Nat → Int64} {cells slots : Nat} {Q : State → Prop} {cc : ByteArray} {nL : Nat} {own : String} {Ts : List Cond} {ret : Option FieldType} {pc : Nat} {lv : List (Option Value)} {st : List Value}
theorem q_iinc1 (C : kb_C l E A cc nL own Ts ret p s m args meth c) {i k : Nat} (hd : decode cc pc = .ok (.iinc i 1, 3)) (hx : lv[i]? = some (some (.int (nI k)))) (hn : i < nL) (hok : kb_ok1 lv i = true) (K : kb_G p l e R s m args below meth c E A N nL g cells slots Q (pc + 3) (lv.set i (some (.int (nI (k + 1))))) (st)) : kb_G p l e R s m args below meth c E A N nL g cells slots Q pc lv (st) := q_iinc C hd hx hn hok (by rw [kb_inc]; exact K)
theorem q_iaddN (C : kb_C l E A cc nL own Ts ret p s m args meth c) {a b : Nat} (hd : decode cc pc = .ok (.iadd, 1)) (K : kb_G p l e R s m args below meth c E A N nL g cells slots Q (pc + 1) lv (.int (nI (a + b)) :: st)) : kb_G p l e R s m args below meth c E A N nL g cells slots Q pc lv (.int (nI b) :: .int (nI a) :: st) := q_iadd C hd (by rw [nI_add]; exact K)
theorem q_imulN (C : kb_C l E A cc nL own Ts ret p s m args meth c) {a b : Nat} (hd : decode cc pc = .ok (.imul, 1)) (K : kb_G p l e R s m args below meth c E A N nL g cells slots Q (pc + 1) lv (.int (nI (a * b)) :: st)) : kb_G p l e R s m args below meth c E A N nL g cells slots Q pc lv (.int (nI b) :: .int (nI a) :: st) := q_imul C hd (by rw [pk_mul]; exact K)
theorem q_isubN (C : kb_C l E A cc nL own Ts ret p s m args meth c) {a b : Nat} (hd : decode cc pc = .ok (.isub, 1)) (h : b ≤ a) (K : kb_G p l e R s m args below meth c E A N nL g cells slots Q (pc + 1) lv (.int (nI (a - b)) :: st)) : kb_G p l e R s m args below meth c E A N nL g cells slots Q pc lv (.int (nI b) :: .int (nI a) :: st) := q_isub C hd (by rw [pk_sub h]; exact K)
theorem q_icmpeqN (C : kb_C l E A cc nL own Ts ret p s m args meth c) {a b : Nat} {off : Int} {tgt : Nat} (hd : decode cc pc = .ok (.if_icmp .eq off, 3)) (ht : (pc : Int) + off = (tgt : Int)) (ha : a < 2 ^ 31) (hb : b < 2 ^ 31) (K1 : a = b → kb_G p l e R s m args below meth c E A N nL g cells slots Q tgt lv (st)) (K2 : ¬ a = b → kb_G p l e R s m args below meth c E A N nL g cells slots Q (pc + 3) lv (st)) : kb_G p l e R s m args below meth c E A N nL g cells slots Q pc lv (.int (nI b) :: .int (nI a) :: st) := q_icmpeq C hd ht (fun hc => K1 ((nI_eq ha hb).mp hc)) (fun hc => K2 (fun q => hc ((nI_eq ha hb).mpr q)))
theorem q_icmpltN (C : kb_C l E A cc nL own Ts ret p s m args meth c) {a b : Nat} {off : Int} {tgt : Nat} (hd : decode cc pc = .ok (.if_icmp .lt off, 3)) (ht : (pc : Int) + off = (tgt : Int)) (ha : a < 2 ^ 31) (hb : b < 2 ^ 31) (K1 : a < b → kb_G p l e R s m args below meth c E A N nL g cells slots Q tgt lv (st)) (K2 : b ≤ a → kb_G p l e R s m args below meth c E A N nL g cells slots Q (pc + 3) lv (st)) : kb_G p l e R s m args below meth c E A N nL g cells slots Q pc lv (.int (nI b) :: .int (nI a) :: st) := q_icmplt C hd ht (fun hc => K1 ((nI_ltI ha hb).mp hc)) (fun hc => K2 (Nat.le_of_not_lt (fun q => hc ((nI_ltI ha hb).mpr q))))
theorem q_icmpgeN (C : kb_C l E A cc nL own Ts ret p s m args meth c) {a b : Nat} {off : Int} {tgt : Nat} (hd : decode cc pc = .ok (.if_icmp .ge off, 3)) (ht : (pc : Int) + off = (tgt : Int)) (ha : a < 2 ^ 31) (hb : b < 2 ^ 31) (K1 : b ≤ a → kb_G p l e R s m args below meth c E A N nL g cells slots Q tgt lv (st)) (K2 : a < b → kb_G p l e R s m args below meth c E A N nL g cells slots Q (pc + 3) lv (st)) : kb_G p l e R s m args below meth c E A N nL g cells slots Q pc lv (.int (nI b) :: .int (nI a) :: st) := q_icmpge C hd ht (fun hc => K1 ((nI_leI hb ha).mp hc)) (fun hc => K2 (Nat.lt_of_not_le (fun q => hc ((nI_leI hb ha).mpr q))))
theorem q_icmpgtN (C : kb_C l E A cc nL own Ts ret p s m args meth c) {a b : Nat} {off : Int} {tgt : Nat} (hd : decode cc pc = .ok (.if_icmp .gt off, 3)) (ht : (pc : Int) + off = (tgt : Int)) (ha : a < 2 ^ 31) (hb : b < 2 ^ 31) (K1 : b < a → kb_G p l e R s m args below meth c E A N nL g cells slots Q tgt lv (st)) (K2 : a ≤ b → kb_G p l e R s m args below meth c E A N nL g cells slots Q (pc + 3) lv (st)) : kb_G p l e R s m args below meth c E A N nL g cells slots Q pc lv (.int (nI b) :: .int (nI a) :: st) := q_icmpgt C hd ht (fun hc => K1 ((nI_ltI hb ha).mp hc)) (fun hc => K2 (Nat.le_of_not_lt (fun q => hc ((nI_ltI hb ha).mpr q))))
theorem q_icmpleN (C : kb_C l E A cc nL own Ts ret p s m args meth c) {a b : Nat} {off : Int} {tgt : Nat} (hd : decode cc pc = .ok (.if_icmp .le off, 3)) (ht : (pc : Int) + off = (tgt : Int)) (ha : a < 2 ^ 31) (hb : b < 2 ^ 31) (K1 : a ≤ b → kb_G p l e R s m args below meth c E A N nL g cells slots Q tgt lv (st)) (K2 : b < a → kb_G p l e R s m args below meth c E A N nL g cells slots Q (pc + 3) lv (st)) : kb_G p l e R s m args below meth c E A N nL g cells slots Q pc lv (.int (nI b) :: .int (nI a) :: st) := q_icmple C hd ht (fun hc => K1 ((nI_leI ha hb).mp hc)) (fun hc => K2 (Nat.lt_of_not_le (fun q => hc ((nI_leI ha hb).mpr q))))
theorem q_icmpneN (C : kb_C l E A cc nL own Ts ret p s m args meth c) {a b : Nat} {off : Int} {tgt : Nat} (hd : decode cc pc = .ok (.if_icmp .ne off, 3)) (ht : (pc : Int) + off = (tgt : Int)) (ha : a < 2 ^ 31) (hb : b < 2 ^ 31) (K1 : ¬ a = b → kb_G p l e R s m args below meth c E A N nL g cells slots Q tgt lv (st)) (K2 : a = b → kb_G p l e R s m args below meth c E A N nL g cells slots Q (pc + 3) lv (st)) : kb_G p l e R s m args below meth c E A N nL g cells slots Q pc lv (.int (nI b) :: .int (nI a) :: st) := q_icmpne C hd ht (fun hc => K1 (fun q => hc ((nI_eq ha hb).mpr q))) (fun hc => K2 ((nI_eq ha hb).mp hc))
theorem x_ialdN (C : kb_C l E A cc nL own Ts ret p s m args meth c) {n len k : Nat} (hd : decode cc pc = .ok (.iaload, 1)) (h : kb_IA n len) (hl : len < 2 ^ 31) (hi : k < len) (K : kb_G p l e R s m args below meth c E A 202 nL (kb_ent E X Y) cells slots Q (pc + 1) lv (.int (X n k) :: st)) : kb_G p l e R s m args below meth c E A 202 nL (kb_ent E X Y) cells slots Q pc lv (.int (nI k) :: .ref (E.2.2.2 n) :: st) := x_iald C hd h (kb_vin hi hl) (by rw [nI_clamp (by omega)]; exact K)
theorem x_laldN (C : kb_C l E A cc nL own Ts ret p s m args meth c) {n len k : Nat} (hd : decode cc pc = .ok (.laload, 1)) (h : kb_LA n len) (hl : len < 2 ^ 31) (hi : k < len) (K : kb_G p l e R s m args below meth c E A 202 nL (kb_ent E X Y) cells slots Q (pc + 1) lv (.long (Y n k) :: st)) : kb_G p l e R s m args below meth c E A 202 nL (kb_ent E X Y) cells slots Q pc lv (.int (nI k) :: .ref (E.2.2.2 n) :: st) := x_lald C hd h (kb_vin hi hl) (by rw [nI_clamp (by omega)]; exact K)
theorem x_zaldN (C : kb_C l E A cc nL own Ts ret p s m args meth c) {k : Nat} (hd : decode cc pc = .ok (.baload, 1)) (hi : k < 69632) (K : kb_G p l e R s m args below meth c E A 202 nL (kb_ent E X Y) cells slots Q (pc + 1) lv (.int (X 200 k) :: st)) : kb_G p l e R s m args below meth c E A 202 nL (kb_ent E X Y) cells slots Q pc lv (.int (nI k) :: .ref (E.2.2.2 200) :: st) := x_zald C hd (kb_vin hi (by decide)) (by rw [nI_clamp (by omega)]; exact K)
theorem x_iastN (C : kb_C l E A cc nL own Ts ret p s m args meth c) {n len k : Nat} {x : Int32} (hd : decode cc pc = .ok (.iastore, 1)) (h : kb_IA n len) (hl : len < 2 ^ 31) (hi : k < len) (K : kb_G p l e R s m args below meth c E A 202 nL (kb_ent E (va_up X n (upd (X n) k x)) Y) cells slots Q (pc + 1) lv (st)) : kb_G p l e R s m args below meth c E A 202 nL (kb_ent E X Y) cells slots Q pc lv (.int x :: .int (nI k) :: .ref (E.2.2.2 n) :: st) := x_iast C hd h (kb_vin hi hl) (by rw [nI_clamp (by omega)]; exact K)
theorem x_lastN (C : kb_C l E A cc nL own Ts ret p s m args meth c) {n len k : Nat} {x : Int64} (hd : decode cc pc = .ok (.lastore, 1)) (h : kb_LA n len) (hl : len < 2 ^ 31) (hi : k < len) (K : kb_G p l e R s m args below meth c E A 202 nL (kb_ent E X (va_up Y n (vp_updL (Y n) k x))) cells slots Q (pc + 1) lv (st)) : kb_G p l e R s m args below meth c E A 202 nL (kb_ent E X Y) cells slots Q pc lv (.long x :: .int (nI k) :: .ref (E.2.2.2 n) :: st) := x_last C hd h (kb_vin hi hl) (by rw [nI_clamp (by omega)]; exact K)
theorem x_zastN (C : kb_C l E A cc nL own Ts ret p s m args meth c) {k v : Nat} (hd : decode cc pc = .ok (.bastore, 1)) (hi : k < 69632) (hv : v < 2) (K : kb_G p l e R s m args below meth c E A 202 nL (kb_ent E (va_up X 200 (upd (X 200) k (nI v))) Y) cells slots Q (pc + 1) lv (st)) : kb_G p l e R s m args below meth c E A 202 nL (kb_ent E X Y) cells slots Q pc lv (.int (nI v) :: .int (nI k) :: .ref (E.2.2.2 200) :: st) := x_zast C hd (kb_vin hi (by decide)) (by
  rw [nI_clamp (by omega), show vp_nar .boolean (nI v) = nI v from by rcases (show v = 0 ∨ v = 1 by omega) with rfl | rfl <;> rfl]; exact K)
theorem x_aaldN (C : kb_C l E A cc nL own Ts ret p s m args meth c) {n len t0 k : Nat} {C0 : String} {f : Nat → Nat} (hd : decode cc pc = .ok (.aaload, 1)) (h : kb_RA n t0 len f) (ht : (kb_tys E)[t0]? = some (E.2.2.1 t0, .object C0)) (hl : len < 2 ^ 31) (hi : k < len) (K : kb_G p l e R s m args below meth c E A 202 nL (kb_ent E X Y) cells slots Q (pc + 1) lv (.ref (E.2.2.2 (f k)) :: st)) : kb_G p l e R s m args below meth c E A 202 nL (kb_ent E X Y) cells slots Q pc lv (.int (nI k) :: .ref (E.2.2.2 n) :: st) := x_aald C hd h ht (kb_vin hi hl) (by rw [nI_clamp (by omega)]; exact K)
/-- a loop that counts from k0 up to K; a: what else its locals hold -/
theorem q_for {σ : Type} (K : Nat) (I : Nat → σ → (Nat → Nat → Int32) → (Nat → Nat → Int64) → Prop) (lvf : Nat → σ → List (Option Value)) {k0 : Nat} (hk : k0 ≤ K) (a0 : σ) (h0 : I k0 a0 X Y)
    (step : ∀ (k : Nat) (a : σ) (X : Nat → Nat → Int32) (Y : Nat → Nat → Int64), k < K → k0 ≤ k → I k a X Y → (∀ (a' : σ) (X' : Nat → Nat → Int32) (Y' : Nat → Nat → Int64), I (k + 1) a' X' Y' → kb_G p l e R s m args below meth c E A 202 nL (kb_ent E X' Y') cells slots Q pc (lvf (k + 1) a') st) → kb_G p l e R s m args below meth c E A 202 nL (kb_ent E X Y) cells slots Q pc (lvf k a) st)
    (exit : ∀ (a : σ) (X : Nat → Nat → Int32) (Y : Nat → Nat → Int64), I K a X Y → kb_G p l e R s m args below meth c E A 202 nL (kb_ent E X Y) cells slots Q pc (lvf K a) st) : kb_G p l e R s m args below meth c E A 202 nL (kb_ent E X Y) cells slots Q pc (lvf k0 a0) st := by
  have key : ∀ (n k : Nat) (a : σ) (X : Nat → Nat → Int32) (Y : Nat → Nat → Int64), k + n = K → k0 ≤ k → I k a X Y → kb_G p l e R s m args below meth c E A 202 nL (kb_ent E X Y) cells slots Q pc (lvf k a) st := by
    intro n
    induction n with
    | zero =>
      intro k a X Y hkn _ hI
      have e1 : k = K := by omega
      subst e1
      exact exit a X Y hI
    | succ n ih =>
      intro k a X Y hkn hk0 hI
      exact step k a X Y (by omega) hk0 hI (fun a' X' Y' h => ih (k + 1) a' X' Y' (by omega) (by omega) h)
  exact key (K - k0) k0 a0 X Y (by omega) (Nat.le_refl _) h0
/-- a loop by a measure that falls -/
theorem q_loop {σ : Type} (μ : σ → Nat) (I : σ → (Nat → Nat → Int32) → (Nat → Nat → Int64) → Prop) (lvf : σ → List (Option Value)) (a0 : σ) (h0 : I a0 X Y)
    (step : ∀ (a : σ) (X : Nat → Nat → Int32) (Y : Nat → Nat → Int64), I a X Y → (∀ (a' : σ) (X' : Nat → Nat → Int32) (Y' : Nat → Nat → Int64), μ a' < μ a → I a' X' Y' → kb_G p l e R s m args below meth c E A 202 nL (kb_ent E X' Y') cells slots Q pc (lvf a') st) → kb_G p l e R s m args below meth c E A 202 nL (kb_ent E X Y) cells slots Q pc (lvf a) st) : kb_G p l e R s m args below meth c E A 202 nL (kb_ent E X Y) cells slots Q pc (lvf a0) st := by
  have key : ∀ (n : Nat) (a : σ) (X : Nat → Nat → Int32) (Y : Nat → Nat → Int64), μ a < n → I a X Y → kb_G p l e R s m args below meth c E A 202 nL (kb_ent E X Y) cells slots Q pc (lvf a) st := by
    intro n
    induction n with
    | zero => intro a X Y h _; exact absurd h (Nat.not_lt_zero _)
    | succ n ih =>
      intro a X Y hn hI
      exact step a X Y hI (fun a' X' Y' h1 h2 => ih a' X' Y' (by omega) h2)
  exact key (μ a0 + 1) a0 X Y (Nat.lt_succ_self _) h0
end KBN
end
section
/-! ===== the small static methods of KnotBand ===== -/
def kb_knotsIn (a b : Int32) : Int32 := (a - (b &&& nI 1)) >>> (nI 1 &&& 31)
set_option maxRecDepth 100000 in
set_option maxHeartbeats 4000000 in
/-- X4.knotsIn -/
theorem m_knotsIn (l : Launch) (E : kb_E) (g : Nat → va_E) (a b : Int32) : kb_Met l E 202 yX4_knotsIn wsX4_knotsIn ({ frames := 0, cells := 0, slots := 0, locals := 0 }) [.int a, .int b] g (fun v g' => v = some (.int (kb_knotsIn a b)) ∧ g' = g) := by
  refine kb_enter (cc := cX4_knotsIn) (maxL := 2) (ret := (some .int)) (by decide +kernel) rfl (by simp [Value.category]) (Nat.le_of_ble_eq_true rfl) ?_
  intro p e s m args below meth c C hini
  refine q_iload_n C dX4_knotsIn_0 rfl ?_
  refine q_iload_n C dX4_knotsIn_1 rfl ?_
  refine q_iconst C (v := nI 1) dX4_knotsIn_2 (by decide) ?_
  refine q_iand C dX4_knotsIn_3 ?_
  refine q_isub C dX4_knotsIn_4 ?_
  refine q_iconst C (v := nI 1) dX4_knotsIn_5 (by decide) ?_
  refine q_ishr C dX4_knotsIn_6 ?_
  exact q_iret C dX4_knotsIn_7 ⟨rfl, rfl⟩
def kb_leftPlaceOf (a b : Int32) : Int32 := nI 2 * b + (a &&& nI 1)
set_option maxRecDepth 100000 in
set_option maxHeartbeats 4000000 in
/-- X4.leftPlaceOf -/
theorem m_leftPlaceOf (l : Launch) (E : kb_E) (g : Nat → va_E) (a b : Int32) : kb_Met l E 202 yX4_leftPlaceOf wsX4_leftPlaceOf ({ frames := 0, cells := 0, slots := 0, locals := 0 }) [.int a, .int b] g (fun v g' => v = some (.int (kb_leftPlaceOf a b)) ∧ g' = g) := by
  refine kb_enter (cc := cX4_leftPlaceOf) (maxL := 2) (ret := (some .int)) (by decide +kernel) rfl (by simp [Value.category]) (Nat.le_of_ble_eq_true rfl) ?_
  intro p e s m args below meth c C hini
  refine q_iconst C (v := nI 2) dX4_leftPlaceOf_0 (by decide) ?_
  refine q_iload_n C dX4_leftPlaceOf_1 rfl ?_
  refine q_imul C dX4_leftPlaceOf_2 ?_
  refine q_iload_n C dX4_leftPlaceOf_3 rfl ?_
  refine q_iconst C (v := nI 1) dX4_leftPlaceOf_4 (by decide) ?_
  refine q_iand C dX4_leftPlaceOf_5 ?_
  refine q_iadd C dX4_leftPlaceOf_6 ?_
  exact q_iret C dX4_leftPlaceOf_7 ⟨rfl, rfl⟩
def kb_spotOf (a b : Int32) : Int32 := nI 3 * a + b
set_option maxRecDepth 100000 in
set_option maxHeartbeats 4000000 in
/-- X4.spotOf -/
theorem m_spotOf (l : Launch) (E : kb_E) (g : Nat → va_E) (a b : Int32) : kb_Met l E 202 yX4_spotOf wsX4_spotOf ({ frames := 0, cells := 0, slots := 0, locals := 0 }) [.int a, .int b] g (fun v g' => v = some (.int (kb_spotOf a b)) ∧ g' = g) := by
  refine kb_enter (cc := cX4_spotOf) (maxL := 2) (ret := (some .int)) (by decide +kernel) rfl (by simp [Value.category]) (Nat.le_of_ble_eq_true rfl) ?_
  intro p e s m args below meth c C hini
  refine q_iconst C (v := nI 3) dX4_spotOf_0 (by decide) ?_
  refine q_iload_n C dX4_spotOf_1 rfl ?_
  refine q_imul C dX4_spotOf_2 ?_
  refine q_iload_n C dX4_spotOf_3 rfl ?_
  refine q_iadd C dX4_spotOf_4 ?_
  exact q_iret C dX4_spotOf_5 ⟨rfl, rfl⟩
def kb_kindIn (a b : Int32) : Int32 := (a >>> ((nI 2 * b) &&& 31)) &&& nI 3
set_option maxRecDepth 100000 in
set_option maxHeartbeats 4000000 in
/-- X4.kindIn -/
theorem m_kindIn (l : Launch) (E : kb_E) (g : Nat → va_E) (a b : Int32) : kb_Met l E 202 yX4_kindIn wsX4_kindIn ({ frames := 0, cells := 0, slots := 0, locals := 0 }) [.int a, .int b] g (fun v g' => v = some (.int (kb_kindIn a b)) ∧ g' = g) := by
  refine kb_enter (cc := cX4_kindIn) (maxL := 2) (ret := (some .int)) (by decide +kernel) rfl (by simp [Value.category]) (Nat.le_of_ble_eq_true rfl) ?_
  intro p e s m args below meth c C hini
  refine q_iload_n C dX4_kindIn_0 rfl ?_
  refine q_iconst C (v := nI 2) dX4_kindIn_1 (by decide) ?_
  refine q_iload_n C dX4_kindIn_2 rfl ?_
  refine q_imul C dX4_kindIn_3 ?_
  refine q_ishr C dX4_kindIn_4 ?_
  refine q_iconst C (v := nI 3) dX4_kindIn_5 (by decide) ?_
  refine q_iand C dX4_kindIn_6 ?_
  exact q_iret C dX4_kindIn_7 ⟨rfl, rfl⟩
def kb_withKind (a b c : Int32) : Int32 := (a &&& ((nI 3 <<< ((nI 2 * b) &&& 31)) ^^^ (-1))) ||| (c <<< ((nI 2 * b) &&& 31))
set_option maxRecDepth 100000 in
set_option maxHeartbeats 4000000 in
/-- X4.withKind -/
theorem m_withKind (l : Launch) (E : kb_E) (g : Nat → va_E) (a b c : Int32) : kb_Met l E 202 yX4_withKind wsX4_withKind ({ frames := 0, cells := 0, slots := 0, locals := 0 }) [.int a, .int b, .int c] g (fun v g' => v = some (.int (kb_withKind a b c)) ∧ g' = g) := by
  refine kb_enter (cc := cX4_withKind) (maxL := 3) (ret := (some .int)) (by decide +kernel) rfl (by simp [Value.category]) (Nat.le_of_ble_eq_true rfl) ?_
  intro p e s m args below meth c C hini
  refine q_iload_n C dX4_withKind_0 rfl ?_
  refine q_iconst C (v := nI 3) dX4_withKind_1 (by decide) ?_
  refine q_iconst C (v := nI 2) dX4_withKind_2 (by decide) ?_
  refine q_iload_n C dX4_withKind_3 rfl ?_
  refine q_imul C dX4_withKind_4 ?_
  refine q_ishl C dX4_withKind_5 ?_
  refine q_iconst C (v := -1) dX4_withKind_6 (by decide) ?_
  refine q_ixor C dX4_withKind_7 ?_
  refine q_iand C dX4_withKind_8 ?_
  refine q_iload_n C dX4_withKind_9 rfl ?_
  refine q_iconst C (v := nI 2) dX4_withKind_10 (by decide) ?_
  refine q_iload_n C dX4_withKind_11 rfl ?_
  refine q_imul C dX4_withKind_12 ?_
  refine q_ishl C dX4_withKind_13 ?_
  refine q_ior C dX4_withKind_14 ?_
  exact q_iret C dX4_withKind_15 ⟨rfl, rfl⟩
def kb_showingPlace (a b : Int32) : Int32 := a + (b &&& nI 1)
set_option maxRecDepth 100000 in
set_option maxHeartbeats 4000000 in
/-- X4.showingPlace -/
theorem m_showingPlace (l : Launch) (E : kb_E) (g : Nat → va_E) (a b : Int32) : kb_Met l E 202 yX4_showingPlace wsX4_showingPlace ({ frames := 0, cells := 0, slots := 0, locals := 0 }) [.int a, .int b] g (fun v g' => v = some (.int (kb_showingPlace a b)) ∧ g' = g) := by
  refine kb_enter (cc := cX4_showingPlace) (maxL := 2) (ret := (some .int)) (by decide +kernel) rfl (by simp [Value.category]) (Nat.le_of_ble_eq_true rfl) ?_
  intro p e s m args below meth c C hini
  refine q_iload_n C dX4_showingPlace_0 rfl ?_
  refine q_iload_n C dX4_showingPlace_1 rfl ?_
  refine q_iconst C (v := nI 1) dX4_showingPlace_2 (by decide) ?_
  refine q_iand C dX4_showingPlace_3 ?_
  refine q_iadd C dX4_showingPlace_4 ?_
  exact q_iret C dX4_showingPlace_5 ⟨rfl, rfl⟩
def kb_bitOf (a : Int32) : Int32 := nI 2 * (nI 5 - a)
set_option maxRecDepth 100000 in
set_option maxHeartbeats 4000000 in
/-- X4.bitOf -/
theorem m_bitOf (l : Launch) (E : kb_E) (g : Nat → va_E) (a : Int32) : kb_Met l E 202 yX4_bitOf wsX4_bitOf ({ frames := 0, cells := 0, slots := 0, locals := 0 }) [.int a] g (fun v g' => v = some (.int (kb_bitOf a)) ∧ g' = g) := by
  refine kb_enter (cc := cX4_bitOf) (maxL := 1) (ret := (some .int)) (by decide +kernel) rfl (by simp [Value.category]) (Nat.le_of_ble_eq_true rfl) ?_
  intro p e s m args below meth c C hini
  refine q_iconst C (v := nI 2) dX4_bitOf_0 (by decide) ?_
  refine q_iconst C (v := nI 5) dX4_bitOf_1 (by decide) ?_
  refine q_iload_n C dX4_bitOf_2 rfl ?_
  refine q_isub C dX4_bitOf_3 ?_
  refine q_imul C dX4_bitOf_4 ?_
  exact q_iret C dX4_bitOf_5 ⟨rfl, rfl⟩
def kb_colourIn (a b : Int32) : Int32 := (a >>> (kb_bitOf b &&& 31)) &&& nI 3
set_option maxRecDepth 100000 in
set_option maxHeartbeats 4000000 in
/-- X4.colourIn -/
theorem m_colourIn (l : Launch) (E : kb_E) (g : Nat → va_E) (a b : Int32) : kb_Met l E 202 yX4_colourIn wsX4_colourIn ({ frames := 1, cells := 0, slots := 0, locals := 20 }) [.int a, .int b] g (fun v g' => v = some (.int (kb_colourIn a b)) ∧ g' = g) := by
  refine kb_enter (cc := cX4_colourIn) (maxL := 2) (ret := (some .int)) (by decide +kernel) rfl (by simp [Value.category]) (Nat.le_of_ble_eq_true rfl) ?_
  intro p e s m args below meth c C hini
  refine q_iload_n C dX4_colourIn_0 rfl ?_
  refine q_iload_n C dX4_colourIn_1 rfl ?_
  refine q_callS (As := [_]) (nA := 1) C dX4_colourIn_2 (m_bitOf _ _ _ _) gX4_colourIn_X4_bitOf rfl (by decide +kernel) rfl ⟨Nat.le_of_ble_eq_true rfl, Nat.le_of_ble_eq_true rfl⟩ (Nat.le_of_ble_eq_true rfl) ⟨Nat.le_of_ble_eq_true rfl, Nat.le_of_ble_eq_true rfl⟩ (fun v2 g2 h2 => ?_)
  obtain ⟨rfl, rfl⟩ := h2
  refine q_ishr C dX4_colourIn_5 ?_
  refine q_iconst C (v := nI 3) dX4_colourIn_6 (by decide) ?_
  refine q_iand C dX4_colourIn_7 ?_
  exact q_iret C dX4_colourIn_8 ⟨rfl, rfl⟩
def kb_xu (a b : Int32) : Int32 := ((a >>> (b &&& 31)) ^^^ (a >>> ((b + nI 2) &&& 31))) &&& nI 3
def kb_exchanged (a b : Int32) : Int32 := (a ^^^ (kb_xu a b <<< (b &&& 31))) ^^^ (kb_xu a b <<< ((b + nI 2) &&& 31))
set_option maxRecDepth 100000 in
set_option maxHeartbeats 4000000 in
/-- X4.exchanged -/
theorem m_exchanged (l : Launch) (E : kb_E) (g : Nat → va_E) (a b : Int32) : kb_Met l E 202 yX4_exchanged wsX4_exchanged ({ frames := 0, cells := 0, slots := 0, locals := 0 }) [.int a, .int b] g (fun v g' => v = some (.int (kb_exchanged a b)) ∧ g' = g) := by
  refine kb_enter (cc := cX4_exchanged) (maxL := 3) (ret := (some .int)) (by decide +kernel) rfl (by simp [Value.category]) (Nat.le_of_ble_eq_true rfl) ?_
  intro p e s m args below meth c C hini
  refine q_iload_n C dX4_exchanged_0 rfl ?_
  refine q_iload_n C dX4_exchanged_1 rfl ?_
  refine q_ishr C dX4_exchanged_2 ?_
  refine q_iload_n C dX4_exchanged_3 rfl ?_
  refine q_iload_n C dX4_exchanged_4 rfl ?_
  refine q_iconst C (v := nI 2) dX4_exchanged_5 (by decide) ?_
  refine q_iadd C dX4_exchanged_6 ?_
  refine q_ishr C dX4_exchanged_7 ?_
  refine q_ixor C dX4_exchanged_8 ?_
  refine q_iconst C (v := nI 3) dX4_exchanged_9 (by decide) ?_
  refine q_iand C dX4_exchanged_10 ?_
  refine q_istore_n C dX4_exchanged_11 (by decide) rfl ?_
  refine q_iload_n C dX4_exchanged_12 rfl ?_
  refine q_iload_n C dX4_exchanged_13 rfl ?_
  refine q_iload_n C dX4_exchanged_14 rfl ?_
  refine q_ishl C dX4_exchanged_15 ?_
  refine q_ixor C dX4_exchanged_16 ?_
  refine q_iload_n C dX4_exchanged_17 rfl ?_
  refine q_iload_n C dX4_exchanged_18 rfl ?_
  refine q_iconst C (v := nI 2) dX4_exchanged_19 (by decide) ?_
  refine q_iadd C dX4_exchanged_20 ?_
  refine q_ishl C dX4_exchanged_21 ?_
  refine q_ixor C dX4_exchanged_22 ?_
  exact q_iret C dX4_exchanged_23 ⟨rfl, rfl⟩
theorem fa_of_nlt9 {a b : Int32} (h : ¬ a < b) : b ≤ a := by rw [Int32.le_iff_toInt_le]; rw [Int32.lt_iff_toInt_lt] at h; omega
theorem fa_nle9 {a b : Int32} (h : a < b) : ¬ b ≤ a := by rw [Int32.le_iff_toInt_le]; rw [Int32.lt_iff_toInt_lt] at h; omega
theorem kb_mb1 {a : Int32} (h : ¬ a < nI 2) (h2 : ¬ nI 6 < a) : some (Value.int (nI 1)) = some (Value.int (if nI 2 ≤ a ∧ a ≤ nI 6 then 1 else 0)) := by
  rw [if_pos ⟨fa_of_nlt9 h, fa_of_nlt9 h2⟩]; rfl
theorem kb_mb0 {a : Int32} (h : a < nI 2 ∨ nI 6 < a) : some (Value.int (nI 0)) = some (Value.int (if nI 2 ≤ a ∧ a ≤ nI 6 then 1 else 0)) := by
  rw [if_neg (fun q => by rcases h with h | h; exact fa_nle9 h q.1; exact fa_nle9 h q.2)]; rfl
set_option maxRecDepth 100000 in
set_option maxHeartbeats 4000000 in
/-- X4.mayBeThreads -/
theorem m_mayBe (l : Launch) (E : kb_E) (g : Nat → va_E) (a : Int32) : kb_Met l E 202 yX4_mayBeThreads wsX4_mayBeThreads ({ frames := 0, cells := 0, slots := 0, locals := 0 }) [.int a] g (fun v g' => v = some (.int (if nI 2 ≤ a ∧ a ≤ nI 6 then 1 else 0)) ∧ g' = g) := by
  refine kb_enter (cc := cX4_mayBeThreads) (maxL := 1) (ret := (some .boolean)) (by decide +kernel) rfl (by simp [Value.category]) (Nat.le_of_ble_eq_true rfl) ?_
  intro p e s m args below meth c C hini
  refine q_iload_n C dX4_mayBeThreads_0 rfl ?_
  refine q_iconst C (v := nI 2) dX4_mayBeThreads_1 (by decide) ?_
  refine q_icmplt C (tgt := 15) dX4_mayBeThreads_2 (by decide) (fun c2 => ?_) (fun c2 => ?_)
  · refine q_iconst C (v := nI 0) dX4_mayBeThreads_15 (by decide) ?_
    exact q_zret C dX4_mayBeThreads_16 (by decide) ⟨by first | exact kb_mb1 c2 c8 | exact kb_mb0 (Or.inl c2) | exact kb_mb0 (Or.inr c8), rfl⟩
  · refine q_iload_n C dX4_mayBeThreads_5 rfl ?_
    refine q_bipush C (v := nI 6) dX4_mayBeThreads_6 (by decide) ?_
    refine q_icmpgt C (tgt := 15) dX4_mayBeThreads_8 (by decide) (fun c8 => ?_) (fun c8 => ?_)
    · refine q_iconst C (v := nI 0) dX4_mayBeThreads_15 (by decide) ?_
      exact q_zret C dX4_mayBeThreads_16 (by decide) ⟨by first | exact kb_mb1 c2 c8 | exact kb_mb0 (Or.inl c2) | exact kb_mb0 (Or.inr c8), rfl⟩
    · refine q_iconst C (v := nI 1) dX4_mayBeThreads_11 (by decide) ?_
      refine q_goto C (tgt := 16) dX4_mayBeThreads_12 (by decide) ?_
      exact q_zret C dX4_mayBeThreads_16 (by decide) ⟨by first | exact kb_mb1 c2 c8 | exact kb_mb0 (Or.inl c2) | exact kb_mb0 (Or.inr c8), rfl⟩
theorem kb_in9 {a b : Int32} (h1 : ¬ a < 0) (h2 : a < b) : 0 ≤ a ∧ a < b := ⟨fa_of_nlt9 h1, h2⟩
theorem kb_ni9 {a b : Int32} (h : a < 0 ∨ ¬ a < b) : ¬ (0 ≤ a ∧ a < b) := fun q => by
  rcases h with h | h
  · exact fa_nle9 h q.1
  · exact h q.2
set_option maxRecDepth 100000 in
set_option maxHeartbeats 4000000 in
/-- X4.needElement -/
theorem m_needElement (l : Launch) (E : kb_E) (g : Nat → va_E) (a b : Int32) : kb_MetX l E 202 yX4_needElement wsX4_needElement ({ frames := 6, cells := 1, slots := 6, locals := 82 }) [.int a, .int b] g (fun v g' => v = none ∧ g' = g ∧ 0 ≤ a ∧ a < b) (fun X => X = kb_NSE ∧ ¬ (0 ≤ a ∧ a < b)) := by
  refine kb_enterX (cc := cX4_needElement) (maxL := 2) (ret := none) (by decide +kernel) rfl (by simp [Value.category]) (Nat.le_of_ble_eq_true rfl) ?_
  intro p e s m args below meth c C hx
  refine q_iload_n C dX4_needElement_0 rfl ?_
  refine q_iflt C (tgt := 9) dX4_needElement_1 (by decide) (fun c1 => ?_) (fun c1 => ?_)
  · exact q_throwN C hx dX4_needElement_9 dX4_needElement_12 dX4_needElement_13 dX4_needElement_15 dX4_needElement_18 (List.mem_of_getElem? (i := 1) rfl) (List.mem_of_getElem? (i := 2) rfl) C.2.2.2.2.2.2.2.2.2.2.2.2.2.2.2.2.1 (fun w h => List.mem_cons_of_mem _ (List.mem_append_right _ h)) (by decide +kernel) (by decide +kernel) (by decide) (by decide) (by decide) (by decide) (by decide) (by decide) ⟨rfl, kb_ni9 (by first | exact Or.inl c1 | exact Or.inr c6)⟩
  · refine q_iload_n C dX4_needElement_4 rfl ?_
    refine q_iload_n C dX4_needElement_5 rfl ?_
    refine q_icmplt C (tgt := 19) dX4_needElement_6 (by decide) (fun c6 => ?_) (fun c6 => ?_)
    · exact q_retX (by decide) (by decide) (q_vret C dX4_needElement_19 ⟨rfl, rfl, kb_in9 c1 c6⟩)
    · exact q_throwN C hx dX4_needElement_9 dX4_needElement_12 dX4_needElement_13 dX4_needElement_15 dX4_needElement_18 (List.mem_of_getElem? (i := 1) rfl) (List.mem_of_getElem? (i := 2) rfl) C.2.2.2.2.2.2.2.2.2.2.2.2.2.2.2.2.1 (fun w h => List.mem_cons_of_mem _ (List.mem_append_right _ h)) (by decide +kernel) (by decide +kernel) (by decide) (by decide) (by decide) (by decide) (by decide) (by decide) ⟨rfl, kb_ni9 (by first | exact Or.inl c1 | exact Or.inr c6)⟩
set_option maxRecDepth 100000 in
set_option maxHeartbeats 4000000 in
/-- X4.needArgument -/
theorem m_needArgument (l : Launch) (E : kb_E) (g : Nat → va_E) (a b : Int32) : kb_MetX l E 202 yX4_needArgument wsX4_needArgument ({ frames := 6, cells := 1, slots := 6, locals := 82 }) [.int a, .int b] g (fun v g' => v = none ∧ g' = g ∧ 0 ≤ a ∧ a < b) (fun X => X = kb_IAE ∧ ¬ (0 ≤ a ∧ a < b)) := by
  refine kb_enterX (cc := cX4_needArgument) (maxL := 2) (ret := none) (by decide +kernel) rfl (by simp [Value.category]) (Nat.le_of_ble_eq_true rfl) ?_
  intro p e s m args below meth c C hx
  refine q_iload_n C dX4_needArgument_0 rfl ?_
  refine q_iflt C (tgt := 9) dX4_needArgument_1 (by decide) (fun c1 => ?_) (fun c1 => ?_)
  · exact q_throw (cls := kb_IAE) C hx dX4_needArgument_9 dX4_needArgument_12 dX4_needArgument_13 dX4_needArgument_15 dX4_needArgument_18 (by decide +kernel) (List.mem_of_getElem? (i := 1) rfl) (List.mem_of_getElem? (i := 2) rfl) C.2.2.2.2.2.2.2.2.2.2.2.2.2.2.2.2.2.1 (fun w h => List.mem_cons_of_mem _ (List.mem_append_right _ h)) (by decide +kernel) (by decide +kernel) (by decide) (by decide) (by decide) (by decide) (by decide) (by decide) ⟨rfl, kb_ni9 (by first | exact Or.inl c1 | exact Or.inr c6)⟩
  · refine q_iload_n C dX4_needArgument_4 rfl ?_
    refine q_iload_n C dX4_needArgument_5 rfl ?_
    refine q_icmplt C (tgt := 19) dX4_needArgument_6 (by decide) (fun c6 => ?_) (fun c6 => ?_)
    · exact q_retX (by decide) (by decide) (q_vret C dX4_needArgument_19 ⟨rfl, rfl, kb_in9 c1 c6⟩)
    · exact q_throw (cls := kb_IAE) C hx dX4_needArgument_9 dX4_needArgument_12 dX4_needArgument_13 dX4_needArgument_15 dX4_needArgument_18 (by decide +kernel) (List.mem_of_getElem? (i := 1) rfl) (List.mem_of_getElem? (i := 2) rfl) C.2.2.2.2.2.2.2.2.2.2.2.2.2.2.2.2.2.1 (fun w h => List.mem_cons_of_mem _ (List.mem_append_right _ h)) (by decide +kernel) (by decide +kernel) (by decide) (by decide) (by decide) (by decide) (by decide) (by decide) ⟨rfl, kb_ni9 (by first | exact Or.inl c1 | exact Or.inr c6)⟩
end

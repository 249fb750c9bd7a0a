/-! ===== methods with a table of their own that throw nothing; a call inside it ===== -/
theorem kb_ofWH {l : Launch} {y : MethodName} {ws ws' : List Cond} {rm : Room} {Pc : Array Value → State → Prop} {Qc : Array Value → State → Outcome → State → Prop} {mc ms : Nat} {free : Addr → Prop} {cc : ByteArray} {maxL : Nat} {ret : Option FieldType} {hh : List (Nat × Nat × Nat × Nat)}
    (hy : plainName y.cls = true) (hw : ws = Cond.codeWith y cc maxL ret hh :: ws')
    (body : ∀ p e s m args below meth c s₁, BodyLoose p l y (headSpec ws rm) cc maxL ret e s m args below meth c s₁ → c.maxLocals = maxL → Pc args s →
      W p l e (headSpec ws rm).room s m args below meth c s.heap [] 0 0 (MQ below Qc args s mc ms free) (entryFrame m args maxL)) : Met l y ws rm Pc Qc mc ms free := by
  refine MetFree.of_bodyS (code := cc) (maxLocals := maxL) (ret := ret) hy ?_ ?_
  · intro args s m h hn
    obtain ⟨m9, meth, c, hn9, h1, h2, h3, h4, -, h5, h6, -⟩ := Cond.codeWith_spec (atoms_spec (ws := ws) h _ (by rw [hw]; exact List.mem_cons_self))
    cases hn.symm.trans hn9
    exact ⟨meth, c, h1, h2, h3, h4, h5, h6⟩
  · intro p e s m args below meth c s₁ B hml hP _
    have hh0 : s₁.heap = s.heap := by rw [B.state]; rfl
    obtain ⟨t, a1, o, b1, b2, b3⟩ := body p e s m args below meth c s₁ B hml hP s₁ hh0 (Stand.of_body B)
    exact ⟨t, o, a1, b1, b2, ⟨b3.1, b3.2⟩⟩
section KBH
variable {l : Launch} {E : kb_E} {N : Nat} {y : MethodName} {ws ws' : List Cond} {rm : Room} {av : List Value} {g : Nat → va_E} {post : Option Value → (Nat → va_E) → Prop} {cc : ByteArray} {maxL : Nat} {ret : Option FieldType}
theorem kb_enterH {hh : List (Nat × Nat × Nat × Nat)} (hy : plainName y.cls = true) (hw : ws = Cond.codeWith y cc maxL ret hh :: ws') (hav : ∀ v ∈ av, v.category = 1) (hn : av.length ≤ maxL)
    (body : ∀ (p : Program) (e : Env) (s : State) (m : MethodId) (args : Array Value) (below : List Frame) (meth : Method) (c : Code), kb_C l E (kb_A E N s.heap.size) cc maxL y.cls ws ret p s m args meth c → c.exceptionTable.toList = tableOf hh →
      kb_G p l e rm s m args below meth c E (kb_A E N s.heap.size) N maxL g 0 0 (MQ below (kb_Qc E N s.heap.size post) args s rm.cells rm.slots (kb_A E N s.heap.size)) 0 (av.map some ++ List.replicate (maxL - av.length) none) []) : kb_Met l E N y ws rm av g post := by
  intro sz
  refine kb_ofWH (cc := cc) (maxL := maxL) (ret := ret) hy hw ?_
  intro p e s m args below meth c s₁ B hml hv
  obtain ⟨rfl, hp⟩ := hv
  have hsz := hp.1
  subst hsz
  rw [lg_entry_eq]
  exact body p e s m _ below meth c (kb_cx B hml hp) (vx_table (x := y) B (atoms_spec (ws := ws) B.pre _ (by rw [hw]; exact List.mem_cons_self))) s.heap [] _ ⟨hp.2.1.1, kb_D_A hp.2.1.2⟩ va_S.rf (kb_L0 hav hn)
end KBH
section KBI
variable {p : Program} {l : Launch} {e : Env} {R : Room} {s : State} {m : MethodId} {args : Array Value} {below : List Frame} {meth : Method} {c : Code} {E : kb_E} {A : Nat → Prop} {N : Nat} {g g' : Nat → va_E} {X : Nat → Nat → Int32} {Y : Nat → Nat → Int64} {cells slots : Nat} {Q : State → Prop} {cc : ByteArray} {nL : Nat} {own : String} {Ts : List Cond} {ret : Option FieldType} {pc : Nat} {lv : List (Option Value)} {st : List Value} {post : Option Value → (Nat → va_E) → Prop}
/-- a call whose NoSuchElementException is caught by the first row of the table, its IllegalArgumentException by the second -/
theorem x_callVT2 {y : MethodName} {nA : Nat} {ws ws' : List Cond} {rm0 : Room} {bytes : ByteArray} {maxL index n ci NF : Nat} {T : u_T} {rt : Option FieldType} {As rest : List Value} {thr0 : String → (Nat → va_E) → Prop} {x1 x2 : ExceptionTableEntry} (C : kb_C l E A cc nL own Ts ret p s m args meth c) (htab : c.exceptionTable.toList = [x1, x2]) (hc1 : covers x1 pc = true) (hn1 : x1.catchType ≠ 0) (hc2 : covers x2 pc = true) (hn2 : x2.catchType ≠ 0) (hl1 : Cond.classLink own x1.catchType kb_NSE ∈ Ts) (hl2 : Cond.classLink own x2.catchType kb_IAE ∈ Ts)
    (hd : decode cc pc = .ok (.invokevirtual index, 3)) (h : kb_OB n ci) (hc : vwCl[ci]? = some (y.cls, T, NF)) (hM : kb_MetG l E 202 y ws rm0 (.ref (E.2.2.2 n) :: As) (kb_ent E X Y) post thr0) (hG : GoodIn Ts (wsV own index y.cls y ws)) (hw : ws = Cond.code y bytes maxL rt :: ws')
    (hy : y.cls ≠ "java/lang/invoke/MethodHandle" ∧ y.cls ≠ "java/lang/invoke/VarHandle" ∧ (parseMethodDescriptor y.desc).map (fun d => d.parameters.length) = some nA) (hlen : As.length = nA) (hR : rm0.frames + 1 ≤ R.frames ∧ 8 + (maxL + 11) + rm0.locals ≤ R.locals) (hW : (rest.map fun v => v.category).sum ≤ 8) (hf : cells + rm0.cells ≤ R.cells ∧ slots + rm0.slots ≤ R.slots) (hz : ∀ Z g', thr0 Z g' → Z = kb_NSE ∨ Z = kb_IAE)
    (K : ∀ (v : Option Value) (g' : Nat → va_E), post v g' → kb_G p l e R s m args below meth c E A 202 nL g' (cells + rm0.cells) (slots + rm0.slots) Q (pc + 3) lv (v.toList ++ rest))
    (K1 : ∀ (g' : Nat → va_E) (q : Nat), thr0 kb_NSE g' → kb_G p l e R s m args below meth c E A 202 nL g' (cells + rm0.cells) (slots + rm0.slots) Q x1.handlerPc lv [.ref q])
    (K2 : ∀ (g' : Nat → va_E) (q : Nat), thr0 kb_IAE g' → kb_G p l e R s m args below meth c E A 202 nL g' (cells + rm0.cells) (slots + rm0.slots) Q x2.handlerPc lv [.ref q]) : kb_G p l e R s m args below meth c E A 202 nL (kb_ent E X Y) cells slots Q pc lv (As.reverse ++ .ref (E.2.2.2 n) :: rest) := by
  obtain ⟨fs, hg⟩ := h.2 E X Y
  obtain ⟨-, -, -, -, -, -, hca, -, -, -, -, -, hnc⟩ := id C.2.2.2.2.2.2.2.2.2
  refine kb_callG C (fun H locs ls h1 h2 h3 => vx_runV (As := As) (rest := rest) ⟨C.1, C.2.1, C.2.2.1, C.2.2.2.1, C.2.2.2.2.1⟩ (hM H.size) (cwV nA C.2.2.2.2.1 hG hw rfl rfl ⟨rfl, hy⟩ hR) ⟨kb_blind, va_recv C.2.2.2.2.2.2.2.1 h1.1 hc ((kb_W_at h.1).trans (by rw [hg])), fun U hU hWm => ⟨rfl, kb_pre C h1 h2 hU hWm⟩⟩ rfl hlen h3.1 rfl (lv_room hW) hd hf) K
    (fun Z g9 ce q H locs ls ht h1 h2 h3 hce hcv hcl => ?_)
  rcases hz Z g9 ht with rfl | rfl
  · exact kb_catch1 C.2.2.2.1 htab hc1 hn1 (C.2.2.2.2.1 _ hl1) (va_Nw.use rfl (hca _ (by simp))) hce hcv hcl (K1 g9 q ht H locs ls h1 h2 h3)
  · exact kb_catch2 C.2.2.2.1 htab hc1 hn1 hc2 hn2 (C.2.2.2.2.1 _ hl1) hnc (C.2.2.2.2.1 _ hl2) (va_Nw.use rfl (hca _ (by simp))) hce hcv hcl (K2 g9 q ht H locs ls h1 h2 h3)
theorem x_callVT1 {y : MethodName} {nA : Nat} {ws ws' : List Cond} {rm0 : Room} {bytes : ByteArray} {maxL index n ci NF : Nat} {T : u_T} {rt : Option FieldType} {As rest : List Value} {thr0 : String → (Nat → va_E) → Prop} {x1 : ExceptionTableEntry} (C : kb_C l E A cc nL own Ts ret p s m args meth c) (htab : c.exceptionTable.toList = [x1]) (hc1 : covers x1 pc = true) (hn1 : x1.catchType ≠ 0) (hl1 : Cond.classLink own x1.catchType kb_NSE ∈ Ts)
    (hd : decode cc pc = .ok (.invokevirtual index, 3)) (h : kb_OB n ci) (hc : vwCl[ci]? = some (y.cls, T, NF)) (hM : kb_MetG l E 202 y ws rm0 (.ref (E.2.2.2 n) :: As) (kb_ent E X Y) post thr0) (hG : GoodIn Ts (wsV own index y.cls y ws)) (hw : ws = Cond.code y bytes maxL rt :: ws')
    (hy : y.cls ≠ "java/lang/invoke/MethodHandle" ∧ y.cls ≠ "java/lang/invoke/VarHandle" ∧ (parseMethodDescriptor y.desc).map (fun d => d.parameters.length) = some nA) (hlen : As.length = nA) (hR : rm0.frames + 1 ≤ R.frames ∧ 8 + (maxL + 11) + rm0.locals ≤ R.locals) (hW : (rest.map fun v => v.category).sum ≤ 8) (hf : cells + rm0.cells ≤ R.cells ∧ slots + rm0.slots ≤ R.slots) (hz : ∀ Z g', thr0 Z g' → Z = kb_NSE)
    (K : ∀ (v : Option Value) (g' : Nat → va_E), post v g' → kb_G p l e R s m args below meth c E A 202 nL g' (cells + rm0.cells) (slots + rm0.slots) Q (pc + 3) lv (v.toList ++ rest))
    (K1 : ∀ (g' : Nat → va_E) (q : Nat), thr0 kb_NSE g' → kb_G p l e R s m args below meth c E A 202 nL g' (cells + rm0.cells) (slots + rm0.slots) Q x1.handlerPc lv [.ref q]) : kb_G p l e R s m args below meth c E A 202 nL (kb_ent E X Y) cells slots Q pc lv (As.reverse ++ .ref (E.2.2.2 n) :: rest) := by
  obtain ⟨fs, hg⟩ := h.2 E X Y
  obtain ⟨-, -, -, -, -, -, hca, -⟩ := id C.2.2.2.2.2.2.2.2.2
  refine kb_callG C (fun H locs ls h1 h2 h3 => vx_runV (As := As) (rest := rest) ⟨C.1, C.2.1, C.2.2.1, C.2.2.2.1, C.2.2.2.2.1⟩ (hM H.size) (cwV nA C.2.2.2.2.1 hG hw rfl rfl ⟨rfl, hy⟩ hR) ⟨kb_blind, va_recv C.2.2.2.2.2.2.2.1 h1.1 hc ((kb_W_at h.1).trans (by rw [hg])), fun U hU hWm => ⟨rfl, kb_pre C h1 h2 hU hWm⟩⟩ rfl hlen h3.1 rfl (lv_room hW) hd hf) K
    (fun Z g9 ce q H locs ls ht h1 h2 h3 hce hcv hcl => ?_)
  obtain rfl := hz Z g9 ht
  exact kb_catch1 C.2.2.2.1 htab hc1 hn1 (C.2.2.2.2.1 _ hl1) (va_Nw.use rfl (hca _ (by simp))) hce hcv hcl (K1 g9 q ht H locs ls h1 h2 h3)
/-- a static call of a method with a table of its own -/
theorem q_callSW {y : MethodName} {nA : Nat} {ws ws' : List Cond} {rm0 : Room} {bytes : ByteArray} {maxL index : Nat} {rt : Option FieldType} {hh : List (Nat × Nat × Nat × Nat)} {As rest : List Value} (C : kb_C l E A cc nL own Ts ret p s m args meth c) (hd : decode cc pc = .ok (.invokestatic index, 3)) (hM : kb_Met l E N y ws rm0 As g post) (hG : GoodIn Ts (va_wsS own index y ws)) (hw : ws = Cond.codeWith y bytes maxL rt hh :: ws')
    (hy : y.cls ≠ "java/lang/invoke/MethodHandle" ∧ y.cls ≠ "java/lang/invoke/VarHandle" ∧ (parseMethodDescriptor y.desc).map (fun d => d.parameters.length) = some nA) (hlen : As.length = nA) (hR : rm0.frames + 1 ≤ R.frames ∧ 8 + (maxL + 11) + rm0.locals ≤ R.locals) (hW : (rest.map fun v => v.category).sum ≤ 8) (hf : cells + rm0.cells ≤ R.cells ∧ slots + rm0.slots ≤ R.slots)
    (K : ∀ (v : Option Value) (g' : Nat → va_E), post v g' → kb_G p l e R s m args below meth c E A N nL g' (cells + rm0.cells) (slots + rm0.slots) Q (pc + 3) lv (v.toList ++ rest)) : kb_G p l e R s m args below meth c E A N nL g cells slots Q pc lv (As.reverse ++ rest) :=
  kb_call C (fun H locs ls h1 h2 h3 => vx_runSW (As := As) (rest := rest) ⟨C.1, C.2.1, C.2.2.1, C.2.2.2.1, C.2.2.2.2.1⟩ (hM H.size) (vx_cwSW nA C.2.2.2.2.1 hG hw rfl rfl hy hR) ⟨kb_blind, fun U hU hWm => ⟨rfl, kb_pre C h1 h2 hU hWm⟩⟩ rfl hlen h3.1 rfl (lv_room hW) hd hf) K
end KBI
/-- what a helper of the law hands back: k, and in out[0] the answer r -/
def kb_hp (E : kb_E) (PC : Nat → Int32 → (Nat → Nat → Int32) → Prop) (v : Option Value) (g' : Nat → va_E) : Prop := ∃ (k : Nat) (r : Int32) (X1 : Nat → Nat → Int32) (Y1 : Nat → Nat → Int64), v = some (.int (nI k)) ∧ k < 3 ∧ PC k r X1 ∧ (k = 0 → Y1 201 0 = r.toInt64) ∧ g' = kb_ent E X1 Y1
theorem kb_NI : ¬ kb_NSE = kb_IAE := by decide
theorem kb_hp1 {E : kb_E} {X : Nat → Nat → Int32} {Y : Nat → Nat → Int64} {c1 c2 : Prop} {R : Int32 → (Nat → Nat → Int32) → Prop} {g' : Nat → va_E} (h : kb_tG E X Y c1 c2 kb_NSE g') : kb_hp E (kb_hx c1 c2 R (fun X1 => X1 = X)) (some (.int (nI 1))) g' := by
  obtain ⟨h1, ⟨-, h2⟩ | ⟨h2, -, -⟩⟩ := h
  · exact ⟨1, 0, X, Y, rfl, by decide, Or.inr (Or.inl ⟨h2, rfl, rfl⟩), fun z => absurd z (by decide), h1⟩
  · exact absurd h2 kb_NI
theorem kb_hp2 {E : kb_E} {X : Nat → Nat → Int32} {Y : Nat → Nat → Int64} {c1 c2 : Prop} {R : Int32 → (Nat → Nat → Int32) → Prop} {g' : Nat → va_E} (h : kb_tG E X Y c1 c2 kb_IAE g') : kb_hp E (kb_hx c1 c2 R (fun X1 => X1 = X)) (some (.int (nI 2))) g' := by
  obtain ⟨h1, ⟨h2, -⟩ | ⟨-, h2, h3⟩⟩ := h
  · exact absurd h2.symm kb_NI
  · exact ⟨2, 0, X, Y, rfl, by decide, Or.inr (Or.inr ⟨h2, h3, rfl, rfl⟩), fun z => absurd z (by decide), h1⟩
theorem kb_tGz {E : kb_E} {X : Nat → Nat → Int32} {Y : Nat → Nat → Int64} {c1 c2 : Prop} : ∀ Z g', kb_tG E X Y c1 c2 Z g' → Z = kb_NSE ∨ Z = kb_IAE := fun _ _ h => h.2.elim (fun z => Or.inl z.1) (fun z => Or.inr z.1)
theorem kb_tGz1 {E : kb_E} {X : Nat → Nat → Int32} {Y : Nat → Nat → Int64} {c1 : Prop} : ∀ Z g', kb_tG E X Y c1 True Z g' → Z = kb_NSE := fun _ _ h => h.2.elim (fun z => z.1) (fun z => absurd trivial z.2.2)
section KBF
variable {p : Program} {l : Launch} {e : Env} {R : Room} {s : State} {m : MethodId} {args : Array Value} {below : List Frame} {meth : Method} {c : Code} {E : kb_E} {cells slots : Nat} {cc : ByteArray} {nL : Nat} {own : String} {Ts : List Cond} {pc : Nat} {lv : List (Option Value)} {PC : Nat → Int32 → (Nat → Nat → Int32) → Prop}
/-- the answer into out[0], then 0 -/
theorem kb_fin (C : kb_C l E (kb_A E 202 s.heap.size) cc nL own Ts (some .int) p s m args meth c) {r : Int32} {X1 : Nat → Nat → Int32} {Y1 : Nat → Nat → Int64} {off : Int} {tg : Nat} (hP : PC 0 r X1) (d1 : decode cc pc = .ok (.i2l, 1)) (d2 : decode cc (pc + 1) = .ok (.lastore, 1)) (d3 : decode cc (pc + 2) = .ok (.goto off, 3)) (ht : ((pc + 2 : Nat) : Int) + off = (tg : Int)) (d4 : decode cc tg = .ok (.iconst 0, 1)) (d5 : decode cc (tg + 1) = .ok (.ireturn, 1)) :
    kb_G p l e R s m args below meth c E (kb_A E 202 s.heap.size) 202 nL (kb_ent E X1 Y1) cells slots (MQ below (kb_Qc E 202 s.heap.size (kb_hp E PC)) args s cells slots (kb_A E 202 s.heap.size)) pc lv [.int r, .int (nI 0), .ref (E.2.2.2 201)] := by
  refine q_i2l C d1 ?_
  refine x_lastN C d2 la_out (by decide) (by decide) ?_
  refine q_goto C (tgt := tg) d3 ht ?_
  refine q_iconst C (v := nI 0) d4 (by decide) ?_
  exact q_iret C d5 ⟨0, r, X1, _, rfl, by decide, hP, fun _ => by rw [kb_up_self]; exact pk_uLs, rfl⟩
end KBF

/-! ===== methods that may throw at a world other than that of their start ===== -/
def kb_XG (E : kb_E) (N sz : Nat) (thr : String → (Nat → va_E) → Prop) : String → State → State → Prop := fun X st t => ∃ g, thr X g ∧ kb_HW E (fun _ => True) N g t.heap ∧ va_F (kb_A E N sz) st t
def kb_MetG (l : Launch) (E : kb_E) (N : Nat) (y : MethodName) (ws : List Cond) (rm : Room) (av : List Value) (g : Nat → va_E) (post : Option Value → (Nat → va_E) → Prop) (thr : String → (Nat → va_E) → Prop) : Prop :=
  ∀ sz, vx_Met l y ws rm (va_Pc av (kb_PR l E N sz g)) (kb_Qc E N sz post) (kb_XG E N sz thr) rm.cells rm.slots (kb_A E N sz)
section KBGG
variable {l : Launch} {E : kb_E} {N : Nat} {y : MethodName} {ws ws' : List Cond} {rm : Room} {av : List Value} {g : Nat → va_E} {post : Option Value → (Nat → va_E) → Prop} {thr : String → (Nat → va_E) → Prop} {cc : ByteArray} {maxL : Nat} {ret : Option FieldType}
theorem kb_enterG (hy : plainName y.cls = true) (hw : ws = Cond.code y cc maxL ret :: ws') (hav : ∀ v ∈ av, v.category = 1) (hn : av.length ≤ maxL)
    (body : ∀ (p : Program) (e : Env) (s : State) (m : MethodId) (args : Array Value) (below : List Frame) (meth : Method) (c : Code), kb_C l E (kb_A E N s.heap.size) cc maxL y.cls ws ret p s m args meth c → (∀ x ∈ c.exceptionTable.toList, False) →
      kb_G p l e rm s m args below meth c E (kb_A E N s.heap.size) N maxL g 0 0 (vx_MQ below (kb_Qc E N s.heap.size post) (kb_XG E N s.heap.size thr) args s rm.cells rm.slots (kb_A E N s.heap.size)) 0 (av.map some ++ List.replicate (maxL - av.length) none) []) : kb_MetG l E N y ws rm av g post thr := by
  intro sz
  refine vx_ofW (cc := cc) (maxL := maxL) (ret := ret) hy hw ?_
  intro p e s m args below meth c s₁ B hml hx hv
  obtain ⟨rfl, hp⟩ := hv
  have hsz := hp.1
  subst hsz
  rw [lg_entry_eq]
  exact body p e s m _ below meth c (kb_cx B hml hp) hx s.heap [] _ ⟨hp.2.1.1, kb_D_A hp.2.1.2⟩ va_S.rf (kb_L0 hav hn)
end KBGG
section KBGX
variable {p : Program} {l : Launch} {e : Env} {R : Room} {s : State} {m : MethodId} {args : Array Value} {below : List Frame} {meth : Method} {c : Code} {E : kb_E} {A : Nat → Prop} {N : Nat} {g g' : Nat → va_E} {X : Nat → Nat → Int32} {Y : Nat → Nat → Int64} {cells slots : Nat} {Q : State → Prop} {cc : ByteArray} {nL : Nat} {own : String} {Ts : List Cond} {ret : Option FieldType} {pc : Nat} {lv : List (Option Value)} {st : List Value} {post : Option Value → (Nat → va_E) → Prop} {thr : String → (Nat → va_E) → Prop}
theorem kb_callG {mc ms : Nat} {rest st0 : List Value} {a : Array Value} (C : kb_C l E A cc nL own Ts ret p s m args meth c)
    (hr : ∀ (H : Heap) (locs : List Loc) (ls : Array Slot), kb_HW E A N g H → va_S A s.heap H locs → kb_L ls nL lv → vx_Run p l e R s m args below meth c H locs cells slots mc ms (F0 m pc ls st0) rest (kb_Qc E N H.size post a) (kb_XG E N H.size thr) (kb_A E N H.size))
    (K : ∀ (v : Option Value) (g' : Nat → va_E), post v g' → kb_G p l e R s m args below meth c E A N nL g' (cells + mc) (slots + ms) Q (pc + 3) lv (v.toList ++ rest))
    (KX : ∀ (X : String) (g' : Nat → va_E) (ce : Cell) (q : Addr) (H : Heap) (locs : List Loc) (ls : Array Slot), thr X g' → kb_HW E A N g' H → va_S A s.heap H locs → kb_L ls nL lv → H[q]? = some ce → ce.vm = .none → s.vm.findClass X = some ce.cls → vx_W p l e R s m args below meth c H locs (cells + mc) (slots + ms) Q (F0 m pc ls rest) q) : kb_G p l e R s m args below meth c E A N nL g cells slots Q pc lv st0 := by
  intro H locs ls h1 h2 h3 T hT X
  rcases hr H locs ls h1 h2 h3 T hT X with ⟨v, st₀, t, T', L, h0, X', hL, e1, e2, ⟨v', g', hv, hp, hHW, hF⟩, go⟩ | ⟨q, st₀, t, T', L, X9, ce, h0, X', hL, e1, e2, ⟨g9, ht, hHW, hF⟩, hce, hcv, hcl, go⟩
  · cases hv
    have hz : H.size ≤ T'.heap.size := by rw [e1, ← h0]; exact hF.1
    have hk : ∀ q : Nat, q < H.size → ¬ kb_A E N H.size q → T'.heap[q]? = H[q]? := fun q a b => by rw [e1, ← h0]; exact hF.2 q (by rw [h0]; exact a) b
    obtain ⟨t2, a1, b1⟩ := K v g' hp T'.heap (locs ++ L) ls ⟨by rw [e1]; exact hHW.1, kb_D_any h1.2⟩ (kb_SF h1.2 C.2.2.2.2.2.2.2.2.1 h2 hz hk hL) h3 T' rfl X'
    exact ⟨t2, go t2 a1, b1⟩
  · have hz : H.size ≤ T'.heap.size := by rw [e1, ← h0]; exact hF.1
    have hk : ∀ q : Nat, q < H.size → ¬ kb_A E N H.size q → T'.heap[q]? = H[q]? := fun q a b => by rw [e1, ← h0]; exact hF.2 q (by rw [h0]; exact a) b
    obtain ⟨t2, a1, b1⟩ := KX X9 g9 ce q T'.heap (locs ++ L) ls ht ⟨by rw [e1]; exact hHW.1, kb_D_any h1.2⟩ (kb_SF h1.2 C.2.2.2.2.2.2.2.2.1 h2 hz hk hL) h3 (by rw [e1]; exact hce) hcv hcl T' rfl X'
    exact ⟨t2, go.trans a1, b1⟩
/-- a static call of a method that throws at its own world -/
theorem q_callSH {y : MethodName} {nA : Nat} {ws ws' : List Cond} {rm0 : Room} {bytes : ByteArray} {maxL index mc ms : Nat} {rt : Option FieldType} {As rest : List Value} {thr0 : String → Prop} {Qc : Array Value → State → Outcome → State → Prop} (C : kb_C l E (kb_A E N s.heap.size) cc nL own Ts ret p s m args meth c) (hx : ∀ x ∈ c.exceptionTable.toList, False) (hd : decode cc pc = .ok (.invokestatic index, 3)) (hM : kb_MetX l E N y ws rm0 As g post thr0) (hG : GoodIn Ts (va_wsS own index y ws)) (hw : ws = Cond.code y bytes maxL rt :: ws')
    (hy : y.cls ≠ "java/lang/invoke/MethodHandle" ∧ y.cls ≠ "java/lang/invoke/VarHandle" ∧ (parseMethodDescriptor y.desc).map (fun d => d.parameters.length) = some nA) (hlen : As.length = nA) (hR : rm0.frames + 1 ≤ R.frames ∧ 8 + (maxL + 11) + rm0.locals ≤ R.locals) (hW : (rest.map fun v => v.category).sum ≤ 8) (hf : cells + rm0.cells ≤ R.cells ∧ slots + rm0.slots ≤ R.slots) (hcm : cells + rm0.cells ≤ mc ∧ slots + rm0.slots ≤ ms) (hthr : ∀ X, thr0 X → thr X g)
    (K : ∀ (v : Option Value) (g' : Nat → va_E), post v g' → kb_G p l e R s m args below meth c E (kb_A E N s.heap.size) N nL g' (cells + rm0.cells) (slots + rm0.slots) (vx_MQ below Qc (kb_XG E N s.heap.size thr) args s mc ms (kb_A E N s.heap.size)) (pc + 3) lv (v.toList ++ rest)) : kb_G p l e R s m args below meth c E (kb_A E N s.heap.size) N nL g cells slots (vx_MQ below Qc (kb_XG E N s.heap.size thr) args s mc ms (kb_A E N s.heap.size)) pc lv (As.reverse ++ rest) :=
  kb_callX C (fun H locs ls h1 h2 h3 => vx_runS (As := As) (rest := rest) ⟨C.1, C.2.1, C.2.2.1, C.2.2.2.1, C.2.2.2.2.1⟩ (hM H.size) (va_cwS nA C.2.2.2.2.1 hG hw rfl rfl hy hR) ⟨kb_blind, fun U hU hWm => ⟨rfl, kb_pre C h1 h2 hU hWm⟩⟩ rfl hlen h3.1 rfl (lv_room hW) hd hf) K
    (fun X ce q H locs ls ht h1 h2 h3 hce hcv hcl => vx_out (fun x hxx => (hx x hxx).elim) C.2.2.2.2.2.2.1 hce hcv hcl (fun t ht9 _ => ⟨g, hthr X ht, by rw [ht9]; exact ⟨h1.1, kb_D_T h1.2⟩, h2.F ht9⟩) h2.2.2 hcm.1 hcm.2)
theorem x_callVG {y : MethodName} {nA : Nat} {ws ws' : List Cond} {rm0 : Room} {bytes : ByteArray} {maxL index mc ms n ci NF : Nat} {T : u_T} {rt : Option FieldType} {As rest : List Value} {thr0 : String → (Nat → va_E) → Prop} {Qc : Array Value → State → Outcome → State → Prop} (C : kb_C l E (kb_A E 202 s.heap.size) cc nL own Ts ret p s m args meth c) (hx : ∀ x ∈ c.exceptionTable.toList, False) (hd : decode cc pc = .ok (.invokevirtual index, 3)) (h : kb_OB n ci) (hc : vwCl[ci]? = some (y.cls, T, NF)) (hM : kb_MetG l E 202 y ws rm0 (.ref (E.2.2.2 n) :: As) (kb_ent E X Y) post thr0) (hG : GoodIn Ts (wsV own index y.cls y ws)) (hw : ws = Cond.code y bytes maxL rt :: ws')
    (hy : y.cls ≠ "java/lang/invoke/MethodHandle" ∧ y.cls ≠ "java/lang/invoke/VarHandle" ∧ (parseMethodDescriptor y.desc).map (fun d => d.parameters.length) = some nA) (hlen : As.length = nA) (hR : rm0.frames + 1 ≤ R.frames ∧ 8 + (maxL + 11) + rm0.locals ≤ R.locals) (hW : (rest.map fun v => v.category).sum ≤ 8) (hf : cells + rm0.cells ≤ R.cells ∧ slots + rm0.slots ≤ R.slots) (hcm : cells + rm0.cells ≤ mc ∧ slots + rm0.slots ≤ ms) (hthr : ∀ X g', thr0 X g' → thr X g')
    (K : ∀ (v : Option Value) (g' : Nat → va_E), post v g' → kb_G p l e R s m args below meth c E (kb_A E 202 s.heap.size) 202 nL g' (cells + rm0.cells) (slots + rm0.slots) (vx_MQ below Qc (kb_XG E 202 s.heap.size thr) args s mc ms (kb_A E 202 s.heap.size)) (pc + 3) lv (v.toList ++ rest)) : kb_G p l e R s m args below meth c E (kb_A E 202 s.heap.size) 202 nL (kb_ent E X Y) cells slots (vx_MQ below Qc (kb_XG E 202 s.heap.size thr) args s mc ms (kb_A E 202 s.heap.size)) pc lv (As.reverse ++ .ref (E.2.2.2 n) :: rest) := by
  obtain ⟨fs, hg⟩ := h.2 E X Y
  exact kb_callG C (fun H locs ls h1 h2 h3 => vx_runV (As := As) (rest := rest) ⟨C.1, C.2.1, C.2.2.1, C.2.2.2.1, C.2.2.2.2.1⟩ (hM H.size) (cwV nA C.2.2.2.2.1 hG hw rfl rfl ⟨rfl, hy⟩ hR) ⟨kb_blind, va_recv C.2.2.2.2.2.2.2.1 h1.1 hc ((kb_W_at h.1).trans (by rw [hg])), fun U hU hWm => ⟨rfl, kb_pre C h1 h2 hU hWm⟩⟩ rfl hlen h3.1 rfl (lv_room hW) hd hf) K
    (fun X g9 ce q H locs ls ht h1 h2 h3 hce hcv hcl => vx_out (fun x hxx => (hx x hxx).elim) C.2.2.2.2.2.2.1 hce hcv hcl (fun t ht9 _ => ⟨g9, hthr X g9 ht, by rw [ht9]; exact ⟨h1.1, kb_D_T h1.2⟩, h2.F ht9⟩) h2.2.2 hcm.1 hcm.2)
/-- 'throw new X("text")' in a body that catches nothing -/
theorem q_throwG {ik is ic mc ms : Nat} {cls text : String} {Qc : Array Value → State → Outcome → State → Prop} (C : kb_C l E (kb_A E N s.heap.size) cc nL own Ts ret p s m args meth c) (hx : ∀ x ∈ c.exceptionTable.toList, False)
    (d0 : decode cc pc = .ok (.new ik, 3)) (d3 : decode cc (pc + 3) = .ok (.dup, 1)) (d4 : decode cc (pc + 4) = .ok (.ldc is, 2)) (d6 : decode cc (pc + 6) = .ok (.invokespecial ic, 3)) (d9 : decode cc (pc + 9) = .ok (.athrow, 1))
    (hcl : Bundle.fit cls = true) (hk : Cond.classLink own ik cls ∈ Ts) (hi : Cond.initialized cls ∈ Ts) (hstr : ∃ a, vk_R own is text a s) (hg1 : ∀ w ∈ (vx_atS own ic cls kb_up).filter goodWord, w ∈ Ts) (hg2 : ∀ w ∈ (vx_atS own ic cls kb_up).filter (fun w => !goodWord w), w ∈ [Cond.declares (Bundle.initS "java/lang/RuntimeException"), .declares (Bundle.initS "java/lang/Exception"), .declares (Bundle.initS "java/lang/Throwable"), .castable kb_NSE kb_NSE, .castable kb_IAE kb_IAE])
    (hgood : ∀ w ∈ Cond.classLink own ik cls :: Cond.initialized cls :: vx_atS own ic cls kb_up, vx_ot w = true) (hRf : 5 < R.frames) (hRl : (st.map fun v => v.category).sum + 82 ≤ R.locals) (hRc : cells + 1 ≤ R.cells) (hRs : slots + 6 ≤ R.slots) (hc : cells + 1 ≤ mc) (hs : slots + 6 ≤ ms) (ht : thr cls g) :
    kb_G p l e R s m args below meth c E (kb_A E N s.heap.size) N nL g cells slots (vx_MQ below Qc (kb_XG E N s.heap.size thr) args s mc ms (kb_A E N s.heap.size)) pc lv st := by
  intro H locs ls h1 h2 h3
  obtain ⟨sa, hstr⟩ := hstr
  obtain ⟨-, -, hl, hU, hN, hdc, hca, -⟩ := C.2.2.2.2.2.2.2.2.2
  have hat : ∀ w ∈ vx_atS own ic cls kb_up, w.before args s = true := vx_hat (fun w hw => C.2.2.2.2.1 w (hg1 w hw)) hg2 (by
    refine vx_c (va_Nw.use rfl (hdc _ (by simp))) (vx_c (va_Nw.use rfl (hdc _ (by simp))) (vx_c (va_Nw.use rfl (hdc _ (by simp))) (vx_c (va_Nw.use rfl (hca _ (by simp))) (vx_c (va_Nw.use rfl (hca _ (by simp))) vx_n)))))
  refine vx_throwS C.1 C.2.1 hl (own := own) (cls := cls) (names := kb_up) C.2.2.2.1 hcl (by decide +kernel) (C.2.2.2.2.1 _ hk) (C.2.2.2.2.1 _ hi) hstr hat hgood hU hN h2 (h3.1.trans C.2.2.1.symm) d0 d3 d4 d6 d9 (fun x hxx => (hx x hxx).elim) hRf (by simpa [kb_up] using hRl) hRc hRs C.2.2.2.2.2.2.1 ?_ h2.2.2 hc hs
  intro t _ hz hk9
  refine ⟨g, ht, ⟨h1.1.kept (fun k q hq => hk9 q.1 (h1.1 k q hq).lt), kb_D_T h1.2⟩, Nat.le_trans h2.1 hz, fun q hq hn => ?_⟩
  rw [hk9 q (Nat.lt_of_lt_of_le hq h2.1)]
  exact h2.2.1 q hq hn
end KBGX

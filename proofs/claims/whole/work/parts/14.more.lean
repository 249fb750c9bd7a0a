/-! ===== more rows: calls over the layout, fewer locals, throws ===== -/
theorem kb_SN8 : kb_SN 8 := ⟨by decide, by decide, by decide⟩
def kb_mask : List Bool → List (Option Value) → List (Option Value)
  | true :: b, x :: l => x :: kb_mask b l
  | false :: b, _ :: l => none :: kb_mask b l
  | _, _ => []
theorem kb_mask_at : ∀ (b : List Bool) (l : List (Option Value)) (i : Nat) (v : Value), (kb_mask b l)[i]? = some (some v) → l[i]? = some (some v)
  | [], l, i, v, h => by simp [kb_mask] at h
  | b0 :: b, [], i, v, h => by cases b0 <;> simp [kb_mask] at h
  | true :: b, x :: l, 0, v, h => by simpa [kb_mask] using h
  | false :: b, x :: l, 0, v, h => by simp [kb_mask] at h
  | true :: b, x :: l, i + 1, v, h => by
    simp only [kb_mask, List.getElem?_cons_succ] at h
    simpa using kb_mask_at b l i v h
  | false :: b, x :: l, i + 1, v, h => by
    simp only [kb_mask, List.getElem?_cons_succ] at h
    simpa using kb_mask_at b l i v h
section KBM
variable {p : Program} {l : Launch} {e : Env} {R : Room} {s : State} {m : MethodId} {args : Array Value} {below : List Frame} {meth : Method} {c : Code} {E : kb_E} {A : Nat → Prop} {N : Nat} {g : Nat → va_E} {X : Nat → Nat → Int32} {Y : Nat → Nat → Int64} {cells slots : Nat} {Q : State → Prop} {cc : ByteArray} {nL : Nat} {own : String} {Ts : List Cond} {ret : Option FieldType} {pc : Nat} {lv : List (Option Value)} {st : List Value} {post : Option Value → (Nat → va_E) → Prop} {thr : String → Prop}
theorem q_mask (b : List Bool) (K : kb_G p l e R s m args below meth c E A N nL g cells slots Q pc (kb_mask b lv) st) : kb_G p l e R s m args below meth c E A N nL g cells slots Q pc lv st := fun H locs ls h1 h2 h3 => K H locs ls h1 h2 ⟨h3.1, h3.2.1, fun i v h => h3.2.2 i v (kb_mask_at b lv i v h)⟩
theorem x_callV {y : MethodName} {nA : Nat} {ws ws' : List Cond} {rm0 : Room} {bytes : ByteArray} {maxL index n ci NF : Nat} {T : u_T} {rt : Option FieldType} {As rest : List Value} (C : kb_C l E A cc nL own Ts ret p s m args meth c) (hd : decode cc pc = .ok (.invokevirtual index, 3)) (h : kb_OB n ci) (hc : vwCl[ci]? = some (y.cls, T, NF)) (hM : kb_Met l E 202 y ws rm0 (.ref (E.2.2.2 n) :: As) (kb_ent E X Y) post) (hG : GoodIn Ts (wsV own index y.cls y ws)) (hw : ws = Cond.code y bytes maxL rt :: ws')
    (hy : y.cls ≠ "java/lang/invoke/MethodHandle" ∧ y.cls ≠ "java/lang/invoke/VarHandle" ∧ (parseMethodDescriptor y.desc).map (fun d => d.parameters.length) = some nA) (hlen : As.length = nA) (hR : rm0.frames + 1 ≤ R.frames ∧ 8 + (maxL + 11) + rm0.locals ≤ R.locals) (hW : (rest.map fun v => v.category).sum ≤ 8) (hf : cells + rm0.cells ≤ R.cells ∧ slots + rm0.slots ≤ R.slots)
    (K : ∀ (v : Option Value) (g' : Nat → va_E), post v g' → kb_G p l e R s m args below meth c E A 202 nL g' (cells + rm0.cells) (slots + rm0.slots) Q (pc + 3) lv (v.toList ++ rest)) : kb_G p l e R s m args below meth c E A 202 nL (kb_ent E X Y) cells slots Q pc lv (As.reverse ++ .ref (E.2.2.2 n) :: rest) := by
  obtain ⟨fs, hg⟩ := h.2 E X Y
  exact q_callV C hd h.1 hg hc hM hG hw hy hlen hR hW hf K
theorem x_callVX {y : MethodName} {nA : Nat} {ws ws' : List Cond} {rm0 : Room} {bytes : ByteArray} {maxL index mc ms n ci NF : Nat} {T : u_T} {rt : Option FieldType} {As rest : List Value} {thr0 : String → Prop} {Qc : Array Value → State → Outcome → State → Prop} (C : kb_C l E (kb_A E 202 s.heap.size) cc nL own Ts ret p s m args meth c) (hx : ∀ x ∈ c.exceptionTable.toList, False) (hd : decode cc pc = .ok (.invokevirtual index, 3)) (h : kb_OB n ci) (hc : vwCl[ci]? = some (y.cls, T, NF)) (hM : kb_MetX l E 202 y ws rm0 (.ref (E.2.2.2 n) :: As) (kb_ent E X Y) post thr0) (hG : GoodIn Ts (wsV own index y.cls y ws)) (hw : ws = Cond.code y bytes maxL rt :: ws')
    (hy : y.cls ≠ "java/lang/invoke/MethodHandle" ∧ y.cls ≠ "java/lang/invoke/VarHandle" ∧ (parseMethodDescriptor y.desc).map (fun d => d.parameters.length) = some nA) (hlen : As.length = nA) (hR : rm0.frames + 1 ≤ R.frames ∧ 8 + (maxL + 11) + rm0.locals ≤ R.locals) (hW : (rest.map fun v => v.category).sum ≤ 8) (hf : cells + rm0.cells ≤ R.cells ∧ slots + rm0.slots ≤ R.slots) (hcm : cells + rm0.cells ≤ mc ∧ slots + rm0.slots ≤ ms) (hthr : ∀ X, thr0 X → thr X)
    (K : ∀ (v : Option Value) (g' : Nat → va_E), post v g' → kb_G p l e R s m args below meth c E (kb_A E 202 s.heap.size) 202 nL g' (cells + rm0.cells) (slots + rm0.slots) (vx_MQ below Qc (kb_XC E 202 s.heap.size (kb_ent E X Y) thr) args s mc ms (kb_A E 202 s.heap.size)) (pc + 3) lv (v.toList ++ rest)) : kb_G p l e R s m args below meth c E (kb_A E 202 s.heap.size) 202 nL (kb_ent E X Y) cells slots (vx_MQ below Qc (kb_XC E 202 s.heap.size (kb_ent E X Y) thr) args s mc ms (kb_A E 202 s.heap.size)) pc lv (As.reverse ++ .ref (E.2.2.2 n) :: rest) := by
  obtain ⟨fs, hg⟩ := h.2 E X Y
  exact q_callVX C hx hd h.1 hg hc hM hG hw hy hlen hR hW hf hcm hthr K
/-- 'throw new X("text")' in a body that catches nothing -/
theorem q_throw {ik is ic mc ms : Nat} {cls text : String} {Qc : Array Value → State → Outcome → State → Prop} (C : kb_C l E (kb_A E N s.heap.size) cc nL own Ts ret p s m args meth c) (hx : ∀ x ∈ c.exceptionTable.toList, False)
    (d0 : decode cc pc = .ok (.new ik, 3)) (d3 : decode cc (pc + 3) = .ok (.dup, 1)) (d4 : decode cc (pc + 4) = .ok (.ldc is, 2)) (d6 : decode cc (pc + 6) = .ok (.invokespecial ic, 3)) (d9 : decode cc (pc + 9) = .ok (.athrow, 1))
    (hcl : Bundle.fit cls = true) (hk : Cond.classLink own ik cls ∈ Ts) (hi : Cond.initialized cls ∈ Ts) (hstr : ∃ a, vk_R own is text a s) (hg1 : ∀ w ∈ (vx_atS own ic cls kb_up).filter goodWord, w ∈ Ts) (hg2 : ∀ w ∈ (vx_atS own ic cls kb_up).filter (fun w => !goodWord w), w ∈ [Cond.declares (Bundle.initS "java/lang/RuntimeException"), .declares (Bundle.initS "java/lang/Exception"), .declares (Bundle.initS "java/lang/Throwable"), .castable kb_NSE kb_NSE, .castable kb_IAE kb_IAE])
    (hgood : ∀ w ∈ Cond.classLink own ik cls :: Cond.initialized cls :: vx_atS own ic cls kb_up, vx_ot w = true) (hRf : 5 < R.frames) (hRl : (st.map fun v => v.category).sum + 82 ≤ R.locals) (hRc : cells + 1 ≤ R.cells) (hRs : slots + 6 ≤ R.slots) (hc : cells + 1 ≤ mc) (hs : slots + 6 ≤ ms) (ht : thr cls) :
    kb_G p l e R s m args below meth c E (kb_A E N s.heap.size) N nL g cells slots (vx_MQ below Qc (kb_XC E N s.heap.size g thr) args s mc ms (kb_A E N s.heap.size)) pc lv st := by
  intro H locs ls h1 h2 h3
  obtain ⟨sa, hstr⟩ := hstr
  obtain ⟨-, -, hl, hU, hN, hdc, hca, -⟩ := C.2.2.2.2.2.2.2.2.2
  have hat : ∀ w ∈ vx_atS own ic cls kb_up, w.before args s = true := vx_hat (fun w hw => C.2.2.2.2.1 w (hg1 w hw)) hg2 (by
    refine vx_c (va_Nw.use rfl (hdc _ (by simp))) (vx_c (va_Nw.use rfl (hdc _ (by simp))) (vx_c (va_Nw.use rfl (hdc _ (by simp))) (vx_c (va_Nw.use rfl (hca _ (by simp))) (vx_c (va_Nw.use rfl (hca _ (by simp))) vx_n)))))
  refine vx_throwS C.1 C.2.1 hl (own := own) (cls := cls) (names := kb_up) C.2.2.2.1 hcl (by decide +kernel) (C.2.2.2.2.1 _ hk) (C.2.2.2.2.1 _ hi) hstr hat hgood hU hN h2 (h3.1.trans C.2.2.1.symm) d0 d3 d4 d6 d9 (fun x hxx => (hx x hxx).elim) hRf (by simpa [kb_up] using hRl) hRc hRs C.2.2.2.2.2.2.1 ?_ h2.2.2 hc hs
  intro t _ hz hk9
  refine ⟨ht, ⟨h1.1.kept (fun k q hq => hk9 q.1 (h1.1 k q hq).lt), kb_D_T h1.2⟩, Nat.le_trans h2.1 hz, fun q hq hn => ?_⟩
  rw [hk9 q (Nat.lt_of_lt_of_le hq h2.1)]
  exact h2.2.1 q hq hn
end KBM
section KBJ
variable {p : Program} {l : Launch} {e : Env} {R : Room} {s : State} {m : MethodId} {args : Array Value} {below : List Frame} {meth : Method} {c : Code} {E : kb_E} {A : Nat → Prop} {N : Nat} {g : Nat → va_E} {cells slots : Nat} {Q : State → Prop} {nL : Nat} {pc : Nat} {lv : List (Option Value)} {st : List Value}
/-- a join: a number f with P f is on the stack at pcJ, by whatever way -/
theorem q_cut (pcJ : Nat) (P : Int32 → Prop) (J : ∀ f : Int32, P f → kb_G p l e R s m args below meth c E A N nL g cells slots Q pcJ lv (.int f :: st)) (K : (∀ f : Int32, P f → kb_G p l e R s m args below meth c E A N nL g cells slots Q pcJ lv (.int f :: st)) → kb_G p l e R s m args below meth c E A N nL g cells slots Q pc lv st) : kb_G p l e R s m args below meth c E A N nL g cells slots Q pc lv st := K J
/-- a join with the stack as it is -/
theorem q_cut0 (pcJ : Nat) (J : kb_G p l e R s m args below meth c E A N nL g cells slots Q pcJ lv st) (K : kb_G p l e R s m args below meth c E A N nL g cells slots Q pcJ lv st → kb_G p l e R s m args below meth c E A N nL g cells slots Q pc lv st) : kb_G p l e R s m args below meth c E A N nL g cells slots Q pc lv st := K J
end KBJ
/-- a flag: 1 if cd, else 0 -/
def kb_flag (cd : Prop) (f : Int32) : Prop := (f = nI 1 ∧ cd) ∨ (f = nI 0 ∧ ¬ cd)
/-- the model's note of what was thrown -/
def kb_thr (X : Nat → Nat → Int32) (k : Int32) : Nat → Nat → Int32 := va_up X 188 (upd (X 188) 0 k)
theorem kb_thr_thr {X : Nat → Nat → Int32} {a b : Int32} : kb_thr (kb_thr X a) b = kb_thr X b := by
  funext n k
  by_cases hn : n = 188
  · subst hn
    by_cases hk : k = 0
    · subst hk; simp [kb_thr, va_up, upd]
    · simp [kb_thr, va_up, upd, hk]
  · simp [kb_thr, va_up, hn]
theorem kb_thr_at {X : Nat → Nat → Int32} {a : Int32} : kb_thr X a 188 0 = a := by simp [kb_thr, va_up, upd]
theorem kb_thr_ne {X : Nat → Nat → Int32} {a : Int32} {n : Nat} (h : n ≠ 188) : kb_thr X a n = X n := by simp [kb_thr, va_up, h]
theorem kb_thr_k {X : Nat → Nat → Int32} {a : Int32} {k : Nat} (h : k ≠ 0) : kb_thr X a 188 k = X 188 k := by simp [kb_thr, va_up, upd, h]
theorem kb_thr_id {X : Nat → Nat → Int32} {a : Int32} (h : X 188 0 = a) : kb_thr X a = X := by
  funext n k
  by_cases hn : n = 188
  · subst hn
    by_cases hk : k = 0
    · subst hk; simp [kb_thr, va_up, upd, h]
    · simp [kb_thr, va_up, upd, hk]
  · simp [kb_thr, va_up, hn]
section KBT
variable {p : Program} {l : Launch} {e : Env} {R : Room} {s : State} {m : MethodId} {args : Array Value} {below : List Frame} {meth : Method} {c : Code} {E : kb_E} {A : Nat → Prop} {N : Nat} {g : Nat → va_E} {cells slots : Nat} {Q : State → Prop} {cc : ByteArray} {nL : Nat} {own : String} {Ts : List Cond} {ret : Option FieldType} {pc : Nat} {lv : List (Option Value)} {st : List Value}
/-- the two static tables: j = 0 PLACE_3_LESS, 1 PLACE_4_LESS -/
def kb_PL (j : Nat) : Nat → Int64 := if j = 0 then kb_P3 else kb_P4
theorem q_gets3 (C : kb_C l E A cc nL own Ts ret p s m args meth c) {index : Nat} (hd : decode cc pc = .ok (.getstatic index, 3)) (hw : Cond.fieldLink own index RX3 "PLACE_3_LESS" "[J" ∈ Ts) (K : kb_G p l e R s m args below meth c E A N nL g cells slots Q (pc + 3) lv (.ref (E.2.2.2 300) :: st)) : kb_G p l e R s m args below meth c E A N nL g cells slots Q pc lv st := fun H locs ls h1 h2 h3 =>
  va_gets C.1 C.2.1 C.2.2.2.2.2.2.2.2.2.2.2.2.2.2.2.2.2.2.2.1.1 h2 C.2.2.2.1 (C.2.2.2.2.1 _ hw) (fun _ h => h) hd (K H locs ls h1 h2 h3)
theorem q_gets4 (C : kb_C l E A cc nL own Ts ret p s m args meth c) {index : Nat} (hd : decode cc pc = .ok (.getstatic index, 3)) (hw : Cond.fieldLink own index RX3 "PLACE_4_LESS" "[J" ∈ Ts) (K : kb_G p l e R s m args below meth c E A N nL g cells slots Q (pc + 3) lv (.ref (E.2.2.2 301) :: st)) : kb_G p l e R s m args below meth c E A N nL g cells slots Q pc lv st := fun H locs ls h1 h2 h3 =>
  va_gets C.1 C.2.1 C.2.2.2.2.2.2.2.2.2.2.2.2.2.2.2.2.2.2.2.2.1.1 h2 C.2.2.2.1 (C.2.2.2.2.1 _ hw) (fun _ h => h) hd (K H locs ls h1 h2 h3)
theorem kb_CT (C : kb_C l E A cc nL own Ts ret p s m args meth c) {j : Nat} (hj : j < 2) : va_T .long (E.2.2.2 (300 + j)) 3 (fun k => .long (kb_PL j k)) A s s.heap := by
  rcases (show j = 0 ∨ j = 1 by omega) with rfl | rfl
  · exact C.2.2.2.2.2.2.2.2.2.2.2.2.2.2.2.2.2.2.2.1.2
  · exact C.2.2.2.2.2.2.2.2.2.2.2.2.2.2.2.2.2.2.2.2.1.2
theorem q_tlen (C : kb_C l E A cc nL own Ts ret p s m args meth c) {j : Nat} (hj : j < 2) (hd : decode cc pc = .ok (.arraylength, 1)) (K : kb_G p l e R s m args below meth c E A N nL g cells slots Q (pc + 1) lv (.int (nI 3) :: st)) : kb_G p l e R s m args below meth c E A N nL g cells slots Q pc lv (.ref (E.2.2.2 (300 + j)) :: st) := fun H locs ls h1 h2 h3 =>
  va_tlen C.1 C.2.1 (kb_CT C hj) h2 rfl hd (K H locs ls h1 h2 h3)
theorem q_tl (C : kb_C l E A cc nL own Ts ret p s m args meth c) {j k : Nat} (hj : j < 2) (hd : decode cc pc = .ok (.laload, 1)) (hk : k < 3) (K : kb_G p l e R s m args below meth c E A N nL g cells slots Q (pc + 1) lv (.long (kb_PL j k) :: st)) : kb_G p l e R s m args below meth c E A N nL g cells slots Q pc lv (.int (nI k) :: .ref (E.2.2.2 (300 + j)) :: st) := fun H locs ls h1 h2 h3 =>
  va_tl C.1 C.2.1 (kb_CT C hj) h2 (vp_in_nI hk (by decide)) (by rw [nI_clamp (by omega)]) hd (K H locs ls h1 h2 h3)
end KBT

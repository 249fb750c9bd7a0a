/-! ===== NoSuchElementException thrown ===== -/
section KBM2
variable {p : Program} {l : Launch} {e : Env} {R : Room} {s : State} {m : MethodId} {args : Array Value} {below : List Frame} {meth : Method} {c : Code} {E : kb_E} {A : Nat → Prop} {N : Nat} {g : Nat → va_E} {X : Nat → Nat → Int32} {Y : Nat → Nat → Int64} {cells slots : Nat} {Q : State → Prop} {cc : ByteArray} {nL : Nat} {own : String} {Ts : List Cond} {ret : Option FieldType} {pc : Nat} {lv : List (Option Value)} {st : List Value} {post : Option Value → (Nat → va_E) → Prop} {thr : String → Prop}
/-- 'throw new NoSuchElementException("text")' in a body that catches nothing -/
theorem q_throwN {ik is ic mc ms : Nat} {text : String} {Qc : Array Value → State → Outcome → State → Prop} (C : kb_C l E (kb_A E N s.heap.size) cc nL own Ts ret p s m args meth c) (hx : ∀ x ∈ c.exceptionTable.toList, False)
    (d0 : decode cc pc = .ok (.new ik, 3)) (d3 : decode cc (pc + 3) = .ok (.dup, 1)) (d4 : decode cc (pc + 4) = .ok (.ldc is, 2)) (d6 : decode cc (pc + 6) = .ok (.invokespecial ic, 3)) (d9 : decode cc (pc + 9) = .ok (.athrow, 1))
    (hk : Cond.classLink own ik kb_NSE ∈ Ts) (hi : Cond.initialized kb_NSE ∈ Ts) (hstr : ∃ a, vk_R own is text a s) (hg1 : ∀ w ∈ (vx_atN own ic).filter goodWord, w ∈ Ts) (hg2 : ∀ w ∈ (vx_atN own ic).filter (fun w => !goodWord w), w ∈ [Cond.declares (Bundle.initS "java/lang/RuntimeException"), .declares (Bundle.initS "java/lang/Exception"), .declares (Bundle.initS "java/lang/Throwable"), .castable kb_NSE kb_NSE, .castable kb_IAE kb_IAE])
    (hgood : ∀ w ∈ Cond.classLink own ik kb_NSE :: Cond.initialized kb_NSE :: vx_atN own ic, vx_ot w = true) (hRf : 5 < R.frames) (hRl : (st.map fun v => v.category).sum + 82 ≤ R.locals) (hRc : cells + 1 ≤ R.cells) (hRs : slots + 6 ≤ R.slots) (hc : cells + 1 ≤ mc) (hs : slots + 6 ≤ ms) (ht : thr kb_NSE) :
    kb_G p l e R s m args below meth c E (kb_A E N s.heap.size) N nL g cells slots (vx_MQ below Qc (kb_XC E N s.heap.size g thr) args s mc ms (kb_A E N s.heap.size)) pc lv st := by
  intro H locs ls h1 h2 h3
  obtain ⟨sa, hstr⟩ := hstr
  obtain ⟨-, -, hl, hU, hN, hdc, hca, -⟩ := C.2.2.2.2.2.2.2.2.2
  have hat : ∀ w ∈ vx_atN own ic, w.before args s = true := vx_hat (fun w hw => C.2.2.2.2.1 w (hg1 w hw)) hg2 (by
    refine vx_c (va_Nw.use rfl (hdc _ (by simp))) (vx_c (va_Nw.use rfl (hdc _ (by simp))) (vx_c (va_Nw.use rfl (hdc _ (by simp))) (vx_c (va_Nw.use rfl (hca _ (by simp))) (vx_c (va_Nw.use rfl (hca _ (by simp))) vx_n)))))
  refine vx_throwX (cls := kb_NSE) (sup := "java/lang/RuntimeException") (r := ["java/lang/Exception"]) (ix := 13) (rx := prog_14_method_4_code) C.1 C.2.1 hl (by decide +kernel) (by decide +kernel) (by decide +kernel) (by decide +kernel) (own := own) C.2.2.2.1 (by decide +kernel) (by decide +kernel) (by decide +kernel) (C.2.2.2.2.1 _ hk) (C.2.2.2.2.1 _ hi) hstr hat hgood hU hN h2 (h3.1.trans C.2.2.1.symm) d0 d3 d4 d6 d9 (fun x hxx => (hx x hxx).elim) hRf hRl hRc hRs C.2.2.2.2.2.2.1 ?_ h2.2.2 hc hs
  intro t _ hz hk9
  refine ⟨ht, ⟨h1.1.kept (fun k q hq => hk9 q.1 (h1.1 k q hq).lt), kb_D_T h1.2⟩, Nat.le_trans h2.1 hz, fun q hq hn => ?_⟩
  rw [hk9 q (Nat.lt_of_lt_of_le hq h2.1)]
  exact h2.2.1 q hq hn
end KBM2

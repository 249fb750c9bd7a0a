/-! ===== a throw that is caught in the method itself: one or two rows of its table ===== -/
section KBCA
variable {Q : Handler → Pre} {E : CtlPost} {e : Env} {d : Bool} {acts : List Action} {S : State} {f : JFrame} {a : Addr}
/-- one row of the table that names a class: it takes the object if the class fits, else the search goes on; the name is looked up in either case -/
theorem kb_row1 {x : ExceptionTableEntry} {t : List ExceptionTableEntry} {cT : ClassId} {cell : Cell} (hx : covers x f.pc = true) (h0 : x.catchType ≠ 0)
    (hl : S.vm.ClassLinks e.platform f.method.cls x.catchType cT) (hcell : S.heap[a]? = some cell) (hobj : ∀ k, cell.vm ≠ .statics k) (hk1 : ∃ k, S.vm.classes[cell.cls]? = some k) (hk2 : ∃ k, S.vm.classes[cT]? = some k) :
    wp (findHandler.go f a (x :: t)) Q E e d acts S ↔ if S.vm.assignable cell.cls cT = true then Q (.found x.handlerPc) d acts (S.setVm (S.vm.noted f.method.cls x.catchType (.cls cT))) else wp (findHandler.go f a t) Q E e d acts (S.setVm (S.vm.noted f.method.cls x.catchType (.cls cT))) := by
  have hcov := hx
  simp only [covers] at hcov
  have hal : S.vm.Alike (S.vm.noted f.method.cls x.catchType (.cls cT)) := (Vm.Alike.refl S.vm).noted _ _ _
  obtain ⟨r1, r2⟩ := (resolveClass_links e.toSetting hl).op (op := VmOp.resolveClass f.method.cls x.catchType) rfl
  obtain ⟨k1, k1h⟩ := hk1
  obtain ⟨k2, k2h⟩ := hk2
  obtain ⟨j1, j1h, -⟩ := hal.2.2 _ _ k1h
  obtain ⟨j2, j2h, -⟩ := hal.2.2 _ _ k2h
  have eas : (S.vm.noted f.method.cls x.catchType (.cls cT)).assignable cell.cls cT = S.vm.assignable cell.cls cT := hal.assignable _ _
  cases hfit : S.vm.assignable cell.cls cT with
  | true => rw [hfit] at eas; simp [findHandler.go, hcov, h0, r1, r2, hcell, hobj, j1h, j2h, eas, VmOp.dirties, VmOp.acts]
  | false => rw [hfit] at eas; simp [findHandler.go, hcov, h0, r1, r2, hcell, hobj, j1h, j2h, eas, VmOp.dirties, VmOp.acts]
end KBCA
section KBCB
variable {p : Program} {l : Launch} {e : Env} {R : Room} {s : State} {m : MethodId} {args : Array Value} {below : List Frame} {meth : Method} {c : Code} {T : State} {H : Heap} {locs : List Loc} {cells slots : Nat} {Q : State → Prop}
/-- the search is known to end at row h of the table, and to leave the tables vm': a step leads to the handler -/
theorem kb_toHandler (X : Stand p l e R s m args below meth c T locs cells slots) {g : JFrame} (hg : g.method = m) {q : Addr} {h : Nat} {vm' : Vm}
    (hfind : ∀ (Q : Handler → Pre) (E : CtlPost) (d : Bool) (acts : List Action), wp (findHandler g q) Q E e d acts ((T.setTop g).pushFrame (.throwing q)) ↔ Q (.found h) d acts (((T.setTop g).pushFrame (.throwing q)).setVm vm')) :
    Steps p.tables e below ((T.setTop g).pushFrame (.throwing q)) ((T.setVm vm').setTop { g with pc := h, stack := [.ref q] }) := by
  subst hg
  have hat := X.here
  obtain ⟨hgo, hw⟩ := hat.throwing q
  obtain ⟨g0, hfr⟩ := X.frames_eq
  have hS : (T.setTop g).pushFrame (.throwing q) = T.setFrames (.throwing q :: .java g :: below) := by
    rw [State.pushFrame, State.frames_setTop _ hfr, State.setTop_of_frames _ hfr, State.setFrames_setFrames]
  have hstep : (stepThrowing e ((T.setTop g).pushFrame (.throwing q)) q (.java g :: below)).1 = (((T.setTop g).pushFrame (.throwing q)).setVm vm').setFrames (.java { g with pc := h, stack := [.ref q] } :: below) := by
    simp only [stepThrowing, searchFrame, vmDo]
    generalize hr : Sem.go _ e false [] _ = res
    obtain ⟨as, rfl, -⟩ := Sem.eq_ok_of hr (a := Handler.found h) (s' := ((T.setTop g).pushFrame (.throwing q)).setVm vm') (acts' := []) (by simp [hfind _ _ _ _])
    rfl
  refine Steps.head hgo hw ?_
  have hfr2 : ((T.setTop g).pushFrame (.throwing q)).frames = .throwing q :: .java g :: below := by rw [frames_entered hat.top, hfr]; rfl
  rw [stepThread_throwing hfr2, hstep]
  have e1 : (((T.setTop g).pushFrame (.throwing q)).setVm vm').setFrames (.java { g with pc := h, stack := [.ref q] } :: below) = (T.setVm vm').setTop { g with pc := h, stack := [.ref q] } := by
    have hfr3 : (T.setVm vm').frames = .java g0 :: below := hfr
    rw [State.setTop_of_frames _ hfr3, hS]
    have e2 : (T.setFrames (.throwing q :: .java g :: below)).setVm vm' = (T.setVm vm').setFrames (.throwing q :: .java g :: below) := rfl
    rw [e2, State.setFrames_setFrames]
  rw [e1]
  exact Steps.refl _
theorem kb_clsAt {vm : Vm} {C : String} {k : ClassId} (h : vm.findClass C = some k) : ∃ x, vm.classes[k]? = some x := by
  obtain ⟨x, hx, -⟩ := Vm.findClass_spec h
  exact ⟨x, hx⟩
/-- the first row takes it -/
theorem kb_catch1 {pc : Nat} {ls : Array Slot} {rest : List Value} {own Z name : String} {ce : Cell} {q : Addr} {x : ExceptionTableEntry} {suf : List ExceptionTableEntry} (hown : s.vm.findClass own = some m.cls) (htab : c.exceptionTable.toList = x :: suf) (hx : covers x pc = true) (h0 : x.catchType ≠ 0)
    (hlink : (Cond.classLink own x.catchType name).before args s = true) (hcast : (Cond.castable Z name).before args s = true) (hcell : H[q]? = some ce) (hv : ce.vm = .none) (hcl : s.vm.findClass Z = some ce.cls)
    (kk : W p l e R s m args below meth c H locs cells slots Q (F0 m x.handlerPc ls [.ref q])) : vx_W p l e R s m args below meth c H locs cells slots Q (F0 m pc ls rest) q := by
  intro T hT X
  have hpl : e.platform.magicAccessors = ({} : Platform).magicAccessors := by rw [X.admits.platform]
  obtain ⟨c3, c4, hc3, hc4, hasg⟩ := Cond.castable_spec hcast
  cases Option.some.inj (hc3.symm.trans hcl)
  obtain ⟨c5, hc5, hcl5⟩ := Cond.classLink_spec hown hlink e.platform hpl
  cases Option.some.inj (hc4.symm.trans hc5)
  obtain ⟨dk, _, _, kt, hd, _, _, _, _, hkt, _, hopen⟩ := hcl5.here
  have hal := X.warmed.alike
  have hW' : s.WarmedH (T.vm.noted m.cls x.catchType (.cls c4)) := X.warmed.noted hd hopen (State.rightAt_cls hcl5)
  obtain ⟨y1, hy1, -⟩ := hal.2.2 _ _ (kb_clsAt hcl).choose_spec
  obtain ⟨y2, hy2, -⟩ := hal.2.2 _ _ (kb_clsAt hc4).choose_spec
  have hst := kb_toHandler X (g := F0 m pc ls rest) rfl (q := q) (h := x.handlerPc) (vm' := T.vm.noted m.cls x.catchType (.cls c4)) (fun Q E d acts => by
    rw [W.findHandler_eq (meth := meth) (code := c) X.method' X.code, htab, kb_row1 (S := (T.setTop (F0 m pc ls rest)).pushFrame (.throwing q)) (cT := c4) (cell := ce) hx h0 (X.warmed.classLinks hcl5) (by show T.heap[q]? = _; rw [hT]; exact hcell) (fun k => by rw [hv]; exact fun z => nomatch z) ⟨y1, hy1⟩ ⟨y2, hy2⟩, if_pos (by show T.vm.assignable _ _ = true; rw [hal.assignable]; exact hasg)]
    rfl)
  obtain ⟨t, a1, b1⟩ := kk (T.setVm (T.vm.noted m.cls x.catchType (.cls c4))) hT (X.noted hW')
  exact ⟨t, hst.trans a1, b1⟩
/-- the first row doesn't fit, the second takes it -/
theorem kb_catch2 {pc : Nat} {ls : Array Slot} {rest : List Value} {own Z name nm0 : String} {ce : Cell} {q : Addr} {y x : ExceptionTableEntry} {suf : List ExceptionTableEntry} (hown : s.vm.findClass own = some m.cls) (htab : c.exceptionTable.toList = y :: x :: suf) (hy : covers y pc = true) (hy0 : y.catchType ≠ 0) (hx : covers x pc = true) (h0 : x.catchType ≠ 0)
    (hlinky : (Cond.classLink own y.catchType nm0).before args s = true) (hno : va_Nc Z nm0 s) (hlink : (Cond.classLink own x.catchType name).before args s = true) (hcast : (Cond.castable Z name).before args s = true) (hcell : H[q]? = some ce) (hv : ce.vm = .none) (hcl : s.vm.findClass Z = some ce.cls)
    (kk : W p l e R s m args below meth c H locs cells slots Q (F0 m x.handlerPc ls [.ref q])) : vx_W p l e R s m args below meth c H locs cells slots Q (F0 m pc ls rest) q := by
  intro T hT X
  have hpl : e.platform.magicAccessors = ({} : Platform).magicAccessors := by rw [X.admits.platform]
  obtain ⟨c3, c4, hc3, hc4, hasg⟩ := Cond.castable_spec hcast
  cases Option.some.inj (hc3.symm.trans hcl)
  obtain ⟨c5, hc5, hcl5⟩ := Cond.classLink_spec hown hlink e.platform hpl
  cases Option.some.inj (hc4.symm.trans hc5)
  obtain ⟨n1, n2, hn1, hn2, hna⟩ := hno
  cases Option.some.inj (hn1.symm.trans hcl)
  obtain ⟨c6, hc6, hcl6⟩ := Cond.classLink_spec hown hlinky e.platform hpl
  cases Option.some.inj (hn2.symm.trans hc6)
  obtain ⟨dk, _, _, kt, hd, _, _, _, _, hkt, _, hopen⟩ := hcl5.here
  obtain ⟨dk6, _, _, kt6, hd6, _, _, _, _, hkt6, _, hopen6⟩ := hcl6.here
  have hW1 : s.WarmedH (T.vm.noted m.cls y.catchType (.cls n2)) := X.warmed.noted hd6 hopen6 (State.rightAt_cls hcl6)
  have hW' : s.WarmedH ((T.vm.noted m.cls y.catchType (.cls n2)).noted m.cls x.catchType (.cls c4)) := hW1.noted hd hopen (State.rightAt_cls hcl5)
  have hal := X.warmed.alike
  have hal1 := hW1.alike
  obtain ⟨y1, hy1, -⟩ := hal.2.2 _ _ (kb_clsAt hcl).choose_spec
  obtain ⟨y2, hy2, -⟩ := hal.2.2 _ _ (kb_clsAt hn2).choose_spec
  obtain ⟨z1, hz1, -⟩ := hal1.2.2 _ _ (kb_clsAt hcl).choose_spec
  obtain ⟨z2, hz2, -⟩ := hal1.2.2 _ _ (kb_clsAt hc4).choose_spec
  have hst := kb_toHandler X (g := F0 m pc ls rest) rfl (q := q) (h := x.handlerPc) (vm' := (T.vm.noted m.cls y.catchType (.cls n2)).noted m.cls x.catchType (.cls c4)) (fun Q E d acts => by
    rw [W.findHandler_eq (meth := meth) (code := c) X.method' X.code, htab, kb_row1 (S := (T.setTop (F0 m pc ls rest)).pushFrame (.throwing q)) (cT := n2) (cell := ce) hy hy0 (X.warmed.classLinks hcl6) (by show T.heap[q]? = _; rw [hT]; exact hcell) (fun k => by rw [hv]; exact fun z => nomatch z) ⟨y1, hy1⟩ ⟨y2, hy2⟩, if_neg (by show ¬ T.vm.assignable _ _ = true; rw [hal.assignable, hna]; decide)]
    have h9 := kb_row1 (Q := Q) (E := E) (e := e) (d := d) (acts := acts) (f := F0 m pc ls rest) (a := q) (t := suf) (S := ((T.setTop (F0 m pc ls rest)).pushFrame (.throwing q)).setVm (T.vm.noted m.cls y.catchType (.cls n2))) (cT := c4) (cell := ce) hx h0 (hW1.classLinks hcl5) (by show T.heap[q]? = _; rw [hT]; exact hcell) (fun k => by rw [hv]; exact fun z => nomatch z) ⟨z1, hz1⟩ ⟨z2, hz2⟩
    rw [if_pos (by show (T.vm.noted m.cls y.catchType (.cls n2)).assignable _ _ = true; rw [hal1.assignable]; exact hasg)] at h9
    exact h9)
  obtain ⟨t, a1, b1⟩ := kk (T.setVm ((T.vm.noted m.cls y.catchType (.cls n2)).noted m.cls x.catchType (.cls c4))) hT (X.noted hW')
  exact ⟨t, hst.trans a1, b1⟩
end KBCB

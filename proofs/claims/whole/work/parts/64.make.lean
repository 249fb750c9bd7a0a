/-! ===== making: worlds that grow by cells in their order ===== -/
/-- E' has addresses of its own for the cells N .. N' - 1, else those of E -/
def kb_ext (N N' : Nat) (E E' : kb_E) : Prop := E'.1 = E.1 ∧ E'.2.1 = E.2.1 ∧ E'.2.2.1 = E.2.2.1 ∧ ∀ k, (k < N ∨ N' ≤ k) → E'.2.2.2 k = E.2.2.2 k
theorem kb_ext.ad {N N' : Nat} {E E' : kb_E} (h : kb_ext N N' E E') {k : Nat} (hk : k < N ∨ N' ≤ k) : E'.2.2.2 k = E.2.2.2 k := h.2.2.2 k hk
theorem kb_ext.cy {N N' : Nat} {E E' : kb_E} (h : kb_ext N N' E E') : E'.2.2.1 = E.2.2.1 := h.2.2.1
theorem kb_ext.rf (N : Nat) (E : kb_E) : kb_ext N N E E := ⟨rfl, rfl, rfl, fun _ _ => rfl⟩
theorem kb_ext.trans {N N1 N2 : Nat} {E E1 E2 : kb_E} (h1 : kb_ext N N1 E E1) (h2 : kb_ext N1 N2 E1 E2) (a : N ≤ N1) (b : N1 ≤ N2) : kb_ext N N2 E E2 := ⟨h2.1.trans h1.1, h2.2.1.trans h1.2.1, h2.2.2.1.trans h1.2.2.1, fun k hk => (h2.2.2.2 k (by omega)).trans (h1.2.2.2 k (by omega))⟩
theorem kb_ext.K {N N' : Nat} {E E' : kb_E} (h : kb_ext N N' E E') {U : State} (hK : va_K (kb_D E) vwCl (kb_tys E) U) : va_K (kb_D E') vwCl (kb_tys E') U := by
  unfold kb_tys at hK ⊢
  show va_K (E'.1, E'.2.1) vwCl _ U
  rw [h.1, h.2.1, h.2.2.1]
  exact hK
theorem kb_ext.W {N N' : Nat} {E E' : kb_E} (h : kb_ext N N' E E') (g : Nat → va_E) : kb_W E' N g = kb_W E N g := by
  unfold kb_W
  apply List.map_congr_left
  intro n hn
  rw [h.ad (Or.inl (List.mem_range.mp hn))]
def kb_Ea (E : kb_E) (N q : Nat) : kb_E := (E.1, E.2.1, E.2.2.1, va_up E.2.2.2 N q)
theorem kb_Ea_ext (E : kb_E) (N q : Nat) : kb_ext N (N + 1) E (kb_Ea E N q) := ⟨rfl, rfl, rfl, fun k hk => kb_up_ne (by omega)⟩
theorem kb_Ea_at (E : kb_E) (N q : Nat) : (kb_Ea E N q).2.2.2 N = q := kb_up_self
theorem kb_W_push (E : kb_E) (N q : Nat) (g : Nat → va_E) (w : va_E) : kb_W (kb_Ea E N q) (N + 1) (va_up g N w) = kb_W E N g ++ [(q, w)] := by
  unfold kb_W
  rw [List.range_succ, List.map_append]
  congr 1
  · apply List.map_congr_left
    intro n hn
    have : n ≠ N := by have := List.mem_range.mp hn; omega
    rw [kb_up_ne this, (kb_Ea_ext E N q).ad (Or.inl (List.mem_range.mp hn))]
  · show [((kb_Ea E N q).2.2.2 N, va_up g N w N)] = _
    rw [kb_Ea_at, kb_up_self]
/-- rows of objects of the class's own classes can be made -/
def kb_AO (U : State) : Prop := va_AO RX0 U ∧ va_AO RX2 U ∧ va_AO RX3 U
theorem kb_AO.moved {u U : State} (hvm : u.vm.Alike U.vm) (h : kb_AO u) : kb_AO U := ⟨h.1.moved hvm, h.2.1.moved hvm, h.2.2.moved hvm⟩
section KBK
variable {p : Program} {l : Launch} {e : Env} {R : Room} {s : State} {m : MethodId} {args : Array Value} {below : List Frame} {meth : Method} {c : Code} {E : kb_E} {A : Nat → Prop} {N : Nat} {g : Nat → va_E} {cells slots : Nat} {Q : State → Prop} {cc : ByteArray} {nL : Nat} {own : String} {Ts : List Cond} {ret : Option FieldType} {pc : Nat} {lv : List (Option Value)} {st : List Value}
theorem kb_C.ext {N' : Nat} {E' : kb_E} (C : kb_C l E A cc nL own Ts ret p s m args meth c) (h : kb_ext N N' E E') (hN : N' ≤ 300) : kb_C l E' A cc nL own Ts ret p s m args meth c :=
  ⟨C.1, C.2.1, C.2.2.1, C.2.2.2.1, C.2.2.2.2.1, C.2.2.2.2.2.1, C.2.2.2.2.2.2.1, h.K C.2.2.2.2.2.2.2.1, C.2.2.2.2.2.2.2.2.1, C.2.2.2.2.2.2.2.2.2.goE (State.WarmedH.refl s) (fun _ _ _ => rfl) (fun _ h => h) (h.ad (Or.inr (by omega))) (h.ad (Or.inr (by omega)))⟩
theorem q_new {N1 : Nat} (C : kb_C l E A cc nL own Ts ret p s m args meth c) {index ci NF : Nat} {C0 : String} {T : u_T} {ty : Nat → FieldType} {fs : List Value} (hd : decode cc pc = .ok (.new index, 3)) (hin : ∀ w ∈ u_ws C0 T NF, w ∈ Ts) (hty : ∀ k, k < NF → parseFieldDescriptor (T k).2.2.1 = some (ty k)) (hcl : Cond.classLink own index C0 ∈ Ts) (hinst : Cond.instantiable C0 NF ∈ Ts) (hini : Cond.initialized C0 ∈ Ts) (hc : vwCl[ci]? = some (C0, T, NF)) (hfs : ∀ j, j < NF → defaultValue (ty j) = vp_V fs j) (hcells : cells + 1 ≤ R.cells ∧ slots + NF ≤ R.slots)
    (hN : N1 = N + 1) (K : ∀ E', kb_ext N N1 E E' → kb_G p l e R s m args below meth c E' A N1 nL (va_up g N (.inr (ci, fs))) (cells + 1) (slots + NF) Q (pc + 3) lv (.ref (E'.2.2.2 N) :: st)) : kb_G p l e R s m args below meth c E A N nL g cells slots Q pc lv st := by
  subst hN
  exact fun H locs ls h1 h2 h3 =>
  va_new C.1 C.2.1 C.2.2.2.2.1 hin ty hty C.2.2.2.1 (C.2.2.2.2.1 _ hcl) (C.2.2.2.2.1 _ hinst) (C.2.2.2.2.1 _ hini) C.2.2.2.2.2.2.2.1 h1.1 h1.2 h2 C.2.2.2.2.2.2.2.2.1 hc hfs hcells.1 hcells.2 hd (fun q H1 hP hD hS => by
    have k := K _ (kb_Ea_ext E N q) H1 locs ls ⟨by rw [kb_W_push]; exact hP, by rw [kb_W_push]; exact hD⟩ hS h3
    rw [kb_Ea_at] at k
    exact k)
theorem q_newa {N1 : Nat} (C : kb_C l E A cc nL own Ts ret p s m args meth c) {atype : ArrayType} {t0 n : Nat} {ty : FieldType} {a0 : vp_A} (hd : decode cc pc = .ok (.newarray atype, 2)) (hw : Cond.arrayClass ty ∈ Ts) (hty : newarray.typeOf atype = ty) (hra : ∀ k : ClassId, va_RA s k ty → s.vm.findClass ("[" ++ ty.toString) = some k) (ht : (kb_tys E)[t0]? = some (E.2.2.1 t0, ty)) (ha : ∀ cA : ClassId, vp_cell cA a0 = arrV cA n (fun _ => defaultValue ty)) (hn : n < 2 ^ 31) (hbytes : n * componentBytes ty ≤ 536870912) (hcells : cells + 1 ≤ R.cells ∧ slots + n ≤ R.slots)
    (hN : N1 = N + 1) (K : ∀ E', kb_ext N N1 E E' → kb_G p l e R s m args below meth c E' A N1 nL (va_up g N (.inl (E'.2.2.1 t0, a0))) (cells + 1) (slots + n) Q (pc + 2) lv (.ref (E'.2.2.2 N) :: st)) : kb_G p l e R s m args below meth c E A N nL g cells slots Q pc lv (.int (nI n) :: st) := by
  subst hN
  exact fun H locs ls h1 h2 h3 =>
  va_newa C.1 C.2.1 (by rw [hty]; exact C.2.2.2.2.1 _ hw) hty C.2.2.2.2.2.2.2.1 h1.1 h1.2 h2 C.2.2.2.2.2.2.2.2.1 ha (nI_pos hn) (nI_clamp hn) hbytes hcells.1 hcells.2 hd (fun q cA H1 hK1 hP hD hS => by
    have e1 := hra _ (hK1.2 6 (cA, ty) rfl).2
    have e2 := hra _ (C.2.2.2.2.2.2.2.1.2 t0 _ ht).2
    have e3 : cA = E.2.2.1 t0 := Option.some.inj (e1.symm.trans e2)
    subst e3
    have k := K _ (kb_Ea_ext E N q) H1 locs ls ⟨by rw [kb_W_push]; exact hP, by rw [kb_W_push]; exact hD⟩ hS h3
    rw [kb_Ea_at] at k
    exact k)
theorem q_newq {N1 : Nat} (C : kb_C l E A cc nL own Ts ret p s m args meth c) {index t0 n : Nat} {C0 : String} (hd : decode cc pc = .ok (.anewarray index, 3)) (hcl : Cond.classLink own index C0 ∈ Ts) (hao : va_AO C0 s) (ht : (kb_tys E)[t0]? = some (E.2.2.1 t0, .object C0)) (hn : n < 2 ^ 31) (hbytes : n * 4 ≤ 536870912) (hcells : cells + 1 ≤ R.cells ∧ slots + n ≤ R.slots)
    (hN : N1 = N + 1) (K : ∀ E', kb_ext N N1 E E' → kb_G p l e R s m args below meth c E' A N1 nL (va_up g N (.inl (E'.2.2.1 t0, n, .inr (.inr (.inr (.inr (fun _ => none))))))) (cells + 1) (slots + n) Q (pc + 3) lv (.ref (E'.2.2.2 N) :: st)) : kb_G p l e R s m args below meth c E A N nL g cells slots Q pc lv (.int (nI n) :: st) := by
  subst hN
  exact fun H locs ls h1 h2 h3 =>
  va_newq C.1 C.2.1 C.2.2.2.1 (C.2.2.2.2.1 _ hcl) hao C.2.2.2.2.2.2.2.1 h1.1 h1.2 h2 C.2.2.2.2.2.2.2.2.1 (nI_pos hn) (nI_clamp hn) hbytes hcells.1 hcells.2 hd (fun q cA H1 hK1 hP hD hS => by
    obtain ⟨_, _, _, _, _, e1⟩ := (hK1.2 6 (cA, .object C0) rfl).2
    obtain ⟨_, _, _, _, _, e2⟩ := (C.2.2.2.2.2.2.2.1.2 t0 _ ht).2
    have e3 : cA = E.2.2.1 t0 := Option.some.inj (e1.symm.trans e2)
    subst e3
    have k := K _ (kb_Ea_ext E N q) H1 locs ls ⟨by rw [kb_W_push]; exact hP, by rw [kb_W_push]; exact hD⟩ hS h3
    rw [kb_Ea_at] at k
    exact k)
/-- a final field in a constructor -/
theorem q_putF (C : kb_C l E A cc nL own Ts ret p s m args meth c) {ci k index n NF : Nat} {ref C0 : String} {T : u_T} {ty0 : Nat → FieldType} {fs : List Value} {v : Value} {ty : FieldType} (hini : meth.name = "<init>") (hd : decode cc pc = .ok (.putfield index, 3)) (hn : n < N) (hg : g n = .inr (ci, fs)) (hc : vwCl[ci]? = some (C0, T, NF)) (hin : ∀ w ∈ u_ws C0 T NF, w ∈ Ts) (hty : ∀ k, k < NF → parseFieldDescriptor (T k).2.2.1 = some (ty0 k)) (hnm : ∀ a, a < NF → ∀ b, b < NF → a ≠ b → (T a).2.1 ≠ (T b).2.1) (hk : k < NF) (hw : Cond.fieldLink own index ref (T k).2.1 (T k).2.2.1 ∈ Ts) (hr : ref = (T k).1) (hfin : (T k).2.2.2 = true) (hdecl : (T k).1 = own) (hp : parseFieldDescriptor (T k).2.2.1 = some ty) (hna : narrow ty v = v) (hfit : fits ty v = true) (hl : k < fs.length) (K : kb_G p l e R s m args below meth c E A N nL (va_up g n (.inr (ci, fs.set k v))) cells slots Q (pc + 3) lv (st)) : kb_G p l e R s m args below meth c E A N nL g cells slots Q pc lv (v :: .ref (E.2.2.2 n) :: st) := fun H locs ls h1 h2 h3 =>
  va_putF C.1 C.2.1 C.2.2.2.2.1 hin ty0 hty hnm C.2.2.2.1 C.2.2.2.2.2.2.2.1 h1.1 h1.2 h2 n ((kb_W_at hn).trans (by rw [hg])) hc k hk (C.2.2.2.2.1 _ hw) (fun x hx => by rw [hr]; exact hx) hfin hini hdecl hp hna hfit hl hd (fun H1 locs1 a b c => K H1 locs1 ls ⟨by rw [← kb_W_set _ hn]; exact a, by rw [← kb_W_set _ hn]; exact b⟩ c h3)
theorem q_aast (C : kb_C l E A cc nL own Ts ret p s m args meth c) {n n1 len t0 ci NF i : Nat} {C0 : String} {T : u_T} {fs : List Value} {f : Nat → Option Nat} (hd : decode cc pc = .ok (.aastore, 1)) (hn : n < N) (hg : g n = .inl (E.2.2.1 t0, len, .inr (.inr (.inr (.inr f))))) (ht : (kb_tys E)[t0]? = some (E.2.2.1 t0, .object C0)) (hn1 : n1 < N) (hg1 : g n1 = .inr (ci, fs)) (hc : vwCl[ci]? = some (C0, T, NF)) (hl : len < 2 ^ 31) (hi : i < len) (K : kb_G p l e R s m args below meth c E A N nL (va_up g n (.inl (E.2.2.1 t0, len, .inr (.inr (.inr (.inr (va_up f i (some (E.2.2.2 n1))))))))) cells slots Q (pc + 1) lv (st)) : kb_G p l e R s m args below meth c E A N nL g cells slots Q pc lv (.ref (E.2.2.2 n1) :: .int (nI i) :: .ref (E.2.2.2 n) :: st) := fun H locs ls h1 h2 h3 =>
  va_astq C.1 C.2.1 C.2.2.2.2.2.2.2.1 h1.1 h1.2 h2 n t0 n1 ci (r := (C0, T, NF)) ((kb_W_at hn).trans (by rw [hg])) ht ((kb_W_at hn1).trans (by rw [hg1])) hc (kb_vin hi hl) hd (fun H1 locs1 a b c => K H1 locs1 ls ⟨by rw [← kb_W_set _ hn]; rw [nI_clamp (by omega)] at a; exact a, by rw [← kb_W_set _ hn]; rw [nI_clamp (by omega)] at b; exact b⟩ c h3)
theorem q_obj (C : kb_C l E A cc nL own Ts ret p s m args meth c) {index a : Nat} (hd : decode cc pc = .ok (.invokespecial index, 3)) (hl : Cond.methodLink own index objectInit ∈ Ts) (hi : Cond.instanceMethod objectInit ∈ Ts) (hc : Cond.code objectInit ⟨#[0xb1]⟩ 1 none ∈ Ts) (hf : 1 ≤ R.frames) (hlo : (st.map fun v => v.category).sum + 12 ≤ R.locals) (K : kb_G p l e R s m args below meth c E A N nL g cells slots Q (pc + 3) lv st) : kb_G p l e R s m args below meth c E A N nL g cells slots Q pc lv (.ref a :: st) := fun H locs ls h1 h2 h3 =>
  W.objInit C.1 C.2.1 C.2.2.2.1 (C.2.2.2.2.1 _ hl) (C.2.2.2.2.1 _ hi) (C.2.2.2.2.1 _ hc) rfl (h3.1.trans C.2.2.1.symm) rfl hd hf (by simpa [F0, JFrame.monitorRoom] using hlo) (K H locs ls h1 h2 h3)
end KBK
/-! constructors: contracts over worlds that grow -/
def kb_PN (l : Launch) (E : kb_E) (N sz : Nat) (g : Nat → va_E) (U : State) : Prop := kb_PR l E N sz g U ∧ kb_AO U
def kb_Qk (E : kb_E) (N N' sz : Nat) (post : kb_E → (Nat → va_E) → Prop) : Array Value → State → Outcome → State → Prop := fun _ st oc t => ∃ (E' : kb_E) (g' : Nat → va_E), oc = .returned none ∧ kb_ext N N' E E' ∧ post E' g' ∧ kb_HW E' (kb_A E N sz) N' g' t.heap ∧ va_F (kb_A E N sz) st t
def kb_Mk (l : Launch) (E : kb_E) (N N' : Nat) (y : MethodName) (ws : List Cond) (rm : Room) (n0 : Nat) (g : Nat → va_E) (post : kb_E → (Nat → va_E) → Prop) : Prop :=
  ∀ sz, Met l y ws rm (va_Pc [.ref (E.2.2.2 n0)] (kb_PN l E N sz g)) (kb_Qk E N N' sz post) rm.cells rm.slots (kb_A E N sz)
theorem kb_blindN {l : Launch} {E : kb_E} {N sz : Nat} {g : Nat → va_E} {av : List Value} : FrameBlind (va_Pc av (kb_PN l E N sz g)) := by
  intro a U gf mk h
  exact ⟨(kb_blind a U gf mk ⟨h.1, h.2.1⟩).1, (kb_blind a U gf mk ⟨h.1, h.2.1⟩).2, kb_AO.moved (U := U.calling gf mk a) (Vm.Alike.refl U.vm) h.2.2⟩
section KBK2
variable {l : Launch} {E : kb_E} {N N' : Nat} {y : MethodName} {ws ws' : List Cond} {rm : Room} {n0 : Nat} {g : Nat → va_E} {post : kb_E → (Nat → va_E) → Prop} {cc : ByteArray} {maxL : Nat}
theorem kb_enterK (hy : plainName y.cls = true) (hw : ws = Cond.code y cc maxL none :: ws') (hn : 1 ≤ maxL) (hnm : y.name = "<init>")
    (body : ∀ (p : Program) (e : Env) (s : State) (m : MethodId) (args : Array Value) (below : List Frame) (meth : Method) (c : Code), kb_C l E (kb_A E N s.heap.size) cc maxL y.cls ws none p s m args meth c → meth.name = "<init>" → kb_AO s →
      kb_G p l e rm s m args below meth c E (kb_A E N s.heap.size) N maxL g 0 0 (MQ below (kb_Qk E N N' s.heap.size post) args s rm.cells rm.slots (kb_A E N s.heap.size)) 0 (some (.ref (E.2.2.2 n0)) :: List.replicate (maxL - 1) none) []) : kb_Mk l E N N' y ws rm n0 g post := by
  intro sz
  refine Met.ofW (cc := cc) (maxL := maxL) (ret := none) hy hw ?_
  intro p e s m args below meth c s₁ B hml hv
  obtain ⟨rfl, hp, hao⟩ := hv
  have hsz := hp.1
  subst hsz
  rw [lg_entry_eq]
  exact body p e s m _ below meth c (kb_cx B hml hp) (by rw [← hnm]; exact (name_of_methodNamed B.named B.method).1) hao s.heap [] _ ⟨hp.2.1.1, kb_D_A hp.2.1.2⟩ va_S.rf (kb_L0 (av := [.ref (E.2.2.2 n0)]) (by simp [Value.category]) hn)
end KBK2
section KBK3
variable {p : Program} {l : Launch} {e : Env} {R : Room} {s : State} {m : MethodId} {args : Array Value} {below : List Frame} {meth : Method} {c : Code} {E E0 : kb_E} {A : Nat → Prop} {N N0 N' : Nat} {g : Nat → va_E} {cells slots : Nat} {Q : State → Prop} {cc : ByteArray} {nL : Nat} {own : String} {Ts : List Cond} {ret : Option FieldType} {pc : Nat} {lv : List (Option Value)} {st : List Value} {post : kb_E → (Nat → va_E) → Prop}
theorem q_kret (C : kb_C l E (kb_A E0 N0 s.heap.size) cc nL own Ts none p s m args meth c) (hd : decode cc pc = .ok (.return_, 1)) (hE : kb_ext N0 N E0 E) (hp : post E g) : kb_G p l e R s m args below meth c E (kb_A E0 N0 s.heap.size) N nL g cells slots (MQ below (kb_Qk E0 N0 N s.heap.size post) args s cells slots (kb_A E0 N0 s.heap.size)) pc lv [] := fun H locs ls h1 h2 h3 =>
  W.vret C.1 C.2.1 C.2.2.2.2.2.1 (fun t ht _ => ⟨E, g, rfl, hE, hp, by rw [ht]; exact h1, h2.F ht⟩) h2.2.2 hd C.2.2.2.2.2.2.1
theorem kb_callI {mc ms : Nat} {rest st0 : List Value} {a : Array Value} (C : kb_C l E A cc nL own Ts ret p s m args meth c)
    (hr : ∀ (H : Heap) (locs : List Loc) (ls : Array Slot), kb_HW E A N g H → va_S A s.heap H locs → kb_L ls nL lv → va_Run p l e R s m args below meth c H locs cells slots mc ms (F0 m pc ls st0) rest (kb_Qk E N N' H.size post a) (kb_A E N H.size))
    (K : ∀ (E' : kb_E) (g' : Nat → va_E), kb_ext N N' E E' → post E' g' → kb_G p l e R s m args below meth c E' A N' nL g' (cells + mc) (slots + ms) Q (pc + 3) lv rest) : kb_G p l e R s m args below meth c E A N nL g cells slots Q pc lv st0 := by
  intro H locs ls h1 h2 h3 T hT X
  obtain ⟨v, st₀, t, T', L, h0, X', hL, e1, e2, ⟨E', g', hv, hE, hp, hHW, hF⟩, go⟩ := hr H locs ls h1 h2 h3 T hT X
  cases hv
  have hz : H.size ≤ T'.heap.size := by rw [e1, ← h0]; exact hF.1
  have hk : ∀ q : Nat, q < H.size → ¬ kb_A E N H.size q → T'.heap[q]? = H[q]? := fun q a b => by rw [e1, ← h0]; exact hF.2 q (by rw [h0]; exact a) b
  have hAA : ∀ q, kb_A E N H.size q → A q := by
    intro q h
    rcases h with ⟨n, hn, rfl⟩ | h
    · exact h1.2.2 n _ (kb_W_at hn)
    · exact C.2.2.2.2.2.2.2.2.1 q (Nat.le_trans h2.1 h)
  obtain ⟨t2, a1, b1⟩ := K E' g' hE hp T'.heap (locs ++ L) ls ⟨by rw [e1]; exact hHW.1, ⟨hHW.2.1, fun k q hq => hAA _ (hHW.2.2 k q hq)⟩⟩ (kb_SF h1.2 C.2.2.2.2.2.2.2.2.1 h2 hz hk hL) h3 T' rfl X'
  exact ⟨t2, go t2 a1, b1⟩
theorem q_callI {y : MethodName} {ws ws' : List Cond} {rm0 : Room} {bytes : ByteArray} {maxL index n0 : Nat} {rest : List Value} (C : kb_C l E A cc nL own Ts ret p s m args meth c) (hao : kb_AO s) (hd : decode cc pc = .ok (.invokespecial index, 3)) (hM : kb_Mk l E N N' y ws rm0 n0 g post) (hG : GoodIn Ts ws) (hw : ws = Cond.code y bytes maxL none :: ws') (hini : Cond.initialized y.cls ∈ Ts) (hl : Cond.methodLink own index y ∈ Ts) (hin : Cond.instanceMethod y ∈ Ts) (hnm : y.name = "<init>")
    (hy : y.cls ≠ "java/lang/invoke/MethodHandle" ∧ y.cls ≠ "java/lang/invoke/VarHandle" ∧ (parseMethodDescriptor y.desc).map (fun d => d.parameters.length) = some 0) (hR : rm0.frames + 1 ≤ R.frames ∧ 8 + (maxL + 11) + rm0.locals ≤ R.locals) (hW : (rest.map fun v => v.category).sum ≤ 8) (hf : cells + rm0.cells ≤ R.cells ∧ slots + rm0.slots ≤ R.slots)
    (K : ∀ (E' : kb_E) (g' : Nat → va_E), kb_ext N N' E E' → post E' g' → kb_G p l e R s m args below meth c E' A N' nL g' (cells + rm0.cells) (slots + rm0.slots) Q (pc + 3) lv rest) : kb_G p l e R s m args below meth c E A N nL g cells slots Q pc lv (.ref (E.2.2.2 n0) :: rest) :=
  kb_callI C (fun H locs ls h1 h2 h3 => va_runI (As := []) (rest := rest) ⟨C.1, C.2.1, C.2.2.1, C.2.2.2.1, C.2.2.2.2.1⟩ (hM H.size) (cwI 0 C.2.2.2.2.1 hG hw rfl rfl (C.2.2.2.2.1 _ hini) (C.2.2.2.2.1 _ hl) (C.2.2.2.2.1 _ hin) hnm hy hR) ⟨kb_blindN, fun U hU hWm => ⟨rfl, kb_pre C h1 h2 hU hWm, hao.moved hWm.alike⟩⟩ rfl rfl h3.1 rfl (lv_room hW) hd hf) K
theorem q_callIN {y : MethodName} {ws ws' : List Cond} {rm0 : Room} {bytes : ByteArray} {maxL index n0 : Nat} {host : String} {rest : List Value} (C : kb_C l E A cc nL own Ts ret p s m args meth c) (hao : kb_AO s) (hd : decode cc pc = .ok (.invokespecial index, 3)) (hM : kb_Mk l E N N' y ws rm0 n0 g post) (hG : GoodIn Ts ws) (hw : ws = Cond.code y bytes maxL none :: ws') (hl : (own, index, y, host) ∈ kb_nestM) (hini : Cond.initialized y.cls ∈ Ts) (hin : Cond.instanceMethod y ∈ Ts) (hnm : y.name = "<init>")
    (hy : y.cls ≠ "java/lang/invoke/MethodHandle" ∧ y.cls ≠ "java/lang/invoke/VarHandle" ∧ (parseMethodDescriptor y.desc).map (fun d => d.parameters.length) = some 0) (hR : rm0.frames + 1 ≤ R.frames ∧ 8 + (maxL + 11) + rm0.locals ≤ R.locals) (hW : (rest.map fun v => v.category).sum ≤ 8) (hf : cells + rm0.cells ≤ R.cells ∧ slots + rm0.slots ≤ R.slots)
    (K : ∀ (E' : kb_E) (g' : Nat → va_E), kb_ext N N' E E' → post E' g' → kb_G p l e R s m args below meth c E' A N' nL g' (cells + rm0.cells) (slots + rm0.slots) Q (pc + 3) lv rest) : kb_G p l e R s m args below meth c E A N nL g cells slots Q pc lv (.ref (E.2.2.2 n0) :: rest) :=
  kb_callI C (fun H locs ls h1 h2 h3 => va_runIN (As := []) (rest := rest) ⟨C.1, C.2.1, C.2.2.1, C.2.2.2.1, C.2.2.2.2.1⟩ (hM H.size) ⟨va_cnB 0 C.2.2.2.2.1 hG hw rfl rfl (C.2.2.2.2.2.2.2.2.2.2.1 _ hl) (C.2.2.2.2.1 _ hini) hy hR, hnm, C.2.2.2.2.1 _ hin⟩ ⟨kb_blindN, fun U hU hWm => ⟨rfl, kb_pre C h1 h2 hU hWm, hao.moved hWm.alike⟩⟩ rfl rfl h3.1 rfl (lv_room hW) hd hf) K
end KBK3
/-- the state at the beginning: nothing but zeros -/
def kb_Z0 : Nat → Nat → Int32 := fun _ _ => 0
def kb_Y0 : Nat → Nat → Int64 := fun _ _ => 0
/-- two contents that lie alike in the heap -/
def kb_eqv (w w' : va_E) : Prop := w = w' ∨ ∃ (cA : ClassId) (len : Nat) (f f' : Nat → Option Nat), w = .inl (cA, len, .inr (.inr (.inr (.inr f)))) ∧ w' = .inl (cA, len, .inr (.inr (.inr (.inr f')))) ∧ ∀ k, k < len → f k = f' k
theorem kb_eqv.rf (w : va_E) : kb_eqv w w := Or.inl rfl
theorem kb_arrV {cA : ClassId} {n : Nat} {f f' : Nat → Value} (h : ∀ k, k < n → f k = f' k) : arrV cA n f = arrV cA n f' := by
  unfold arrV
  congr 2
  funext j
  exact h j.val j.isLt
theorem kb_eqv.at {w w' : va_E} (h : kb_eqv w w') {D : va_G} {cl : List vw_C} {a : Nat} {H : Heap} (ha : va_at D cl (a, w) H) : va_at D cl (a, w') H := by
  rcases h with rfl | ⟨cA, len, f, f', rfl, rfl, h⟩
  · exact ha
  · show H[a]? = some (arrV cA len (fun j => va_rf (f' j)))
    rw [← kb_arrV (f := fun j => va_rf (f j)) (fun k hk => by rw [h k hk])]
    exact ha
section KBQ
variable {p : Program} {l : Launch} {e : Env} {R : Room} {s : State} {m : MethodId} {args : Array Value} {below : List Frame} {meth : Method} {c : Code} {E : kb_E} {A : Nat → Prop} {N : Nat} {g g' : Nat → va_E} {cells slots : Nat} {Q : State → Prop} {nL : Nat} {pc : Nat} {lv : List (Option Value)} {st : List Value}
theorem q_eqv (g' : Nat → va_E) (h : ∀ n, n < N → kb_eqv (g n) (g' n)) (K : kb_G p l e R s m args below meth c E A N nL g' cells slots Q pc lv st) : kb_G p l e R s m args below meth c E A N nL g cells slots Q pc lv st := fun H locs ls h1 h2 h3 => K H locs ls ⟨fun k q hq => by
    have hk : k < N := by
      have := (List.getElem?_eq_some_iff.mp hq).1
      simpa [kb_W] using this
    rw [kb_W_at hk] at hq
    cases hq
    exact (h k hk).at (h1.1 k _ (kb_W_at hk)), kb_D_any h1.2⟩ h2 h3
end KBQ
/-- from n0 on the state at the beginning, below it g -/
def kb_fl (n0 : Nat) (g : Nat → va_E) (E : kb_E) (n : Nat) : va_E := if n < n0 then g n else kb_ent E kb_Z0 kb_Y0 n
theorem kb_fl_lt {n0 n : Nat} {g : Nat → va_E} {E : kb_E} (h : n < n0) : kb_fl n0 g E n = g n := if_pos h
theorem kb_fl_ge {n0 n : Nat} {g : Nat → va_E} {E : kb_E} (h : n0 ≤ n) : kb_fl n0 g E n = kb_ent E kb_Z0 kb_Y0 n := if_neg (by omega)
/-- cell n as seen by two of which the later has more addresses -/
theorem kb_ent_eqv {E E' : kb_E} {X : Nat → Nat → Int32} {Y : Nat → Nat → Int64} {N n : Nat} (hcy : E'.2.2.1 = E.2.2.1) (had : ∀ k, k < N → E'.2.2.2 k = E.2.2.2 k) (h0 : n = 0 → 3 < N) (h1 : n = 1 → 148 ≤ N) (h2 : n = 2 → 188 ≤ N) (h3 : n = 3 → 8 < N) (h7 : n = 7 → 92 ≤ N) (hS : 8 ≤ n → n < 92 → n % 2 = 0 → n + 1 < N) (hB : 92 ≤ n → n < 148 → (n - 92) % 7 = 0 → n + 6 < N) (hP : 148 ≤ n → n < 188 → (n - 148) % 5 = 0 → n + 4 < N) (hM : n = 188 → 200 < N) : kb_eqv (kb_ent E X Y n) (kb_ent E' X Y n) := by
  unfold kb_ent
  rw [hcy]
  split
  · split
    · rw [had 1 (by omega), had 2 (by omega), had 3 (by omega)]
      exact kb_eqv.rf _
    · split
      · exact Or.inr ⟨_, _, _, _, rfl, rfl, fun k hk => by rw [had _ (by omega)]⟩
      · split
        · exact Or.inr ⟨_, _, _, _, rfl, rfl, fun k hk => by rw [had _ (by omega)]⟩
        · split
          · rw [had 4 (by omega), had 5 (by omega), had 6 (by omega), had 7 (by omega), had 8 (by omega)]
            exact kb_eqv.rf _
          · split
            · exact kb_eqv.rf _
            · split
              · exact Or.inr ⟨_, _, _, _, rfl, rfl, fun k hk => by rw [had _ (by omega)]⟩
              · split
                · rw [had _ (by omega)]
                  exact kb_eqv.rf _
                · exact kb_eqv.rf _
  · split
    · split
      · rw [had (n + 1) (by omega), had (n + 2) (by omega), had (n + 3) (by omega), had (n + 4) (by omega), had (n + 5) (by omega), had (n + 6) (by omega)]
        exact kb_eqv.rf _
      · exact kb_eqv.rf _
    · split
      · split
        · rw [had (n + 1) (by omega), had (n + 2) (by omega), had (n + 3) (by omega), had (n + 4) (by omega)]
          exact kb_eqv.rf _
        · exact kb_eqv.rf _
      · split
        · rw [had 189 (by omega), had 190 (by omega), had 191 (by omega), had 192 (by omega), had 193 (by omega), had 194 (by omega), had 195 (by omega), had 196 (by omega), had 197 (by omega), had 198 (by omega), had 199 (by omega), had 200 (by omega)]
          exact kb_eqv.rf _
        · split
          · exact kb_eqv.rf _
          · split
            · exact kb_eqv.rf _
            · exact kb_eqv.rf _

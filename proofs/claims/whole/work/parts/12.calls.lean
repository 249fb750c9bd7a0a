/-! ===== contracts over the numbered world; entering, leaving, calling ===== -/
/-- what holds at a method's start: the world holds g -/
def kb_PR (l : Launch) (E : kb_E) (N sz : Nat) (g : Nat → va_E) (U : State) : Prop := U.heap.size = sz ∧ kb_HW E (fun _ => True) N g U.heap ∧ va_K (kb_D E) vwCl (kb_tys E) U ∧ kb_O l E (kb_A E N sz) U U.heap
/-- what holds where it has returned: some answer v and some contents g' of which post speaks -/
def kb_Qc (E : kb_E) (N sz : Nat) (post : Option Value → (Nat → va_E) → Prop) : Array Value → State → Outcome → State → Prop := fun _ st oc t => ∃ (v : Option Value) (g' : Nat → va_E), oc = .returned v ∧ post v g' ∧ kb_HW E (fun _ => True) N g' t.heap ∧ va_F (kb_A E N sz) st t
def kb_XC (E : kb_E) (N sz : Nat) (g : Nat → va_E) (thr : String → Prop) : String → State → State → Prop := fun X st t => thr X ∧ kb_HW E (fun _ => True) N g t.heap ∧ va_F (kb_A E N sz) st t
def kb_Met (l : Launch) (E : kb_E) (N : Nat) (y : MethodName) (ws : List Cond) (rm : Room) (av : List Value) (g : Nat → va_E) (post : Option Value → (Nat → va_E) → Prop) : Prop :=
  ∀ sz, Met l y ws rm (va_Pc av (kb_PR l E N sz g)) (kb_Qc E N sz post) rm.cells rm.slots (kb_A E N sz)
def kb_MetX (l : Launch) (E : kb_E) (N : Nat) (y : MethodName) (ws : List Cond) (rm : Room) (av : List Value) (g : Nat → va_E) (post : Option Value → (Nat → va_E) → Prop) (thr : String → Prop) : Prop :=
  ∀ sz, vx_Met l y ws rm (va_Pc av (kb_PR l E N sz g)) (kb_Qc E N sz post) (kb_XC E N sz g thr) rm.cells rm.slots (kb_A E N sz)
theorem kb_blind {l : Launch} {E : kb_E} {N sz : Nat} {g : Nat → va_E} {av : List Value} : FrameBlind (va_Pc av (kb_PR l E N sz g)) := by
  intro a U gf mk h
  obtain ⟨h0, h1, h2, h3, h4⟩ := h
  exact ⟨h0, h1, h2, va_K.moved (u := U) (U := U.calling gf mk a) (Vm.Alike.refl U.vm) h3, h4.go (U := U.calling gf mk a) (State.WarmedH.refl U) (fun _ _ _ => rfl) (fun _ h => h)⟩
theorem kb_D_any {E : kb_E} {A : Nat → Prop} {N : Nat} {g g' : Nat → va_E} (h : va_D A (kb_W E N g)) : va_D A (kb_W E N g') := by
  have key : ∀ (gg : Nat → va_E) (i : Nat) (q : Nat × va_E), (kb_W E N gg)[i]? = some q → i < N ∧ q.1 = E.2.2.2 i := by
    intro gg i q hq
    have hi : i < N := by
      have := (List.getElem?_eq_some_iff.mp hq).1
      simpa [kb_W] using this
    rw [kb_W_at hi] at hq
    cases hq
    exact ⟨hi, rfl⟩
  refine ⟨fun i j p q hp hq hpq => ?_, fun k q hk => ?_⟩
  · obtain ⟨hi, e1⟩ := key _ _ _ hp
    obtain ⟨hj, e2⟩ := key _ _ _ hq
    exact h.1 i j _ _ (kb_W_at hi) (kb_W_at hj) (by show E.2.2.2 i = E.2.2.2 j; rw [← e1, ← e2]; exact hpq)
  · obtain ⟨hk', e1⟩ := key _ _ _ hk
    rw [e1]
    exact h.2 k _ (kb_W_at hk')
theorem kb_D_A {E : kb_E} {A : Nat → Prop} {N sz : Nat} {g : Nat → va_E} (h : va_D A (kb_W E N g)) : va_D (kb_A E N sz) (kb_W E N g) := by
  refine ⟨h.1, fun k q hk => Or.inl ?_⟩
  have hi : k < N := by
    have := (List.getElem?_eq_some_iff.mp hk).1
    simpa [kb_W] using this
  rw [kb_W_at hi] at hk
  cases hk
  exact ⟨k, hi, rfl⟩
theorem kb_D_T {A : Nat → Prop} {ws : va_W} (h : va_D A ws) : va_D (fun _ => True) ws := ⟨h.1, fun _ _ _ => trivial⟩
theorem kb_lv0 (av : List Value) (h : ∀ v ∈ av, v.category = 1) : ∀ (k i : Nat) (v : Value), av[i]? = some v → (k + i, v) ∈ lv_args k av := by
  induction av with
  | nil => intro k i v hv; simp at hv
  | cons a as ih =>
    intro k i v hv
    have ha : a.category = 1 := h a List.mem_cons_self
    cases i with
    | zero =>
      simp only [List.getElem?_cons_zero, Option.some.injEq] at hv
      subst hv
      exact List.mem_cons_self
    | succ i =>
      simp only [List.getElem?_cons_succ] at hv
      unfold lv_args
      refine List.mem_cons_of_mem _ ?_
      rw [if_neg (by omega)]
      have := ih (fun v hv => h v (List.mem_cons_of_mem _ hv)) (k + 1) i v hv
      rw [show k + (i + 1) = k + 1 + i by omega]
      exact this
theorem kb_sl (av : List Value) (h : ∀ v ∈ av, v.category = 1) : (lg_sl av).length = av.length := by
  induction av with
  | nil => rfl
  | cons a as ih =>
    have ha : a.category = 1 := h a List.mem_cons_self
    have := ih (fun v hv => h v (List.mem_cons_of_mem _ hv))
    have e1 : lg_sl (a :: as) = .val a :: lg_sl as := by simp [lg_sl, ha]
    rw [e1, List.length_cons, List.length_cons, this]
theorem kb_L0 {av : List Value} {n : Nat} (h : ∀ v ∈ av, v.category = 1) (hn : av.length ≤ n) : kb_L ((lg_sl av ++ List.replicate (n - (lg_sl av).length) Slot.unset).toArray) n (av.map some ++ List.replicate (n - av.length) none) := by
  refine kb_L.of (lv_entry av (by rw [kb_sl av h]; exact hn)) (fun i v hv => ?_)
  have hi : av[i]? = some v := by
    rcases Nat.lt_or_ge i av.length with q | q
    · rw [List.getElem?_append_left (by simpa using q), List.getElem?_map] at hv
      cases h1 : av[i]? with
      | none => rw [h1] at hv; cases hv
      | some w => rw [h1] at hv; simpa using hv
    · rw [List.getElem?_append_right (by simpa using q), List.getElem?_replicate] at hv
      split at hv <;> cases hv
  have := kb_lv0 av h 0 i v hi
  simpa using this
section KBC
variable {l : Launch} {E : kb_E} {N : Nat} {y : MethodName} {ws ws' : List Cond} {rm : Room} {av : List Value} {g : Nat → va_E} {post : Option Value → (Nat → va_E) → Prop} {thr : String → Prop} {cc : ByteArray} {maxL : Nat} {ret : Option FieldType}
theorem kb_cx {p : Program} {e : Env} {s : State} {m : MethodId} {args : Array Value} {below : List Frame} {meth : Method} {c : Code} {s₁ : State} (B : BodyLoose p l y (headSpec ws rm) cc maxL ret e s m args below meth c s₁) (hml : c.maxLocals = maxL) (hp : kb_PR l E N s.heap.size g s) : kb_C l E (kb_A E N s.heap.size) cc maxL y.cls ws ret p s m args meth c :=
  ⟨B.exec, B.bytes, hml, findClass_of_methodNamed B.named, atoms_spec (ws := ws) B.pre, B.returns, B.notSynchronized, hp.2.2.1, fun _ h => Or.inr h, hp.2.2.2⟩
/-- a method that returns: its body's walk from the entry -/
theorem kb_enter (hy : plainName y.cls = true) (hw : ws = Cond.code y cc maxL ret :: ws') (hav : ∀ v ∈ av, v.category = 1) (hn : av.length ≤ maxL)
    (body : ∀ (p : Program) (e : Env) (s : State) (m : MethodId) (args : Array Value) (below : List Frame) (meth : Method) (c : Code), kb_C l E (kb_A E N s.heap.size) cc maxL y.cls ws ret p s m args meth c → (y.name = "<init>" → meth.name = "<init>") →
      kb_G p l e rm s m args below meth c E (kb_A E N s.heap.size) N maxL g 0 0 (MQ below (kb_Qc E N s.heap.size post) args s rm.cells rm.slots (kb_A E N s.heap.size)) 0 (av.map some ++ List.replicate (maxL - av.length) none) []) : kb_Met l E N y ws rm av g post := by
  intro sz
  refine Met.ofW (cc := cc) (maxL := maxL) (ret := ret) hy hw ?_
  intro p e s m args below meth c s₁ B hml hv
  obtain ⟨rfl, hp⟩ := hv
  have hsz := hp.1
  subst hsz
  rw [lg_entry_eq]
  exact body p e s m _ below meth c (kb_cx B hml hp) (fun h => by rw [← h]; exact (name_of_methodNamed B.named B.method).1) s.heap [] _ ⟨hp.2.1.1, kb_D_A hp.2.1.2⟩ va_S.rf (kb_L0 hav hn)
/-- a method that may throw -/
theorem kb_enterX (hy : plainName y.cls = true) (hw : ws = Cond.code y cc maxL ret :: ws') (hav : ∀ v ∈ av, v.category = 1) (hn : av.length ≤ maxL)
    (body : ∀ (p : Program) (e : Env) (s : State) (m : MethodId) (args : Array Value) (below : List Frame) (meth : Method) (c : Code), kb_C l E (kb_A E N s.heap.size) cc maxL y.cls ws ret p s m args meth c → (∀ x ∈ c.exceptionTable.toList, False) →
      kb_G p l e rm s m args below meth c E (kb_A E N s.heap.size) N maxL g 0 0 (vx_MQ below (kb_Qc E N s.heap.size post) (kb_XC E N s.heap.size g thr) args s rm.cells rm.slots (kb_A E N s.heap.size)) 0 (av.map some ++ List.replicate (maxL - av.length) none) []) : kb_MetX l E N y ws rm av g post thr := by
  intro sz
  refine vx_ofW (cc := cc) (maxL := maxL) (ret := ret) hy hw ?_
  intro p e s m args below meth c s₁ B hml hx hv
  obtain ⟨rfl, hp⟩ := hv
  have hsz := hp.1
  subst hsz
  rw [lg_entry_eq]
  exact body p e s m _ below meth c (kb_cx B hml hp) hx s.heap [] _ ⟨hp.2.1.1, kb_D_A hp.2.1.2⟩ va_S.rf (kb_L0 hav hn)
end KBC
section KBX
variable {p : Program} {l : Launch} {e : Env} {R : Room} {s : State} {m : MethodId} {args : Array Value} {below : List Frame} {meth : Method} {c : Code} {E : kb_E} {A : Nat → Prop} {N : Nat} {g g' : Nat → va_E} {cells slots : Nat} {Q : State → Prop} {cc : ByteArray} {nL : Nat} {own : String} {Ts : List Cond} {ret : Option FieldType} {pc : Nat} {lv : List (Option Value)} {st : List Value} {post : Option Value → (Nat → va_E) → Prop} {thr : String → Prop}
theorem q_widen {k n : Nat} (h1 : cells ≤ k) (h2 : slots ≤ n) (K : kb_G p l e R s m args below meth c E A N nL g k n Q pc lv st) : kb_G p l e R s m args below meth c E A N nL g cells slots Q pc lv st := fun H locs ls a b d => W.widen (k := k) (n := n) h1 h2 (K H locs ls a b d)
theorem q_world (h : g = g') (K : kb_G p l e R s m args below meth c E A N nL g' cells slots Q pc lv st) : kb_G p l e R s m args below meth c E A N nL g cells slots Q pc lv st := h ▸ K
theorem q_iret (C : kb_C l E (kb_A E N s.heap.size) cc nL own Ts (some .int) p s m args meth c) {v : Int32} (hd : decode cc pc = .ok (.ireturn, 1)) (hp : post (some (.int v)) g) : kb_G p l e R s m args below meth c E (kb_A E N s.heap.size) N nL g cells slots (MQ below (kb_Qc E N s.heap.size post) args s cells slots (kb_A E N s.heap.size)) pc lv [.int v] := fun H locs ls h1 h2 h3 =>
  W.iret C.1 C.2.1 C.2.2.2.2.2.1 (fun t ht _ => ⟨_, g, rfl, hp, by rw [ht]; exact ⟨h1.1, kb_D_T h1.2⟩, h2.F ht⟩) h2.2.2 hd C.2.2.2.2.2.2.1
theorem q_zret (C : kb_C l E (kb_A E N s.heap.size) cc nL own Ts (some .boolean) p s m args meth c) {v : Int32} (hd : decode cc pc = .ok (.ireturn, 1)) (hn : narrow .boolean (.int v) = .int v) (hp : post (some (.int v)) g) : kb_G p l e R s m args below meth c E (kb_A E N s.heap.size) N nL g cells slots (MQ below (kb_Qc E N s.heap.size post) args s cells slots (kb_A E N s.heap.size)) pc lv [.int v] := fun H locs ls h1 h2 h3 =>
  W.zret C.1 C.2.1 C.2.2.2.2.2.1 hn (fun t ht _ => ⟨_, g, rfl, hp, by rw [ht]; exact ⟨h1.1, kb_D_T h1.2⟩, h2.F ht⟩) h2.2.2 hd C.2.2.2.2.2.2.1
theorem q_lret (C : kb_C l E (kb_A E N s.heap.size) cc nL own Ts (some .long) p s m args meth c) {v : Int64} (hd : decode cc pc = .ok (.lreturn, 1)) (hp : post (some (.long v)) g) : kb_G p l e R s m args below meth c E (kb_A E N s.heap.size) N nL g cells slots (MQ below (kb_Qc E N s.heap.size post) args s cells slots (kb_A E N s.heap.size)) pc lv [.long v] := fun H locs ls h1 h2 h3 =>
  W.lret C.1 C.2.1 C.2.2.2.2.2.1 (fun t ht _ => ⟨_, g, rfl, hp, by rw [ht]; exact ⟨h1.1, kb_D_T h1.2⟩, h2.F ht⟩) h2.2.2 hd C.2.2.2.2.2.2.1
theorem q_aret {rt : String} (C : kb_C l E (kb_A E N s.heap.size) cc nL own Ts (some (.object rt)) p s m args meth c) {v : Nat} (hd : decode cc pc = .ok (.areturn, 1)) (hp : post (some (.ref v)) g) : kb_G p l e R s m args below meth c E (kb_A E N s.heap.size) N nL g cells slots (MQ below (kb_Qc E N s.heap.size post) args s cells slots (kb_A E N s.heap.size)) pc lv [.ref v] := fun H locs ls h1 h2 h3 =>
  W.aret C.1 C.2.1 C.2.2.2.2.2.1 (Or.inl ⟨_, rfl⟩) (Or.inr ⟨_, rfl⟩) (fun t ht _ => ⟨_, g, rfl, hp, by rw [ht]; exact ⟨h1.1, kb_D_T h1.2⟩, h2.F ht⟩) h2.2.2 hd C.2.2.2.2.2.2.1
theorem q_vret (C : kb_C l E (kb_A E N s.heap.size) cc nL own Ts none p s m args meth c) (hd : decode cc pc = .ok (.return_, 1)) (hp : post none g) : kb_G p l e R s m args below meth c E (kb_A E N s.heap.size) N nL g cells slots (MQ below (kb_Qc E N s.heap.size post) args s cells slots (kb_A E N s.heap.size)) pc lv [] := fun H locs ls h1 h2 h3 =>
  W.vret C.1 C.2.1 C.2.2.2.2.2.1 (fun t ht _ => ⟨_, g, rfl, hp, by rw [ht]; exact ⟨h1.1, kb_D_T h1.2⟩, h2.F ht⟩) h2.2.2 hd C.2.2.2.2.2.2.1
/-- out of a body that may throw, by returning -/
theorem q_retX {Qc : Array Value → State → Outcome → State → Prop} {XC : String → State → State → Prop} {free : Addr → Prop} {mc ms : Nat} (h1 : cells ≤ mc) (h2 : slots ≤ ms) (K : kb_G p l e R s m args below meth c E A N nL g mc ms (MQ below Qc args s mc ms free) pc lv st) : kb_G p l e R s m args below meth c E A N nL g cells slots (vx_MQ below Qc XC args s mc ms free) pc lv st := fun H locs ls a b d => vx_ret (W.widen (k := mc) (n := ms) h1 h2 (K H locs ls a b d))
theorem kb_SF {H H1 : Heap} {locs L : List Loc} (hD : va_D A (kb_W E N g)) (hA : ∀ q, s.heap.size ≤ q → A q) (hS : va_S A s.heap H locs) (hz : H.size ≤ H1.size) (hk : ∀ q : Nat, q < H.size → ¬ kb_A E N H.size q → H1[q]? = H[q]?) (hL : ∀ q ∈ L, kb_A E N H.size q.base) : va_S A s.heap H1 (locs ++ L) := by
  have hAA : ∀ q, kb_A E N H.size q → A q := by
    intro q h
    rcases h with ⟨n, hn, rfl⟩ | h
    · exact hD.2 n _ (kb_W_at hn)
    · exact hA q (Nat.le_trans hS.1 h)
  refine ⟨Nat.le_trans hS.1 hz, fun q h1 h2 => ?_, fun q hq => ?_⟩
  · rw [hk q (Nat.lt_of_lt_of_le h1 hS.1) (fun h => h2 (hAA q h))]
    exact hS.2.1 q h1 h2
  · rcases List.mem_append.mp hq with h | h
    · exact hS.2.2 q h
    · exact hAA _ (hL q h)
theorem kb_pre (C : kb_C l E A cc nL own Ts ret p s m args meth c) {H : Heap} {locs : List Loc} (h1 : kb_HW E A N g H) (h2 : va_S A s.heap H locs) {U : State} (hU : U.heap = H) (hW : s.WarmedH U.vm) : kb_PR l E N H.size g U := by
  refine ⟨by rw [hU], ⟨by rw [hU]; exact h1.1, kb_D_T h1.2⟩, va_K.moved hW.alike C.2.2.2.2.2.2.2.1, ?_⟩
  refine C.2.2.2.2.2.2.2.2.2.go hW ?_ ?_
  · intro a ha hn
    rw [hU]
    exact h2.2.1 a ha hn
  · intro q h
    rcases h with ⟨n, hn, rfl⟩ | h
    · exact h1.2.2 n _ (kb_W_at hn)
    · exact C.2.2.2.2.2.2.2.2.1 q (Nat.le_trans h2.1 h)
theorem kb_call {mc ms : Nat} {rest st0 : List Value} {a : Array Value} (C : kb_C l E A cc nL own Ts ret p s m args meth c)
    (hr : ∀ (H : Heap) (locs : List Loc) (ls : Array Slot), kb_HW E A N g H → va_S A s.heap H locs → kb_L ls nL lv → va_Run p l e R s m args below meth c H locs cells slots mc ms (F0 m pc ls st0) rest (kb_Qc E N H.size post a) (kb_A E N H.size))
    (K : ∀ (v : Option Value) (g' : Nat → va_E), post v g' → kb_G p l e R s m args below meth c E A N nL g' (cells + mc) (slots + ms) Q (pc + 3) lv (v.toList ++ rest)) : kb_G p l e R s m args below meth c E A N nL g cells slots Q pc lv st0 := by
  intro H locs ls h1 h2 h3 T hT X
  obtain ⟨v, st₀, t, T', L, h0, X', hL, e1, e2, ⟨v', g', hv, hp, hHW, hF⟩, go⟩ := hr H locs ls h1 h2 h3 T hT X
  cases hv
  have hz : H.size ≤ T'.heap.size := by rw [e1, ← h0]; exact hF.1
  have hk : ∀ q : Nat, q < H.size → ¬ kb_A E N H.size q → T'.heap[q]? = H[q]? := fun q a b => by rw [e1, ← h0]; exact hF.2 q (by rw [h0]; exact a) b
  obtain ⟨t2, a1, b1⟩ := K v g' hp T'.heap (locs ++ L) ls ⟨by rw [e1]; exact hHW.1, kb_D_any h1.2⟩ (kb_SF h1.2 C.2.2.2.2.2.2.2.2.1 h2 hz hk hL) h3 T' rfl X'
  exact ⟨t2, go t2 a1, b1⟩
theorem kb_callX {mc ms : Nat} {rest st0 : List Value} {a : Array Value} (C : kb_C l E A cc nL own Ts ret p s m args meth c)
    (hr : ∀ (H : Heap) (locs : List Loc) (ls : Array Slot), kb_HW E A N g H → va_S A s.heap H locs → kb_L ls nL lv → vx_Run p l e R s m args below meth c H locs cells slots mc ms (F0 m pc ls st0) rest (kb_Qc E N H.size post a) (kb_XC E N H.size g thr) (kb_A E N H.size))
    (K : ∀ (v : Option Value) (g' : Nat → va_E), post v g' → kb_G p l e R s m args below meth c E A N nL g' (cells + mc) (slots + ms) Q (pc + 3) lv (v.toList ++ rest))
    (KX : ∀ (X : String) (ce : Cell) (q : Addr) (H : Heap) (locs : List Loc) (ls : Array Slot), thr X → kb_HW E A N g H → va_S A s.heap H locs → kb_L ls nL lv → H[q]? = some ce → ce.vm = .none → s.vm.findClass X = some ce.cls → vx_W p l e R s m args below meth c H locs (cells + mc) (slots + ms) Q (F0 m pc ls rest) q) : kb_G p l e R s m args below meth c E A N nL g cells slots Q pc lv st0 := by
  intro H locs ls h1 h2 h3 T hT X
  rcases hr H locs ls h1 h2 h3 T hT X with ⟨v, st₀, t, T', L, h0, X', hL, e1, e2, ⟨v', g', hv, hp, hHW, hF⟩, go⟩ | ⟨q, st₀, t, T', L, X9, ce, h0, X', hL, e1, e2, ⟨ht, hHW, hF⟩, hce, hcv, hcl, go⟩
  · cases hv
    have hz : H.size ≤ T'.heap.size := by rw [e1, ← h0]; exact hF.1
    have hk : ∀ q : Nat, q < H.size → ¬ kb_A E N H.size q → T'.heap[q]? = H[q]? := fun q a b => by rw [e1, ← h0]; exact hF.2 q (by rw [h0]; exact a) b
    obtain ⟨t2, a1, b1⟩ := K v g' hp T'.heap (locs ++ L) ls ⟨by rw [e1]; exact hHW.1, kb_D_any h1.2⟩ (kb_SF h1.2 C.2.2.2.2.2.2.2.2.1 h2 hz hk hL) h3 T' rfl X'
    exact ⟨t2, go t2 a1, b1⟩
  · have hz : H.size ≤ T'.heap.size := by rw [e1, ← h0]; exact hF.1
    have hk : ∀ q : Nat, q < H.size → ¬ kb_A E N H.size q → T'.heap[q]? = H[q]? := fun q a b => by rw [e1, ← h0]; exact hF.2 q (by rw [h0]; exact a) b
    obtain ⟨t2, a1, b1⟩ := KX X9 ce q T'.heap (locs ++ L) ls ht ⟨by rw [e1]; exact hHW.1, kb_D_any h1.2⟩ (kb_SF h1.2 C.2.2.2.2.2.2.2.2.1 h2 hz hk hL) h3 (by rw [e1]; exact hce) hcv hcl T' rfl X'
    exact ⟨t2, go.trans a1, b1⟩
theorem q_callS {y : MethodName} {nA : Nat} {ws ws' : List Cond} {rm0 : Room} {bytes : ByteArray} {maxL index : Nat} {rt : Option FieldType} {As rest : List Value} (C : kb_C l E A cc nL own Ts ret p s m args meth c) (hd : decode cc pc = .ok (.invokestatic index, 3)) (hM : kb_Met l E N y ws rm0 As g post) (hG : GoodIn Ts (va_wsS own index y ws)) (hw : ws = Cond.code y bytes maxL rt :: ws')
    (hy : y.cls ≠ "java/lang/invoke/MethodHandle" ∧ y.cls ≠ "java/lang/invoke/VarHandle" ∧ (parseMethodDescriptor y.desc).map (fun d => d.parameters.length) = some nA) (hlen : As.length = nA) (hR : rm0.frames + 1 ≤ R.frames ∧ 8 + (maxL + 11) + rm0.locals ≤ R.locals) (hW : (rest.map fun v => v.category).sum ≤ 8) (hf : cells + rm0.cells ≤ R.cells ∧ slots + rm0.slots ≤ R.slots)
    (K : ∀ (v : Option Value) (g' : Nat → va_E), post v g' → kb_G p l e R s m args below meth c E A N nL g' (cells + rm0.cells) (slots + rm0.slots) Q (pc + 3) lv (v.toList ++ rest)) : kb_G p l e R s m args below meth c E A N nL g cells slots Q pc lv (As.reverse ++ rest) :=
  kb_call C (fun H locs ls h1 h2 h3 => va_runS (As := As) (rest := rest) ⟨C.1, C.2.1, C.2.2.1, C.2.2.2.1, C.2.2.2.2.1⟩ (hM H.size) (va_cwS nA C.2.2.2.2.1 hG hw rfl rfl hy hR) ⟨kb_blind, fun U hU hWm => ⟨rfl, kb_pre C h1 h2 hU hWm⟩⟩ rfl hlen h3.1 rfl (lv_room hW) hd hf) K
theorem q_callSN {y : MethodName} {nA : Nat} {ws ws' : List Cond} {rm0 : Room} {bytes : ByteArray} {maxL index : Nat} {rt : Option FieldType} {host : String} {As rest : List Value} (C : kb_C l E A cc nL own Ts ret p s m args meth c) (hd : decode cc pc = .ok (.invokestatic index, 3)) (hM : kb_Met l E N y ws rm0 As g post) (hG : GoodIn Ts ws) (hw : ws = Cond.code y bytes maxL rt :: ws') (hl : (own, index, y, host) ∈ kb_nestM) (hi : Cond.initialized y.cls ∈ Ts) (hs : Cond.static y ∈ Ts)
    (hy : y.cls ≠ "java/lang/invoke/MethodHandle" ∧ y.cls ≠ "java/lang/invoke/VarHandle" ∧ (parseMethodDescriptor y.desc).map (fun d => d.parameters.length) = some nA) (hlen : As.length = nA) (hR : rm0.frames + 1 ≤ R.frames ∧ 8 + (maxL + 11) + rm0.locals ≤ R.locals) (hW : (rest.map fun v => v.category).sum ≤ 8) (hf : cells + rm0.cells ≤ R.cells ∧ slots + rm0.slots ≤ R.slots)
    (K : ∀ (v : Option Value) (g' : Nat → va_E), post v g' → kb_G p l e R s m args below meth c E A N nL g' (cells + rm0.cells) (slots + rm0.slots) Q (pc + 3) lv (v.toList ++ rest)) : kb_G p l e R s m args below meth c E A N nL g cells slots Q pc lv (As.reverse ++ rest) :=
  kb_call C (fun H locs ls h1 h2 h3 => va_runSN (As := As) (rest := rest) ⟨C.1, C.2.1, C.2.2.1, C.2.2.2.1, C.2.2.2.2.1⟩ (hM H.size) ⟨va_cnB nA C.2.2.2.2.1 hG hw rfl rfl (C.2.2.2.2.2.2.2.2.2.2.1 _ hl) (C.2.2.2.2.1 _ hi) hy hR, C.2.2.2.2.1 _ hs, trivial⟩ ⟨kb_blind, fun U hU hWm => ⟨rfl, kb_pre C h1 h2 hU hWm⟩⟩ rfl hlen h3.1 rfl (lv_room hW) hd hf) K
theorem q_callV {y : MethodName} {nA : Nat} {ws ws' : List Cond} {rm0 : Room} {bytes : ByteArray} {maxL index n ci NF : Nat} {T : u_T} {rt : Option FieldType} {fs : List Value} {As rest : List Value} (C : kb_C l E A cc nL own Ts ret p s m args meth c) (hd : decode cc pc = .ok (.invokevirtual index, 3)) (hn : n < N) (hg : g n = .inr (ci, fs)) (hc : vwCl[ci]? = some (y.cls, T, NF)) (hM : kb_Met l E N y ws rm0 (.ref (E.2.2.2 n) :: As) g post) (hG : GoodIn Ts (wsV own index y.cls y ws)) (hw : ws = Cond.code y bytes maxL rt :: ws')
    (hy : y.cls ≠ "java/lang/invoke/MethodHandle" ∧ y.cls ≠ "java/lang/invoke/VarHandle" ∧ (parseMethodDescriptor y.desc).map (fun d => d.parameters.length) = some nA) (hlen : As.length = nA) (hR : rm0.frames + 1 ≤ R.frames ∧ 8 + (maxL + 11) + rm0.locals ≤ R.locals) (hW : (rest.map fun v => v.category).sum ≤ 8) (hf : cells + rm0.cells ≤ R.cells ∧ slots + rm0.slots ≤ R.slots)
    (K : ∀ (v : Option Value) (g' : Nat → va_E), post v g' → kb_G p l e R s m args below meth c E A N nL g' (cells + rm0.cells) (slots + rm0.slots) Q (pc + 3) lv (v.toList ++ rest)) : kb_G p l e R s m args below meth c E A N nL g cells slots Q pc lv (As.reverse ++ .ref (E.2.2.2 n) :: rest) :=
  kb_call C (fun H locs ls h1 h2 h3 => va_runV (As := As) (rest := rest) ⟨C.1, C.2.1, C.2.2.1, C.2.2.2.1, C.2.2.2.2.1⟩ (hM H.size) (cwV nA C.2.2.2.2.1 hG hw rfl rfl ⟨rfl, hy⟩ hR) ⟨kb_blind, va_recv C.2.2.2.2.2.2.2.1 h1.1 hc ((kb_W_at hn).trans (by rw [hg])), fun U hU hWm => ⟨rfl, kb_pre C h1 h2 hU hWm⟩⟩ rfl hlen h3.1 rfl (lv_room hW) hd hf) K
/-- a static call that may throw, in a body that catches nothing -/
theorem q_callSX {y : MethodName} {nA : Nat} {ws ws' : List Cond} {rm0 : Room} {bytes : ByteArray} {maxL index mc ms : Nat} {rt : Option FieldType} {As rest : List Value} {thr0 : String → Prop} {Qc : Array Value → State → Outcome → State → Prop} (C : kb_C l E (kb_A E N s.heap.size) cc nL own Ts ret p s m args meth c) (hx : ∀ x ∈ c.exceptionTable.toList, False) (hd : decode cc pc = .ok (.invokestatic index, 3)) (hM : kb_MetX l E N y ws rm0 As g post thr0) (hG : GoodIn Ts (va_wsS own index y ws)) (hw : ws = Cond.code y bytes maxL rt :: ws')
    (hy : y.cls ≠ "java/lang/invoke/MethodHandle" ∧ y.cls ≠ "java/lang/invoke/VarHandle" ∧ (parseMethodDescriptor y.desc).map (fun d => d.parameters.length) = some nA) (hlen : As.length = nA) (hR : rm0.frames + 1 ≤ R.frames ∧ 8 + (maxL + 11) + rm0.locals ≤ R.locals) (hW : (rest.map fun v => v.category).sum ≤ 8) (hf : cells + rm0.cells ≤ R.cells ∧ slots + rm0.slots ≤ R.slots) (hcm : cells + rm0.cells ≤ mc ∧ slots + rm0.slots ≤ ms) (hthr : ∀ X, thr0 X → thr X)
    (K : ∀ (v : Option Value) (g' : Nat → va_E), post v g' → kb_G p l e R s m args below meth c E (kb_A E N s.heap.size) N nL g' (cells + rm0.cells) (slots + rm0.slots) (vx_MQ below Qc (kb_XC E N s.heap.size g thr) args s mc ms (kb_A E N s.heap.size)) (pc + 3) lv (v.toList ++ rest)) : kb_G p l e R s m args below meth c E (kb_A E N s.heap.size) N nL g cells slots (vx_MQ below Qc (kb_XC E N s.heap.size g thr) args s mc ms (kb_A E N s.heap.size)) pc lv (As.reverse ++ rest) :=
  kb_callX C (fun H locs ls h1 h2 h3 => vx_runS (As := As) (rest := rest) ⟨C.1, C.2.1, C.2.2.1, C.2.2.2.1, C.2.2.2.2.1⟩ (hM H.size) (va_cwS nA C.2.2.2.2.1 hG hw rfl rfl hy hR) ⟨kb_blind, fun U hU hWm => ⟨rfl, kb_pre C h1 h2 hU hWm⟩⟩ rfl hlen h3.1 rfl (lv_room hW) hd hf) K
    (fun X ce q H locs ls ht h1 h2 h3 hce hcv hcl => vx_out (fun x hxx => (hx x hxx).elim) C.2.2.2.2.2.2.1 hce hcv hcl (fun t ht9 _ => ⟨hthr X ht, by rw [ht9]; exact ⟨h1.1, kb_D_T h1.2⟩, h2.F ht9⟩) h2.2.2 hcm.1 hcm.2)
theorem q_callVX {y : MethodName} {nA : Nat} {ws ws' : List Cond} {rm0 : Room} {bytes : ByteArray} {maxL index mc ms n ci NF : Nat} {T : u_T} {rt : Option FieldType} {fs : List Value} {As rest : List Value} {thr0 : String → Prop} {Qc : Array Value → State → Outcome → State → Prop} (C : kb_C l E (kb_A E N s.heap.size) cc nL own Ts ret p s m args meth c) (hx : ∀ x ∈ c.exceptionTable.toList, False) (hd : decode cc pc = .ok (.invokevirtual index, 3)) (hn : n < N) (hg : g n = .inr (ci, fs)) (hc : vwCl[ci]? = some (y.cls, T, NF)) (hM : kb_MetX l E N y ws rm0 (.ref (E.2.2.2 n) :: As) g post thr0) (hG : GoodIn Ts (wsV own index y.cls y ws)) (hw : ws = Cond.code y bytes maxL rt :: ws')
    (hy : y.cls ≠ "java/lang/invoke/MethodHandle" ∧ y.cls ≠ "java/lang/invoke/VarHandle" ∧ (parseMethodDescriptor y.desc).map (fun d => d.parameters.length) = some nA) (hlen : As.length = nA) (hR : rm0.frames + 1 ≤ R.frames ∧ 8 + (maxL + 11) + rm0.locals ≤ R.locals) (hW : (rest.map fun v => v.category).sum ≤ 8) (hf : cells + rm0.cells ≤ R.cells ∧ slots + rm0.slots ≤ R.slots) (hcm : cells + rm0.cells ≤ mc ∧ slots + rm0.slots ≤ ms) (hthr : ∀ X, thr0 X → thr X)
    (K : ∀ (v : Option Value) (g' : Nat → va_E), post v g' → kb_G p l e R s m args below meth c E (kb_A E N s.heap.size) N nL g' (cells + rm0.cells) (slots + rm0.slots) (vx_MQ below Qc (kb_XC E N s.heap.size g thr) args s mc ms (kb_A E N s.heap.size)) (pc + 3) lv (v.toList ++ rest)) : kb_G p l e R s m args below meth c E (kb_A E N s.heap.size) N nL g cells slots (vx_MQ below Qc (kb_XC E N s.heap.size g thr) args s mc ms (kb_A E N s.heap.size)) pc lv (As.reverse ++ .ref (E.2.2.2 n) :: rest) :=
  kb_callX C (fun H locs ls h1 h2 h3 => vx_runV (As := As) (rest := rest) ⟨C.1, C.2.1, C.2.2.1, C.2.2.2.1, C.2.2.2.2.1⟩ (hM H.size) (cwV nA C.2.2.2.2.1 hG hw rfl rfl ⟨rfl, hy⟩ hR) ⟨kb_blind, va_recv C.2.2.2.2.2.2.2.1 h1.1 hc ((kb_W_at hn).trans (by rw [hg])), fun U hU hWm => ⟨rfl, kb_pre C h1 h2 hU hWm⟩⟩ rfl hlen h3.1 rfl (lv_room hW) hd hf) K
    (fun X ce q H locs ls ht h1 h2 h3 hce hcv hcl => vx_out (fun x hxx => (hx x hxx).elim) C.2.2.2.2.2.2.1 hce hcv hcl (fun t ht9 _ => ⟨hthr X ht, by rw [ht9]; exact ⟨h1.1, kb_D_T h1.2⟩, h2.F ht9⟩) h2.2.2 hcm.1 hcm.2)
end KBX

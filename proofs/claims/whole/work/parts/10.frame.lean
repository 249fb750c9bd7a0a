/-! ===== the frame of all walks: the world as cells by number, locals as a list, rows of one instruction each ===== -/
/-- the numbers that are fixed for a run: class ids, slots, array classes, and the address of each numbered cell -/
abbrev kb_E : Type := (Nat → ClassId) × (Nat → Nat → Nat) × (Nat → ClassId) × (Nat → Nat)
abbrev kb_D (E : kb_E) : va_G := (E.1, E.2.1)
abbrev kb_cy (E : kb_E) : Nat → ClassId := E.2.2.1
abbrev kb_ad (E : kb_E) : Nat → Nat := E.2.2.2
def kb_tys (E : kb_E) : List (ClassId × FieldType) := [(E.2.2.1 0, .int), (E.2.2.1 1, .long), (E.2.2.1 2, .boolean), (E.2.2.1 3, .object RX0), (E.2.2.1 4, .object RX2), (E.2.2.1 5, .object RX3)]
/-- the first N cells, with contents g -/
def kb_W (E : kb_E) (N : Nat) (g : Nat → va_E) : va_W := (List.range N).map (fun n => (E.2.2.2 n, g n))
theorem kb_W_at {E : kb_E} {N : Nat} {g : Nat → va_E} {n : Nat} (h : n < N) : (kb_W E N g)[n]? = some (E.2.2.2 n, g n) := by
  simp [kb_W, h]
theorem kb_W_set {E : kb_E} {N : Nat} {g : Nat → va_E} {n : Nat} (e : va_E) (_h : n < N) : (kb_W E N g).set n (E.2.2.2 n, e) = kb_W E N (va_up g n e) := by
  apply List.ext_getElem?
  intro k
  by_cases hk : k < N
  · rw [kb_W_at hk, List.getElem?_set]
    by_cases hn : n = k
    · subst hn
      simp [kb_W, va_up, hk]
    · rw [if_neg hn, kb_W_at hk]
      simp [va_up, Ne.symm hn]
  · have h1 : ((kb_W E N g).set n (E.2.2.2 n, e)).length ≤ k := by simp [kb_W]; omega
    have h2 : (kb_W E N (va_up g n e)).length ≤ k := by simp [kb_W]; omega
    rw [List.getElem?_eq_none h1, List.getElem?_eq_none h2]
def kb_HW (E : kb_E) (A : Nat → Prop) (N : Nat) (g : Nat → va_E) (H : Heap) : Prop := va_P (kb_D E) vwCl (kb_W E N g) H ∧ va_D A (kb_W E N g)
/-- the addresses that a method may write: its cells, and what is new -/
def kb_A (E : kb_E) (N sz : Nat) : Nat → Prop := fun q => (∃ n, n < N ∧ q = E.2.2.2 n) ∨ sz ≤ q
/-- locals: what each place holds, as far as it is known -/
def kb_L (ls : Array Slot) (nL : Nat) (lv : List (Option Value)) : Prop := ls.size = nL ∧ lv_wf ls ∧ ∀ (i : Nat) (v : Value), lv[i]? = some (some v) → ls[i]? = some (.val v)
def kb_tl (lv : List (Option Value)) : List (Nat × Value) := (List.range lv.length).filterMap (fun i => (lv[i]?.join).map (fun v => (i, v)))
theorem kb_tl_mem {lv : List (Option Value)} {j : Nat} {w : Value} : (j, w) ∈ kb_tl lv ↔ lv[j]? = some (some w) := by
  unfold kb_tl
  constructor
  · intro h
    obtain ⟨i, hi, h⟩ := List.mem_filterMap.mp h
    cases h1 : lv[i]? with
    | none => rw [h1] at h; cases h
    | some o =>
      cases o with
      | none => rw [h1] at h; cases h
      | some v =>
        rw [h1] at h
        cases h
        exact h1
  · intro h
    refine List.mem_filterMap.mpr ⟨j, List.mem_range.mpr ?_, by rw [h]; rfl⟩
    exact (List.getElem?_eq_some_iff.mp h).1
theorem kb_L.has {ls : Array Slot} {nL : Nat} {lv : List (Option Value)} (h : kb_L ls nL lv) : lv_has ls nL (kb_tl lv) := ⟨h.1, h.2.1, fun q hq => h.2.2 q.1 q.2 (kb_tl_mem.mp hq)⟩
theorem kb_L.of {ls : Array Slot} {nL : Nat} {l : List (Nat × Value)} {lv : List (Option Value)} (h : lv_has ls nL l) (hl : ∀ (i : Nat) (v : Value), lv[i]? = some (some v) → (i, v) ∈ l) : kb_L ls nL lv := ⟨h.1, h.2.1, fun i v hi => h.2.2 (i, v) (hl i v hi)⟩
/-- storing a value of one slot at i is plain if no long stands right ahead -/
def kb_ok1 (lv : List (Option Value)) (i : Nat) : Bool := match i with
  | 0 => true
  | k + 1 => match lv[k]? with
    | some (some v) => v.category == 1
    | _ => true
theorem kb_L.set1 {ls : Array Slot} {nL : Nat} {lv : List (Option Value)} {i : Nat} {v : Value} (hok : kb_ok1 lv i = true)
    (h : lv_has ls nL ((i, v) :: (kb_tl lv).filter (fun q => !(q.1 == i) && !(q.1 + 1 == i && q.2.category == 2)))) : kb_L ls nL (lv.set i (some v)) := by
  refine kb_L.of h (fun j w hj => ?_)
  rw [List.getElem?_set] at hj
  by_cases hji : i = j
  · subst hji
    rw [if_pos rfl] at hj
    split at hj
    · cases hj
      exact List.mem_cons_self
    · cases hj
  · rw [if_neg hji] at hj
    refine List.mem_cons_of_mem _ (List.mem_filter.mpr ⟨kb_tl_mem.mpr hj, ?_⟩)
    have h1 : (j == i) = false := by simp; omega
    rw [h1]
    by_cases h2 : j + 1 = i
    · subst h2
      have h3 : w.category = 1 := by
        simp only [kb_ok1, hj] at hok
        simpa using hok
      simp [h3]
    · simp [h2]
def kb_st2 (lv : List (Option Value)) (i : Nat) (v : Value) : List (Option Value) := (lv.set i (some v)).set (i + 1) none
theorem kb_L.set2 {ls : Array Slot} {nL : Nat} {lv : List (Option Value)} {i : Nat} {v : Value} (hok : kb_ok1 lv i = true)
    (h : lv_has ls nL ((i, v) :: (kb_tl lv).filter (fun q => !(q.1 == i) && (!(q.1 == i + 1) && !(q.1 + 1 == i && q.2.category == 2))))) : kb_L ls nL (kb_st2 lv i v) := by
  refine kb_L.of h (fun j w hj => ?_)
  unfold kb_st2 at hj
  rw [List.getElem?_set] at hj
  by_cases hj1 : i + 1 = j
  · subst hj1
    rw [if_pos rfl] at hj
    split at hj <;> cases hj
  rw [if_neg hj1, List.getElem?_set] at hj
  by_cases hji : i = j
  · subst hji
    rw [if_pos rfl] at hj
    split at hj
    · cases hj
      exact List.mem_cons_self
    · cases hj
  · rw [if_neg hji] at hj
    refine List.mem_cons_of_mem _ (List.mem_filter.mpr ⟨kb_tl_mem.mpr hj, ?_⟩)
    have h1 : (j == i) = false := by simp; omega
    have h1' : (j == i + 1) = false := by simp; omega
    rw [h1, h1']
    by_cases h2 : j + 1 = i
    · subst h2
      have h3 : w.category = 1 := by
        simp only [kb_ok1, hj] at hok
        simpa using hok
      simp [h3]
    · simp [h2]

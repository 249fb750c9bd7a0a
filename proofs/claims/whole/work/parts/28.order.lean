/-! ===== no way of standing of six threads needs more than six repetitions to come home ===== -/
def kb_it (f : Nat → Nat) : Nat → Nat → Nat
  | 0, p => p
  | t + 1, p => kb_it f t (f p)
theorem kb_it_succ (f : Nat → Nat) : ∀ t p, kb_it f (t + 1) p = f (kb_it f t p)
  | 0, _ => rfl
  | t + 1, p => by
    show kb_it f (t + 1) (f p) = f (kb_it f t (f p))
    exact kb_it_succ f t (f p)
theorem kb_it_lt {f : Nat → Nat} {n : Nat} (h : ∀ j, j < n → f j < n) : ∀ t p, p < n → kb_it f t p < n
  | 0, _, hp => hp
  | t + 1, p, hp => kb_it_lt h t (f p) (h p hp)
theorem kb_it_congr {f g : Nat → Nat} {n : Nat} (hf : ∀ j, j < n → f j < n) (h : ∀ j, j < n → f j = g j) : ∀ t p, p < n → kb_it f t p = kb_it g t p
  | 0, _, _ => rfl
  | t + 1, p, hp => by
    show kb_it f t (f p) = kb_it g t (g p)
    rw [← h p hp]
    exact kb_it_congr hf h t (f p) (hf p hp)
def kb_l6 (a b c d e f : Nat) (p : Nat) : Nat := if p = 0 then a else if p = 1 then b else if p = 2 then c else if p = 3 then d else if p = 4 then e else f
def kb_hm (g : Nat → Nat) (T : Nat) : Bool := kb_it g T 0 == 0 && (kb_it g T 1 == 1 && (kb_it g T 2 == 2 && (kb_it g T 3 == 3 && (kb_it g T 4 == 4 && kb_it g T 5 == 5))))
def kb_c6 (a b c d e f : Nat) : Bool := kb_hm (kb_l6 a b c d e f) 1 || kb_hm (kb_l6 a b c d e f) 2 || kb_hm (kb_l6 a b c d e f) 3 || kb_hm (kb_l6 a b c d e f) 4 || kb_hm (kb_l6 a b c d e f) 5 || kb_hm (kb_l6 a b c d e f) 6
def kb_all6 : Bool := (List.range 6).all fun a => (List.range 6).all fun b => b == a || (List.range 6).all fun c => (c == a || c == b) || (List.range 6).all fun d => (d == a || d == b || d == c) || (List.range 6).all fun e => (e == a || e == b || e == c || e == d) || (List.range 6).all fun f => (f == a || f == b || f == c || f == d || f == e) || kb_c6 a b c d e f
theorem kb_all6_ok : kb_all6 = true := by decide +kernel
theorem kb_order6 {g : Nat → Nat} (h : kb_perm 6 g) : ∃ T, 1 ≤ T ∧ T ≤ 6 ∧ ∀ p, p < 6 → kb_it g T p = p := by
  have h0 := h.1 0 (by decide)
  have h1 := h.1 1 (by decide)
  have h2 := h.1 2 (by decide)
  have h3 := h.1 3 (by decide)
  have h4 := h.1 4 (by decide)
  have h5 := h.1 5 (by decide)
  have ne : ∀ i j, i < 6 → j < 6 → i ≠ j → (g i == g j) = false := by
    intro i j hi hj hij
    simp only [beq_eq_false_iff_ne]
    exact fun e => hij (h.2 i j hi hj e)
  have a0 := List.all_eq_true.mp kb_all6_ok (g 0) (List.mem_range.mpr h0)
  have a1 := List.all_eq_true.mp a0 (g 1) (List.mem_range.mpr h1)
  rw [ne 1 0 (by decide) (by decide) (by decide), Bool.false_or] at a1
  have a2 := List.all_eq_true.mp a1 (g 2) (List.mem_range.mpr h2)
  rw [ne 2 0 (by decide) (by decide) (by decide), ne 2 1 (by decide) (by decide) (by decide), Bool.false_or, Bool.false_or] at a2
  have a3 := List.all_eq_true.mp a2 (g 3) (List.mem_range.mpr h3)
  rw [ne 3 0 (by decide) (by decide) (by decide), ne 3 1 (by decide) (by decide) (by decide), ne 3 2 (by decide) (by decide) (by decide)] at a3
  simp only [Bool.false_or] at a3
  have a4 := List.all_eq_true.mp a3 (g 4) (List.mem_range.mpr h4)
  rw [ne 4 0 (by decide) (by decide) (by decide), ne 4 1 (by decide) (by decide) (by decide), ne 4 2 (by decide) (by decide) (by decide), ne 4 3 (by decide) (by decide) (by decide)] at a4
  simp only [Bool.false_or] at a4
  have a5 := List.all_eq_true.mp a4 (g 5) (List.mem_range.mpr h5)
  rw [ne 5 0 (by decide) (by decide) (by decide), ne 5 1 (by decide) (by decide) (by decide), ne 5 2 (by decide) (by decide) (by decide), ne 5 3 (by decide) (by decide) (by decide), ne 5 4 (by decide) (by decide) (by decide)] at a5
  simp only [Bool.false_or] at a5
  have hg : ∀ j, j < 6 → g j = kb_l6 (g 0) (g 1) (g 2) (g 3) (g 4) (g 5) j := by
    intro j hj
    rcases (show j = 0 ∨ j = 1 ∨ j = 2 ∨ j = 3 ∨ j = 4 ∨ j = 5 by omega) with rfl | rfl | rfl | rfl | rfl | rfl <;> rfl
  have key : ∀ T, kb_hm (kb_l6 (g 0) (g 1) (g 2) (g 3) (g 4) (g 5)) T = true → ∀ p, p < 6 → kb_it g T p = p := by
    intro T hT p hp
    rw [kb_it_congr h.1 hg T p hp]
    simp only [kb_hm, Bool.and_eq_true, beq_iff_eq] at hT
    obtain ⟨q0, q1, q2, q3, q4, q5⟩ := hT
    rcases (show p = 0 ∨ p = 1 ∨ p = 2 ∨ p = 3 ∨ p = 4 ∨ p = 5 by omega) with rfl | rfl | rfl | rfl | rfl | rfl <;> assumption
  simp only [kb_c6, Bool.or_eq_true] at a5
  rcases a5 with ((((q | q) | q) | q) | q) | q
  · exact ⟨1, by decide, by decide, key 1 q⟩
  · exact ⟨2, by decide, by decide, key 2 q⟩
  · exact ⟨3, by decide, by decide, key 3 q⟩
  · exact ⟨4, by decide, by decide, key 4 q⟩
  · exact ⟨5, by decide, by decide, key 5 q⟩
  · exact ⟨6, by decide, by decide, key 6 q⟩
/-- a band whose threads stand by g behind its rows is home after T times: by threads (w = 0) or by colours -/
def kb_home (g : Nat → Nat) (n : Nat) (w : Bool) (col : Nat → Int32) (T : Nat) : Prop := ∀ p, p < n → (if w then col (kb_it g T p) = col p else kb_it g T p = p)
theorem kb_home6 {g : Nat → Nat} (h : kb_perm 6 g) {n : Nat} (hn : n ≤ 6) (w : Bool) (col : Nat → Int32) : ∃ T, 1 ≤ T ∧ T ≤ 6 ∧ kb_home g n w col T := by
  obtain ⟨T, h1, h2, h3⟩ := kb_order6 h
  refine ⟨T, h1, h2, fun p hp => ?_⟩
  rw [h3 p (by omega)]
  split <;> rfl
/-- the least number of times -/
def kb_hmT (g : Nat → Nat) (n : Nat) (w : Bool) (col : Nat → Int32) (T : Nat) : Prop := 1 ≤ T ∧ kb_home g n w col T ∧ ∀ u, 1 ≤ u → u < T → ¬ kb_home g n w col u
theorem kb_hmT_uniq {g : Nat → Nat} {n : Nat} {w : Bool} {col : Nat → Int32} {S T : Nat} (h1 : kb_hmT g n w col S) (h2 : kb_hmT g n w col T) : S = T := by
  rcases Nat.lt_trichotomy S T with q | q | q
  · exact absurd h1.2.1 (h2.2.2 S h1.1 q)
  · exact q
  · exact absurd h2.2.1 (h1.2.2 T h2.1 q)
theorem kb_hmT_le {g : Nat → Nat} (h : kb_perm 6 g) {n : Nat} (hn : n ≤ 6) {w : Bool} {col : Nat → Int32} {t : Nat} (hno : ∀ u, 1 ≤ u → u < t → ¬ kb_home g n w col u) : t ≤ 6 := by
  obtain ⟨T, h1, h2, h3⟩ := kb_home6 h hn w col
  rcases Nat.lt_or_ge T t with q | q
  · exact absurd h3 (hno T h1 q)
  · omega

/-! ===== the small static methods of KnotBand ===== -/
def kb_knotsIn (a b : Int32) : Int32 := (a - (b &&& nI 1)) >>> (nI 1 &&& 31)
set_option maxRecDepth 100000 in
set_option maxHeartbeats 4000000 in
/-- X4.knotsIn -/
theorem m_knotsIn (l : Launch) (E : kb_E) (g : Nat → va_E) (a b : Int32) : kb_Met l E 202 yX4_knotsIn wsX4_knotsIn ({ frames := 0, cells := 0, slots := 0, locals := 0 }) [.int a, .int b] g (fun v g' => v = some (.int (kb_knotsIn a b)) ∧ g' = g) := by
  refine kb_enter (cc := cX4_knotsIn) (maxL := 2) (ret := (some .int)) (by decide +kernel) rfl (by simp [Value.category]) (Nat.le_of_ble_eq_true rfl) ?_
  intro p e s m args below meth c C hini
  refine q_iload_n C dX4_knotsIn_0 rfl ?_
  refine q_iload_n C dX4_knotsIn_1 rfl ?_
  refine q_iconst C (v := nI 1) dX4_knotsIn_2 (by decide) ?_
  refine q_iand C dX4_knotsIn_3 ?_
  refine q_isub C dX4_knotsIn_4 ?_
  refine q_iconst C (v := nI 1) dX4_knotsIn_5 (by decide) ?_
  refine q_ishr C dX4_knotsIn_6 ?_
  exact q_iret C dX4_knotsIn_7 ⟨rfl, rfl⟩
def kb_leftPlaceOf (a b : Int32) : Int32 := nI 2 * b + (a &&& nI 1)
set_option maxRecDepth 100000 in
set_option maxHeartbeats 4000000 in
/-- X4.leftPlaceOf -/
theorem m_leftPlaceOf (l : Launch) (E : kb_E) (g : Nat → va_E) (a b : Int32) : kb_Met l E 202 yX4_leftPlaceOf wsX4_leftPlaceOf ({ frames := 0, cells := 0, slots := 0, locals := 0 }) [.int a, .int b] g (fun v g' => v = some (.int (kb_leftPlaceOf a b)) ∧ g' = g) := by
  refine kb_enter (cc := cX4_leftPlaceOf) (maxL := 2) (ret := (some .int)) (by decide +kernel) rfl (by simp [Value.category]) (Nat.le_of_ble_eq_true rfl) ?_
  intro p e s m args below meth c C hini
  refine q_iconst C (v := nI 2) dX4_leftPlaceOf_0 (by decide) ?_
  refine q_iload_n C dX4_leftPlaceOf_1 rfl ?_
  refine q_imul C dX4_leftPlaceOf_2 ?_
  refine q_iload_n C dX4_leftPlaceOf_3 rfl ?_
  refine q_iconst C (v := nI 1) dX4_leftPlaceOf_4 (by decide) ?_
  refine q_iand C dX4_leftPlaceOf_5 ?_
  refine q_iadd C dX4_leftPlaceOf_6 ?_
  exact q_iret C dX4_leftPlaceOf_7 ⟨rfl, rfl⟩
def kb_spotOf (a b : Int32) : Int32 := nI 3 * a + b
set_option maxRecDepth 100000 in
set_option maxHeartbeats 4000000 in
/-- X4.spotOf -/
theorem m_spotOf (l : Launch) (E : kb_E) (g : Nat → va_E) (a b : Int32) : kb_Met l E 202 yX4_spotOf wsX4_spotOf ({ frames := 0, cells := 0, slots := 0, locals := 0 }) [.int a, .int b] g (fun v g' => v = some (.int (kb_spotOf a b)) ∧ g' = g) := by
  refine kb_enter (cc := cX4_spotOf) (maxL := 2) (ret := (some .int)) (by decide +kernel) rfl (by simp [Value.category]) (Nat.le_of_ble_eq_true rfl) ?_
  intro p e s m args below meth c C hini
  refine q_iconst C (v := nI 3) dX4_spotOf_0 (by decide) ?_
  refine q_iload_n C dX4_spotOf_1 rfl ?_
  refine q_imul C dX4_spotOf_2 ?_
  refine q_iload_n C dX4_spotOf_3 rfl ?_
  refine q_iadd C dX4_spotOf_4 ?_
  exact q_iret C dX4_spotOf_5 ⟨rfl, rfl⟩
def kb_kindIn (a b : Int32) : Int32 := (a >>> ((nI 2 * b) &&& 31)) &&& nI 3
set_option maxRecDepth 100000 in
set_option maxHeartbeats 4000000 in
/-- X4.kindIn -/
theorem m_kindIn (l : Launch) (E : kb_E) (g : Nat → va_E) (a b : Int32) : kb_Met l E 202 yX4_kindIn wsX4_kindIn ({ frames := 0, cells := 0, slots := 0, locals := 0 }) [.int a, .int b] g (fun v g' => v = some (.int (kb_kindIn a b)) ∧ g' = g) := by
  refine kb_enter (cc := cX4_kindIn) (maxL := 2) (ret := (some .int)) (by decide +kernel) rfl (by simp [Value.category]) (Nat.le_of_ble_eq_true rfl) ?_
  intro p e s m args below meth c C hini
  refine q_iload_n C dX4_kindIn_0 rfl ?_
  refine q_iconst C (v := nI 2) dX4_kindIn_1 (by decide) ?_
  refine q_iload_n C dX4_kindIn_2 rfl ?_
  refine q_imul C dX4_kindIn_3 ?_
  refine q_ishr C dX4_kindIn_4 ?_
  refine q_iconst C (v := nI 3) dX4_kindIn_5 (by decide) ?_
  refine q_iand C dX4_kindIn_6 ?_
  exact q_iret C dX4_kindIn_7 ⟨rfl, rfl⟩
def kb_withKind (a b c : Int32) : Int32 := (a &&& ((nI 3 <<< ((nI 2 * b) &&& 31)) ^^^ (-1))) ||| (c <<< ((nI 2 * b) &&& 31))
set_option maxRecDepth 100000 in
set_option maxHeartbeats 4000000 in
/-- X4.withKind -/
theorem m_withKind (l : Launch) (E : kb_E) (g : Nat → va_E) (a b c : Int32) : kb_Met l E 202 yX4_withKind wsX4_withKind ({ frames := 0, cells := 0, slots := 0, locals := 0 }) [.int a, .int b, .int c] g (fun v g' => v = some (.int (kb_withKind a b c)) ∧ g' = g) := by
  refine kb_enter (cc := cX4_withKind) (maxL := 3) (ret := (some .int)) (by decide +kernel) rfl (by simp [Value.category]) (Nat.le_of_ble_eq_true rfl) ?_
  intro p e s m args below meth c C hini
  refine q_iload_n C dX4_withKind_0 rfl ?_
  refine q_iconst C (v := nI 3) dX4_withKind_1 (by decide) ?_
  refine q_iconst C (v := nI 2) dX4_withKind_2 (by decide) ?_
  refine q_iload_n C dX4_withKind_3 rfl ?_
  refine q_imul C dX4_withKind_4 ?_
  refine q_ishl C dX4_withKind_5 ?_
  refine q_iconst C (v := -1) dX4_withKind_6 (by decide) ?_
  refine q_ixor C dX4_withKind_7 ?_
  refine q_iand C dX4_withKind_8 ?_
  refine q_iload_n C dX4_withKind_9 rfl ?_
  refine q_iconst C (v := nI 2) dX4_withKind_10 (by decide) ?_
  refine q_iload_n C dX4_withKind_11 rfl ?_
  refine q_imul C dX4_withKind_12 ?_
  refine q_ishl C dX4_withKind_13 ?_
  refine q_ior C dX4_withKind_14 ?_
  exact q_iret C dX4_withKind_15 ⟨rfl, rfl⟩
def kb_showingPlace (a b : Int32) : Int32 := a + (b &&& nI 1)
set_option maxRecDepth 100000 in
set_option maxHeartbeats 4000000 in
/-- X4.showingPlace -/
theorem m_showingPlace (l : Launch) (E : kb_E) (g : Nat → va_E) (a b : Int32) : kb_Met l E 202 yX4_showingPlace wsX4_showingPlace ({ frames := 0, cells := 0, slots := 0, locals := 0 }) [.int a, .int b] g (fun v g' => v = some (.int (kb_showingPlace a b)) ∧ g' = g) := by
  refine kb_enter (cc := cX4_showingPlace) (maxL := 2) (ret := (some .int)) (by decide +kernel) rfl (by simp [Value.category]) (Nat.le_of_ble_eq_true rfl) ?_
  intro p e s m args below meth c C hini
  refine q_iload_n C dX4_showingPlace_0 rfl ?_
  refine q_iload_n C dX4_showingPlace_1 rfl ?_
  refine q_iconst C (v := nI 1) dX4_showingPlace_2 (by decide) ?_
  refine q_iand C dX4_showingPlace_3 ?_
  refine q_iadd C dX4_showingPlace_4 ?_
  exact q_iret C dX4_showingPlace_5 ⟨rfl, rfl⟩
def kb_bitOf (a : Int32) : Int32 := nI 2 * (nI 5 - a)
set_option maxRecDepth 100000 in
set_option maxHeartbeats 4000000 in
/-- X4.bitOf -/
theorem m_bitOf (l : Launch) (E : kb_E) (g : Nat → va_E) (a : Int32) : kb_Met l E 202 yX4_bitOf wsX4_bitOf ({ frames := 0, cells := 0, slots := 0, locals := 0 }) [.int a] g (fun v g' => v = some (.int (kb_bitOf a)) ∧ g' = g) := by
  refine kb_enter (cc := cX4_bitOf) (maxL := 1) (ret := (some .int)) (by decide +kernel) rfl (by simp [Value.category]) (Nat.le_of_ble_eq_true rfl) ?_
  intro p e s m args below meth c C hini
  refine q_iconst C (v := nI 2) dX4_bitOf_0 (by decide) ?_
  refine q_iconst C (v := nI 5) dX4_bitOf_1 (by decide) ?_
  refine q_iload_n C dX4_bitOf_2 rfl ?_
  refine q_isub C dX4_bitOf_3 ?_
  refine q_imul C dX4_bitOf_4 ?_
  exact q_iret C dX4_bitOf_5 ⟨rfl, rfl⟩
def kb_colourIn (a b : Int32) : Int32 := (a >>> (kb_bitOf b &&& 31)) &&& nI 3
set_option maxRecDepth 100000 in
set_option maxHeartbeats 4000000 in
/-- X4.colourIn -/
theorem m_colourIn (l : Launch) (E : kb_E) (g : Nat → va_E) (a b : Int32) : kb_Met l E 202 yX4_colourIn wsX4_colourIn ({ frames := 1, cells := 0, slots := 0, locals := 20 }) [.int a, .int b] g (fun v g' => v = some (.int (kb_colourIn a b)) ∧ g' = g) := by
  refine kb_enter (cc := cX4_colourIn) (maxL := 2) (ret := (some .int)) (by decide +kernel) rfl (by simp [Value.category]) (Nat.le_of_ble_eq_true rfl) ?_
  intro p e s m args below meth c C hini
  refine q_iload_n C dX4_colourIn_0 rfl ?_
  refine q_iload_n C dX4_colourIn_1 rfl ?_
  refine q_callS (As := [_]) (nA := 1) C dX4_colourIn_2 (m_bitOf _ _ _ _) gX4_colourIn_X4_bitOf rfl (by decide +kernel) rfl ⟨Nat.le_of_ble_eq_true rfl, Nat.le_of_ble_eq_true rfl⟩ (Nat.le_of_ble_eq_true rfl) ⟨Nat.le_of_ble_eq_true rfl, Nat.le_of_ble_eq_true rfl⟩ (fun v2 g2 h2 => ?_)
  obtain ⟨rfl, rfl⟩ := h2
  refine q_ishr C dX4_colourIn_5 ?_
  refine q_iconst C (v := nI 3) dX4_colourIn_6 (by decide) ?_
  refine q_iand C dX4_colourIn_7 ?_
  exact q_iret C dX4_colourIn_8 ⟨rfl, rfl⟩
def kb_xu (a b : Int32) : Int32 := ((a >>> (b &&& 31)) ^^^ (a >>> ((b + nI 2) &&& 31))) &&& nI 3
def kb_exchanged (a b : Int32) : Int32 := (a ^^^ (kb_xu a b <<< (b &&& 31))) ^^^ (kb_xu a b <<< ((b + nI 2) &&& 31))
set_option maxRecDepth 100000 in
set_option maxHeartbeats 4000000 in
/-- X4.exchanged -/
theorem m_exchanged (l : Launch) (E : kb_E) (g : Nat → va_E) (a b : Int32) : kb_Met l E 202 yX4_exchanged wsX4_exchanged ({ frames := 0, cells := 0, slots := 0, locals := 0 }) [.int a, .int b] g (fun v g' => v = some (.int (kb_exchanged a b)) ∧ g' = g) := by
  refine kb_enter (cc := cX4_exchanged) (maxL := 3) (ret := (some .int)) (by decide +kernel) rfl (by simp [Value.category]) (Nat.le_of_ble_eq_true rfl) ?_
  intro p e s m args below meth c C hini
  refine q_iload_n C dX4_exchanged_0 rfl ?_
  refine q_iload_n C dX4_exchanged_1 rfl ?_
  refine q_ishr C dX4_exchanged_2 ?_
  refine q_iload_n C dX4_exchanged_3 rfl ?_
  refine q_iload_n C dX4_exchanged_4 rfl ?_
  refine q_iconst C (v := nI 2) dX4_exchanged_5 (by decide) ?_
  refine q_iadd C dX4_exchanged_6 ?_
  refine q_ishr C dX4_exchanged_7 ?_
  refine q_ixor C dX4_exchanged_8 ?_
  refine q_iconst C (v := nI 3) dX4_exchanged_9 (by decide) ?_
  refine q_iand C dX4_exchanged_10 ?_
  refine q_istore_n C dX4_exchanged_11 (by decide) rfl ?_
  refine q_iload_n C dX4_exchanged_12 rfl ?_
  refine q_iload_n C dX4_exchanged_13 rfl ?_
  refine q_iload_n C dX4_exchanged_14 rfl ?_
  refine q_ishl C dX4_exchanged_15 ?_
  refine q_ixor C dX4_exchanged_16 ?_
  refine q_iload_n C dX4_exchanged_17 rfl ?_
  refine q_iload_n C dX4_exchanged_18 rfl ?_
  refine q_iconst C (v := nI 2) dX4_exchanged_19 (by decide) ?_
  refine q_iadd C dX4_exchanged_20 ?_
  refine q_ishl C dX4_exchanged_21 ?_
  refine q_ixor C dX4_exchanged_22 ?_
  exact q_iret C dX4_exchanged_23 ⟨rfl, rfl⟩
theorem fa_of_nlt9 {a b : Int32} (h : ¬ a < b) : b ≤ a := by rw [Int32.le_iff_toInt_le]; rw [Int32.lt_iff_toInt_lt] at h; omega
theorem fa_nle9 {a b : Int32} (h : a < b) : ¬ b ≤ a := by rw [Int32.le_iff_toInt_le]; rw [Int32.lt_iff_toInt_lt] at h; omega
theorem kb_mb1 {a : Int32} (h : ¬ a < nI 2) (h2 : ¬ nI 6 < a) : some (Value.int (nI 1)) = some (Value.int (if nI 2 ≤ a ∧ a ≤ nI 6 then 1 else 0)) := by
  rw [if_pos ⟨fa_of_nlt9 h, fa_of_nlt9 h2⟩]; rfl
theorem kb_mb0 {a : Int32} (h : a < nI 2 ∨ nI 6 < a) : some (Value.int (nI 0)) = some (Value.int (if nI 2 ≤ a ∧ a ≤ nI 6 then 1 else 0)) := by
  rw [if_neg (fun q => by rcases h with h | h; exact fa_nle9 h q.1; exact fa_nle9 h q.2)]; rfl
set_option maxRecDepth 100000 in
set_option maxHeartbeats 4000000 in
/-- X4.mayBeThreads -/
theorem m_mayBe (l : Launch) (E : kb_E) (g : Nat → va_E) (a : Int32) : kb_Met l E 202 yX4_mayBeThreads wsX4_mayBeThreads ({ frames := 0, cells := 0, slots := 0, locals := 0 }) [.int a] g (fun v g' => v = some (.int (if nI 2 ≤ a ∧ a ≤ nI 6 then 1 else 0)) ∧ g' = g) := by
  refine kb_enter (cc := cX4_mayBeThreads) (maxL := 1) (ret := (some .boolean)) (by decide +kernel) rfl (by simp [Value.category]) (Nat.le_of_ble_eq_true rfl) ?_
  intro p e s m args below meth c C hini
  refine q_iload_n C dX4_mayBeThreads_0 rfl ?_
  refine q_iconst C (v := nI 2) dX4_mayBeThreads_1 (by decide) ?_
  refine q_icmplt C (tgt := 15) dX4_mayBeThreads_2 (by decide) (fun c2 => ?_) (fun c2 => ?_)
  · refine q_iconst C (v := nI 0) dX4_mayBeThreads_15 (by decide) ?_
    exact q_zret C dX4_mayBeThreads_16 (by decide) ⟨by first | exact kb_mb1 c2 c8 | exact kb_mb0 (Or.inl c2) | exact kb_mb0 (Or.inr c8), rfl⟩
  · refine q_iload_n C dX4_mayBeThreads_5 rfl ?_
    refine q_bipush C (v := nI 6) dX4_mayBeThreads_6 (by decide) ?_
    refine q_icmpgt C (tgt := 15) dX4_mayBeThreads_8 (by decide) (fun c8 => ?_) (fun c8 => ?_)
    · refine q_iconst C (v := nI 0) dX4_mayBeThreads_15 (by decide) ?_
      exact q_zret C dX4_mayBeThreads_16 (by decide) ⟨by first | exact kb_mb1 c2 c8 | exact kb_mb0 (Or.inl c2) | exact kb_mb0 (Or.inr c8), rfl⟩
    · refine q_iconst C (v := nI 1) dX4_mayBeThreads_11 (by decide) ?_
      refine q_goto C (tgt := 16) dX4_mayBeThreads_12 (by decide) ?_
      exact q_zret C dX4_mayBeThreads_16 (by decide) ⟨by first | exact kb_mb1 c2 c8 | exact kb_mb0 (Or.inl c2) | exact kb_mb0 (Or.inr c8), rfl⟩
theorem kb_in9 {a b : Int32} (h1 : ¬ a < 0) (h2 : a < b) : 0 ≤ a ∧ a < b := ⟨fa_of_nlt9 h1, h2⟩
theorem kb_ni9 {a b : Int32} (h : a < 0 ∨ ¬ a < b) : ¬ (0 ≤ a ∧ a < b) := fun q => by
  rcases h with h | h
  · exact fa_nle9 h q.1
  · exact h q.2
set_option maxRecDepth 100000 in
set_option maxHeartbeats 4000000 in
/-- X4.needElement -/
theorem m_needElement (l : Launch) (E : kb_E) (g : Nat → va_E) (a b : Int32) : kb_MetX l E 202 yX4_needElement wsX4_needElement ({ frames := 6, cells := 1, slots := 6, locals := 82 }) [.int a, .int b] g (fun v g' => v = none ∧ g' = g ∧ 0 ≤ a ∧ a < b) (fun X => X = kb_NSE ∧ ¬ (0 ≤ a ∧ a < b)) := by
  refine kb_enterX (cc := cX4_needElement) (maxL := 2) (ret := none) (by decide +kernel) rfl (by simp [Value.category]) (Nat.le_of_ble_eq_true rfl) ?_
  intro p e s m args below meth c C hx
  refine q_iload_n C dX4_needElement_0 rfl ?_
  refine q_iflt C (tgt := 9) dX4_needElement_1 (by decide) (fun c1 => ?_) (fun c1 => ?_)
  · exact q_throwN C hx dX4_needElement_9 dX4_needElement_12 dX4_needElement_13 dX4_needElement_15 dX4_needElement_18 (List.mem_of_getElem? (i := 1) rfl) (List.mem_of_getElem? (i := 2) rfl) C.2.2.2.2.2.2.2.2.2.2.2.2.2.2.2.2.1 (fun w h => List.mem_cons_of_mem _ (List.mem_append_right _ h)) (by decide +kernel) (by decide +kernel) (by decide) (by decide) (by decide) (by decide) (by decide) (by decide) ⟨rfl, kb_ni9 (by first | exact Or.inl c1 | exact Or.inr c6)⟩
  · refine q_iload_n C dX4_needElement_4 rfl ?_
    refine q_iload_n C dX4_needElement_5 rfl ?_
    refine q_icmplt C (tgt := 19) dX4_needElement_6 (by decide) (fun c6 => ?_) (fun c6 => ?_)
    · exact q_retX (by decide) (by decide) (q_vret C dX4_needElement_19 ⟨rfl, rfl, kb_in9 c1 c6⟩)
    · exact q_throwN C hx dX4_needElement_9 dX4_needElement_12 dX4_needElement_13 dX4_needElement_15 dX4_needElement_18 (List.mem_of_getElem? (i := 1) rfl) (List.mem_of_getElem? (i := 2) rfl) C.2.2.2.2.2.2.2.2.2.2.2.2.2.2.2.2.1 (fun w h => List.mem_cons_of_mem _ (List.mem_append_right _ h)) (by decide +kernel) (by decide +kernel) (by decide) (by decide) (by decide) (by decide) (by decide) (by decide) ⟨rfl, kb_ni9 (by first | exact Or.inl c1 | exact Or.inr c6)⟩
set_option maxRecDepth 100000 in
set_option maxHeartbeats 4000000 in
/-- X4.needArgument -/
theorem m_needArgument (l : Launch) (E : kb_E) (g : Nat → va_E) (a b : Int32) : kb_MetX l E 202 yX4_needArgument wsX4_needArgument ({ frames := 6, cells := 1, slots := 6, locals := 82 }) [.int a, .int b] g (fun v g' => v = none ∧ g' = g ∧ 0 ≤ a ∧ a < b) (fun X => X = kb_IAE ∧ ¬ (0 ≤ a ∧ a < b)) := by
  refine kb_enterX (cc := cX4_needArgument) (maxL := 2) (ret := none) (by decide +kernel) rfl (by simp [Value.category]) (Nat.le_of_ble_eq_true rfl) ?_
  intro p e s m args below meth c C hx
  refine q_iload_n C dX4_needArgument_0 rfl ?_
  refine q_iflt C (tgt := 9) dX4_needArgument_1 (by decide) (fun c1 => ?_) (fun c1 => ?_)
  · exact q_throw (cls := kb_IAE) C hx dX4_needArgument_9 dX4_needArgument_12 dX4_needArgument_13 dX4_needArgument_15 dX4_needArgument_18 (by decide +kernel) (List.mem_of_getElem? (i := 1) rfl) (List.mem_of_getElem? (i := 2) rfl) C.2.2.2.2.2.2.2.2.2.2.2.2.2.2.2.2.2.1 (fun w h => List.mem_cons_of_mem _ (List.mem_append_right _ h)) (by decide +kernel) (by decide +kernel) (by decide) (by decide) (by decide) (by decide) (by decide) (by decide) ⟨rfl, kb_ni9 (by first | exact Or.inl c1 | exact Or.inr c6)⟩
  · refine q_iload_n C dX4_needArgument_4 rfl ?_
    refine q_iload_n C dX4_needArgument_5 rfl ?_
    refine q_icmplt C (tgt := 19) dX4_needArgument_6 (by decide) (fun c6 => ?_) (fun c6 => ?_)
    · exact q_retX (by decide) (by decide) (q_vret C dX4_needArgument_19 ⟨rfl, rfl, kb_in9 c1 c6⟩)
    · exact q_throw (cls := kb_IAE) C hx dX4_needArgument_9 dX4_needArgument_12 dX4_needArgument_13 dX4_needArgument_15 dX4_needArgument_18 (by decide +kernel) (List.mem_of_getElem? (i := 1) rfl) (List.mem_of_getElem? (i := 2) rfl) C.2.2.2.2.2.2.2.2.2.2.2.2.2.2.2.2.2.1 (fun w h => List.mem_cons_of_mem _ (List.mem_append_right _ h)) (by decide +kernel) (by decide +kernel) (by decide) (by decide) (by decide) (by decide) (by decide) (by decide) ⟨rfl, kb_ni9 (by first | exact Or.inl c1 | exact Or.inr c6)⟩

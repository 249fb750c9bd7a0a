/-! ===== what lies outside the world and stays: nest links, the statics that a throw reads, texts, the two static tables ===== -/
def kb_nestF : List (String × Nat × String × String × String × String) := [(RX4, 110, RX2, "rows", "I", RX4), (RX4, 111, RX2, "threads", "I", RX4), (RX4, 112, RX2, "told", "[I", RX4), (RX4, 115, RX2, "workedOut", "Z", RX4), (RX4, 119, RX2, "toldAtFirst", "[I", RX4), (RX4, 125, RX2, "startCount", "I", RX4), (RX4, 128, RX2, "firstStart", "I", RX4), (RX4, 138, RX2, "suspectCount", "I", RX4), (RX4, 141, RX2, "suspects", "[I", RX4), (RX4, 41, RX0, "threads", "I", RX4), (RX4, 55, RX0, "colours", "[I", RX4), (RX4, 59, RX0, "rows", "I", RX4), (RX4, 62, RX0, "kinds", "[I", RX4), (RX4, 80, RX0, "shown", "[I", RX4), (RX4, 86, RX0, "standing", "[I", RX4), (RX4, 89, RX0, "spent", "[I", RX4), (RX0, 37, RX2, "threads", "I", RX4), (RX0, 40, RX2, "rows", "I", RX4), (RX0, 41, RX2, "firstStart", "I", RX4), (RX0, 48, RX2, "kinds", "[I", RX4), (RX1, 110, RX2, "kinds", "[I", RX4), (RX1, 137, RX2, "suspects", "[I", RX4), (RX1, 46, RX2, "toldAtFirst", "[I", RX4), (RX1, 55, RX2, "suspectCount", "I", RX4), (RX1, 62, RX2, "startCount", "I", RX4), (RX1, 68, RX2, "firstStart", "I", RX4), (RX1, 77, RX2, "workedOut", "Z", RX4), (RX1, 81, RX2, "rows", "I", RX4), (RX1, 84, RX2, "threads", "I", RX4), (RX1, 94, RX2, "told", "[I", RX4)]
def kb_nestM : List (String × Nat × MethodName × String) := [(RX4, 35, yX0_init, RX4), (RX4, 36, yX2_init, RX4), (RX0, 44, yX4_colourIn, RX4), (RX0, 49, yX4_knotsIn, RX4), (RX0, 56, yX4_leftPlaceOf, RX4), (RX0, 59, yX4_kindIn, RX4), (RX0, 62, yX4_showingPlace, RX4), (RX0, 65, yX4_spotOf, RX4), (RX1, 113, yX4_withKind, RX4), (RX1, 120, yX4_showingPlace, RX4), (RX1, 123, yX4_colourIn, RX4), (RX1, 130, yX4_bitOf, RX4), (RX1, 134, yX4_exchanged, RX4), (RX1, 31, yX3_init, RX4), (RX1, 87, yX4_knotsIn, RX4), (RX1, 91, yX4_leftPlaceOf, RX4), (RX1, 97, yX4_spotOf, RX4), (RX3, 45, yX4_exchanged, RX4)]
def kb_NSE : String := "java/util/NoSuchElementException"
def kb_IAE : String := "java/lang/IllegalArgumentException"
def kb_up : List String := ["java/lang/RuntimeException", "java/lang/Exception"]
/-- where a row of colours is less at place 3 than at place 4, by 1, 2, 3 -/
def kb_P3 (j : Nat) : Int64 := if j = 0 then 0x0000F0000F0000F0 else if j = 1 then 0x00000000F0000F00 else 0x000000000000F000
def kb_P4 (j : Nat) : Int64 := if j = 0 then 0x0842084208420842 else if j = 1 then 0x0084008400840084 else 0x0008000800080008
def kb_O (l : Launch) (E : kb_E) (A : Nat → Prop) (U : State) (H : Heap) : Prop :=
  (∀ q ∈ kb_nestF, va_Nw (.fieldLinkNest q.1 q.2.1 q.2.2.1 q.2.2.2.1 q.2.2.2.2.1 q.2.2.2.2.2) U) ∧ (∀ q ∈ kb_nestM, va_Nw (.methodLinkNest q.1 q.2.1 q.2.2.1 q.2.2.2) U) ∧ l.stackTraces = false ∧
  vx_Zq Bundle.tN "UNASSIGNED_STACK" Bundle.steD A U H ∧ vx_Zq Bundle.tN "SUPPRESSED_SENTINEL" Bundle.listD A U H ∧
  (∀ Y ∈ ["java/lang/RuntimeException", "java/lang/Exception", "java/lang/Throwable"], va_Nw (.declares (Bundle.initS Y)) U) ∧ (∀ X ∈ [kb_NSE, kb_IAE], va_Nw (.castable X X) U) ∧
  (∃ a, vk_R RX4 149 "no such element" a U) ∧ (∃ a, vk_R RX4 152 "no such colour or kind" a U) ∧ (∃ a, vk_R RX4 98 "bands unlike in threads or rows" a U) ∧
  (va_Z RX3 "PLACE_3_LESS" "[J" (.ref (E.2.2.2 300)) A U H ∧ va_T .long (E.2.2.2 300) 3 (fun j => .long (kb_P3 j)) A U H) ∧ ((va_Z RX3 "PLACE_4_LESS" "[J" (.ref (E.2.2.2 301)) A U H ∧ va_T .long (E.2.2.2 301) 3 (fun j => .long (kb_P4 j)) A U H) ∧ va_Nc kb_IAE kb_NSE U)
theorem kb_O.goE {l : Launch} {E E' : kb_E} {A B : Nat → Prop} {s U : State} {H H1 : Heap} (h : kb_O l E A s H) (hW : s.WarmedH U.vm) (hq : ∀ a : Nat, a < H.size → ¬ A a → H1[a]? = H[a]?) (hAB : ∀ q, B q → A q) (e0 : E'.2.2.2 300 = E.2.2.2 300) (e1 : E'.2.2.2 301 = E.2.2.2 301) : kb_O l E' B U H1 := by
  unfold kb_O
  rw [e0, e1]
  obtain ⟨h1, h2, h3, h4, h5, h6, h7, ⟨a1, h8⟩, ⟨a2, h9⟩, ⟨a3, h10⟩, ⟨z1, y1⟩, ⟨z2, y2⟩, hnc⟩ := h
  refine ⟨fun q hq => va_Nw.warmF hW (h1 q hq), fun q hq => va_Nw.warmM hW (h2 q hq), h3, ?_, ?_, fun Y hY => va_Nw.warmD hW (h6 Y hY), fun X hX => va_Nw.warmC hW (h7 X hX), ⟨a1, vk_R.warm hW h8⟩, ⟨a2, vk_R.warm hW h9⟩, ⟨a3, vk_R.warm hW h10⟩, ⟨?_, ?_⟩, ⟨?_, ?_⟩, va_Nc.moved hW.alike hnc⟩
  · exact ((vx_Zq.moved hW.alike h4).kept hq).narrow hAB
  · exact ((vx_Zq.moved hW.alike h5).kept hq).narrow hAB
  · exact ((va_Z.moved hW.alike z1).kept hq).narrow hAB
  · exact ((va_T.moved hW.alike y1).kept hq).narrow hAB
  · exact ((va_Z.moved hW.alike z2).kept hq).narrow hAB
  · exact ((va_T.moved hW.alike y2).kept hq).narrow hAB
theorem kb_O.go {l : Launch} {E : kb_E} {A B : Nat → Prop} {s U : State} {H H1 : Heap} (h : kb_O l E A s H) (hW : s.WarmedH U.vm) (hq : ∀ a : Nat, a < H.size → ¬ A a → H1[a]? = H[a]?) (hAB : ∀ q, B q → A q) : kb_O l E B U H1 := h.goE hW hq hAB rfl rfl

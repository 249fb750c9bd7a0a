/-! ===== what holds at the law's entry: the classes, the rows' classes, the words on what lies outside ===== -/
theorem kb_arrT {args : Array Value} {s : State} {ty : FieldType} (h : (Cond.arrayClass ty).before args s = true) : ∃ c : ClassId, ArrOfT s c ty ∧ s.vm.findClass ("[" ++ ty.toString) = some c := by
  obtain ⟨c, k, comp, h1, h2, h3⟩ := Cond.arrayClass_spec h
  exact ⟨c, fun n z => ⟨fun k h => (by cases h), k, h2, comp, h3⟩, h1⟩
theorem kb_arrO {args : Array Value} {s : State} {C : String} (h : (Cond.arrayOver (.object C)).before args s = true) : ∃ c : ClassId, ArrOfT s c (.object C) ∧ va_RA s c (.object C) := by
  obtain ⟨comp, c, k, h1, h2, h3, h4, h5⟩ := Cond.arrayOver_spec h
  exact ⟨c, fun n z => ⟨fun k h => (by cases h), k, h3, comp, h4⟩, k, comp, h3, h4, h1, h5⟩
theorem kb_vkR {args : Array Value} {s : State} {own tx : String} {k : Nat} (h1 : (Cond.stringRef own k tx).before args s = true) (h2 : (Cond.exactly (.string own k) "java/lang/String").before args s = true) : ∃ a, vk_R own k tx a s := by
  obtain ⟨a, _, _, _, h, _⟩ := Cond.exactly_spec h2
  exact ⟨a, vk_R.of h1 h⟩
set_option maxRecDepth 20000 in
theorem kb_nestF_in : ∀ q ∈ kb_nestF, Cond.fieldLinkNest q.1 q.2.1 q.2.2.1 q.2.2.2.1 q.2.2.2.2.1 q.2.2.2.2.2 ∈ lw_tbl := by decide +kernel
set_option maxRecDepth 20000 in
theorem kb_nestM_in : ∀ q ∈ kb_nestM, Cond.methodLinkNest q.1 q.2.1 q.2.2.1 q.2.2.2 ∈ lw_tbl := by decide +kernel
theorem kb_decl_in : ∀ Y ∈ ["java/lang/RuntimeException", "java/lang/Exception", "java/lang/Throwable"], Cond.declares (Bundle.initS Y) ∈ lw_tbl := by decide +kernel
theorem kb_cast_in : ∀ X ∈ [kb_NSE, kb_IAE], Cond.castable X X ∈ lw_tbl := by decide +kernel
/-- the ids and slots by class number -/
def kb_E0 (c0 c1 c2 c3 c4 c5 : ClassId) (i0 i1 i2 i3 i4 i5 : Nat → Nat) (d0 d1 d2 d3 d4 d5 : ClassId) (t3 t4 : Nat) : kb_E :=
  (fun k => match k with | 0 => c0 | 1 => c1 | 2 => c2 | 3 => c3 | 4 => c4 | _ => c5, fun k => match k with | 0 => i0 | 1 => i1 | 2 => i2 | 3 => i3 | 4 => i4 | _ => i5, fun k => match k with | 0 => d0 | 1 => d1 | 2 => d2 | 3 => d3 | 4 => d4 | _ => d5, fun n => if n = 301 then t4 else t3)
set_option maxRecDepth 100000 in
set_option maxHeartbeats 4000000 in
theorem kb_begin {args : Array Value} {s : State} {l : Launch} (hst : l.stackTraces = false) (hts : ∀ w ∈ lw_tbl, w.before args s = true) (hgv : (Jvm.Cond.and given_1 narrow_1).before args s = true) : ∃ E : kb_E, va_K (kb_D E) vwCl (kb_tys E) s ∧ kb_O l E (fun q => s.heap.size ≤ q) s s.heap := by
  have hq := flat_of_before _ hgv
  have hA : ∀ a : Nat, a < s.heap.size → ¬ s.heap.size ≤ a := fun a h => by omega
  obtain ⟨c0, i0, k0⟩ := u_known hts inX0 (hts (.instantiable RX0 8) (by decide +kernel))
  obtain ⟨c1, i1, k1⟩ := u_known hts inX1 (hts (.instantiable RX1 6) (by decide +kernel))
  obtain ⟨c2, i2, k2⟩ := u_known hts inX2 (hts (.instantiable RX2 10) (by decide +kernel))
  obtain ⟨c3, i3, k3⟩ := u_known hts inX3 (hts (.instantiable RX3 1) (by decide +kernel))
  obtain ⟨c4, i4, k4⟩ := u_known hts inX4 (hts (.instantiable RX4 5) (by decide +kernel))
  obtain ⟨c5, i5, k5⟩ := u_known hts inX5 (hts (.instantiable RX5 15) (by decide +kernel))
  obtain ⟨d0, r0, f0⟩ := kb_arrT (hts (.arrayClass .int) (by decide +kernel))
  obtain ⟨d1, r1, f1⟩ := kb_arrT (hts (.arrayClass .long) (by decide +kernel))
  obtain ⟨d2, r2, f2⟩ := kb_arrT (hts (.arrayClass .boolean) (by decide +kernel))
  obtain ⟨d3, r3, f3⟩ := kb_arrO (hts (.arrayOver (.object RX0)) (by decide +kernel))
  obtain ⟨d4, r4, f4⟩ := kb_arrO (hts (.arrayOver (.object RX2)) (by decide +kernel))
  obtain ⟨d5, r5, f5⟩ := kb_arrO (hts (.arrayOver (.object RX3)) (by decide +kernel))
  obtain ⟨t3, e3, T3⟩ := va_Tof (N := 3) (tm := .static RX3 "PLACE_3_LESS" "[J") (ty := .long) (f := fun j => .long (kb_P3 j)) (A := fun q => s.heap.size ≤ q) (by decide) (hq _ (by decide +kernel)) (va_eqt (hq _ (by decide +kernel))) (fun j hj => by
    rcases (show j = 0 ∨ j = 1 ∨ j = 2 by omega) with rfl | rfl | rfl
    · exact va_eqtl (z := kb_P3 0) (hq _ (by decide +kernel))
    · exact va_eqtl (z := kb_P3 1) (hq _ (by decide +kernel))
    · exact va_eqtl (z := kb_P3 2) (hq _ (by decide +kernel))) hA
  obtain ⟨t4, e4, T4⟩ := va_Tof (N := 3) (tm := .static RX3 "PLACE_4_LESS" "[J") (ty := .long) (f := fun j => .long (kb_P4 j)) (A := fun q => s.heap.size ≤ q) (by decide) (hq _ (by decide +kernel)) (va_eqt (hq _ (by decide +kernel))) (fun j hj => by
    rcases (show j = 0 ∨ j = 1 ∨ j = 2 by omega) with rfl | rfl | rfl
    · exact va_eqtl (z := kb_P4 0) (hq _ (by decide +kernel))
    · exact va_eqtl (z := kb_P4 1) (hq _ (by decide +kernel))
    · exact va_eqtl (z := kb_P4 2) (hq _ (by decide +kernel))) hA
  refine ⟨kb_E0 c0 c1 c2 c3 c4 c5 i0 i1 i2 i3 i4 i5 d0 d1 d2 d3 d4 d5 t3 t4, ⟨fun k q hk => ?_, fun k q hk => ?_⟩, ?_⟩
  · match k, hk with
    | 0, hk => cases hk; exact k0
    | 1, hk => cases hk; exact k1
    | 2, hk => cases hk; exact k2
    | 3, hk => cases hk; exact k3
    | 4, hk => cases hk; exact k4
    | 5, hk => cases hk; exact k5
    | n + 6, hk => cases hk
  · match k, hk with
    | 0, hk => cases hk; exact ⟨r0, f0⟩
    | 1, hk => cases hk; exact ⟨r1, f1⟩
    | 2, hk => cases hk; exact ⟨r2, f2⟩
    | 3, hk => cases hk; exact ⟨r3, f3⟩
    | 4, hk => cases hk; exact ⟨r4, f4⟩
    | 5, hk => cases hk; exact ⟨r5, f5⟩
    | n + 6, hk => cases hk
  · refine ⟨fun q h => va_Nw.of rfl (hts _ (kb_nestF_in q h)), fun q h => va_Nw.of rfl (hts _ (kb_nestM_in q h)), hst, ?_, ?_, fun Y h => va_Nw.of rfl (hts _ (kb_decl_in Y h)), fun X h => va_Nw.of rfl (hts _ (kb_cast_in X h)), ?_, ?_, ?_, ⟨?_, T3⟩, ⟨?_, T4⟩, ?_⟩
    · exact vx_Zqof (hts _ (by decide +kernel)) (hts _ (by decide +kernel)) (hq _ (by decide +kernel)) hA
    · exact vx_Zqof (hts _ (by decide +kernel)) (hts _ (by decide +kernel)) (hq _ (by decide +kernel)) hA
    · exact kb_vkR (hts _ (by decide +kernel)) (hq _ (by decide +kernel))
    · exact kb_vkR (hts _ (by decide +kernel)) (hq _ (by decide +kernel))
    · exact kb_vkR (hts _ (by decide +kernel)) (hq _ (by decide +kernel))
    · exact va_Zof (hts _ (by decide +kernel)) (hts _ (by decide +kernel)) e3 hA
    · exact va_Zof (hts _ (by decide +kernel)) (hts _ (by decide +kernel)) e4 hA
    · exact va_Nc.of (hq _ (by decide +kernel))

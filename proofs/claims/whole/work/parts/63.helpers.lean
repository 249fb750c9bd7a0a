/-! ===== the law's helpers ===== -/
set_option maxRecDepth 100000 in
set_option maxHeartbeats 4000000 in
/-- the law's colour -/
theorem h_colour (l : Launch) (E : kb_E) (X : Nat → Nat → Int32) (Y : Nat → Nat → Int64) (b t c0 : Int32) (hR : kb_REL X) : kb_Met l E 202 yL_colour wsL_colour ({ frames := 9, cells := 3, slots := 18, locals := 149 }) [.ref (E.2.2.2 0), .int b, .int t, .int c0, .ref (E.2.2.2 201)] (kb_ent E X Y) (kb_hp E (kb_hx (kb_e b (X 0 3) ∧ kb_e t (X (92 + 7 * kb_tn b) 2)) (kb_e c0 (nI 4)) (fun v X1 => v = X (92 + 7 * kb_tn b + 1) (kb_tn t) ∧ X1 = va_up X (92 + 7 * kb_tn b + 1) (upd (X (92 + 7 * kb_tn b + 1)) (kb_tn t) c0)) (fun X1 => X1 = X))) := by
  refine kb_enterH (cc := cL_colour) (maxL := 6) (ret := some .int) (hh := [(0, 12, 15, 13), (0, 12, 19, 15)]) (by decide +kernel) rfl (by simp [Value.category]) (Nat.le_of_ble_eq_true rfl) ?_
  intro p e s m args below meth c C htab
  refine q_aload C dL_colour_0 rfl ?_
  refine q_iconst C (v := nI 0) dL_colour_2 (by decide) ?_
  refine q_aload_n C dL_colour_3 rfl ?_
  refine q_iload_n C dL_colour_4 rfl ?_
  refine q_iload_n C dL_colour_5 rfl ?_
  refine q_iload_n C dL_colour_6 rfl ?_
  refine x_callVT2 (As := [_, _, _]) (nA := 3) (T := TX4) (NF := 5) (x1 := ⟨0, 12, 15, 13⟩) (x2 := ⟨0, 12, 19, 15⟩) C htab rfl (by decide) rfl (by decide) (List.mem_of_getElem? (i := 1) rfl) (List.mem_of_getElem? (i := 2) rfl) dL_colour_7 ob_K rfl (m_colour _ _ X Y b t c0 hR.cb) gL_colour_X4_colour rfl (by decide +kernel) rfl ⟨Nat.le_of_ble_eq_true rfl, Nat.le_of_ble_eq_true rfl⟩ (Nat.le_of_ble_eq_true rfl) ⟨Nat.le_of_ble_eq_true rfl, Nat.le_of_ble_eq_true rfl⟩ kb_tGz (fun v g' h => ?_) (fun g9 q h => ?_) (fun g9 q h => ?_)
  · obtain ⟨c1, c2, rfl, rfl⟩ := h
    exact kb_fin C (Or.inl ⟨c1, c2, rfl, rfl, rfl⟩) dL_colour_10 dL_colour_11 dL_colour_12 (by decide) dL_colour_23 dL_colour_24
  · refine q_astore C dL_colour_15 (by decide) rfl ?_
    refine q_iconst C (v := nI 1) dL_colour_17 (by decide) ?_
    exact q_iret C dL_colour_18 (kb_hp1 h)
  · refine q_astore C dL_colour_19 (by decide) rfl ?_
    refine q_iconst C (v := nI 2) dL_colour_21 (by decide) ?_
    exact q_iret C dL_colour_22 (kb_hp2 h)
set_option maxRecDepth 100000 in
set_option maxHeartbeats 4000000 in
/-- the law's row -/
theorem h_row (l : Launch) (E : kb_E) (X : Nat → Nat → Int32) (Y : Nat → Nat → Int64) (b kinds : Int32) (hR : kb_REL X) : kb_Met l E 202 yL_row wsL_row ({ frames := 9, cells := 1, slots := 6, locals := 147 }) [.ref (E.2.2.2 0), .int b, .int kinds, .ref (E.2.2.2 201)] (kb_ent E X Y) (kb_hp E (kb_hx (kb_e b (X 0 3)) True (fun v X1 => (((kb_tn (X (92 + 7 * kb_tn b) 3)) = 16 ∧ v = -1 ∧ X1 = X) ∨ (¬ (kb_tn (X (92 + 7 * kb_tn b) 3)) = 16 ∧ v = nI ((kb_tn (X (92 + 7 * kb_tn b) 3)) + 1) ∧ X1 = kb_crow X (kb_tn b) kinds))) (fun X1 => X1 = X))) := by
  refine kb_enterH (cc := cL_row) (maxL := 5) (ret := some .int) (hh := [(0, 10, 13, 13)]) (by decide +kernel) rfl (by simp [Value.category]) (Nat.le_of_ble_eq_true rfl) ?_
  intro p e s m args below meth c C htab
  refine q_aload_n C dL_row_0 rfl ?_
  refine q_iconst C (v := nI 0) dL_row_1 (by decide) ?_
  refine q_aload_n C dL_row_2 rfl ?_
  refine q_iload_n C dL_row_3 rfl ?_
  refine q_iload_n C dL_row_4 rfl ?_
  refine x_callVT1 (As := [_, _]) (nA := 2) (T := TX4) (NF := 5) (x1 := ⟨0, 10, 13, 13⟩) C htab rfl (by decide) (List.mem_of_getElem? (i := 1) rfl) dL_row_5 ob_K rfl (m_row _ _ X Y b kinds hR.cb) gL_row_X4_row rfl (by decide +kernel) rfl ⟨Nat.le_of_ble_eq_true rfl, Nat.le_of_ble_eq_true rfl⟩ (Nat.le_of_ble_eq_true rfl) ⟨Nat.le_of_ble_eq_true rfl, Nat.le_of_ble_eq_true rfl⟩ kb_tGz1 (fun v g' h => ?_) (fun g9 q h => ?_)
  · obtain ⟨c1, ⟨a, rfl, rfl⟩ | ⟨a, rfl, rfl⟩⟩ := h
    · exact kb_fin C (Or.inl ⟨c1, trivial, rfl, Or.inl ⟨a, rfl, rfl⟩⟩) dL_row_8 dL_row_9 dL_row_10 (by decide) dL_row_17 dL_row_18
    · exact kb_fin C (Or.inl ⟨c1, trivial, rfl, Or.inr ⟨a, rfl, rfl⟩⟩) dL_row_8 dL_row_9 dL_row_10 (by decide) dL_row_17 dL_row_18
  · refine q_astore C dL_row_13 (by decide) rfl ?_
    refine q_iconst C (v := nI 1) dL_row_15 (by decide) ?_
    exact q_iret C dL_row_16 (kb_hp1 h)
set_option maxRecDepth 100000 in
set_option maxHeartbeats 4000000 in
/-- the law's knot -/
theorem h_knot (l : Launch) (E : kb_E) (X : Nat → Nat → Int32) (Y : Nat → Nat → Int64) (b r k k0 : Int32) (hR : kb_REL X) : kb_Met l E 202 yL_knot wsL_knot ({ frames := 9, cells := 4, slots := 24, locals := 150 }) [.ref (E.2.2.2 0), .int b, .int r, .int k, .int k0, .ref (E.2.2.2 201)] (kb_ent E X Y) (kb_hp E (kb_hx (kb_e b (X 0 3) ∧ kb_e r (X (92 + 7 * kb_tn b) 3) ∧ kb_e k (kb_knotsIn (X (92 + 7 * kb_tn b) 2) r)) (k0 = -1 ∨ kb_e k0 (nI 4)) (fun v X1 => v = kb_kindIn (X (92 + 7 * kb_tn b + 2) (kb_tn r)) k ∧ X1 = (if k0 = -1 then X else va_up X (92 + 7 * kb_tn b + 2) (upd (X (92 + 7 * kb_tn b + 2)) (kb_tn r) (kb_withKind (X (92 + 7 * kb_tn b + 2) (kb_tn r)) k k0)))) (fun X1 => X1 = X))) := by
  refine kb_enterH (cc := cL_knot) (maxL := 7) (ret := some .int) (hh := [(0, 14, 17, 13), (0, 14, 21, 15)]) (by decide +kernel) rfl (by simp [Value.category]) (Nat.le_of_ble_eq_true rfl) ?_
  intro p e s m args below meth c C htab
  refine q_aload C dL_knot_0 rfl ?_
  refine q_iconst C (v := nI 0) dL_knot_2 (by decide) ?_
  refine q_aload_n C dL_knot_3 rfl ?_
  refine q_iload_n C dL_knot_4 rfl ?_
  refine q_iload_n C dL_knot_5 rfl ?_
  refine q_iload_n C dL_knot_6 rfl ?_
  refine q_iload C dL_knot_7 rfl ?_
  refine x_callVT2 (As := [_, _, _, _]) (nA := 4) (T := TX4) (NF := 5) (x1 := ⟨0, 14, 17, 13⟩) (x2 := ⟨0, 14, 21, 15⟩) C htab rfl (by decide) rfl (by decide) (List.mem_of_getElem? (i := 1) rfl) (List.mem_of_getElem? (i := 2) rfl) dL_knot_9 ob_K rfl (m_knot _ _ X Y b r k k0 hR.cb) gL_knot_X4_knot rfl (by decide +kernel) rfl ⟨Nat.le_of_ble_eq_true rfl, Nat.le_of_ble_eq_true rfl⟩ (Nat.le_of_ble_eq_true rfl) ⟨Nat.le_of_ble_eq_true rfl, Nat.le_of_ble_eq_true rfl⟩ kb_tGz (fun v g' h => ?_) (fun g9 q h => ?_) (fun g9 q h => ?_)
  · obtain ⟨c1, c2, rfl, rfl⟩ := h
    exact kb_fin C (Or.inl ⟨c1, c2, rfl, rfl, rfl⟩) dL_knot_12 dL_knot_13 dL_knot_14 (by decide) dL_knot_25 dL_knot_26
  · refine q_astore C dL_knot_17 (by decide) rfl ?_
    refine q_iconst C (v := nI 1) dL_knot_19 (by decide) ?_
    exact q_iret C dL_knot_20 (kb_hp1 h)
  · refine q_astore C dL_knot_21 (by decide) rfl ?_
    refine q_iconst C (v := nI 2) dL_knot_23 (by decide) ?_
    exact q_iret C dL_knot_24 (kb_hp2 h)
set_option maxRecDepth 100000 in
set_option maxHeartbeats 4000000 in
/-- the law's shows -/
theorem h_shows (l : Launch) (E : kb_E) (X : Nat → Nat → Int32) (Y : Nat → Nat → Int64) (b r k : Int32) (hR : kb_REL X) : kb_Met l E 202 yL_shows wsL_shows ({ frames := 9, cells := 3, slots := 18, locals := 148 }) [.ref (E.2.2.2 0), .int b, .int r, .int k, .ref (E.2.2.2 201)] (kb_ent E X Y) (kb_hp E (kb_hx (kb_e b (X 0 3) ∧ kb_e r (X (92 + 7 * kb_tn b) 3) ∧ kb_e k (kb_knotsIn (X (92 + 7 * kb_tn b) 2) r)) True (fun v X1 => v = X (92 + 7 * kb_tn b + 1) (kb_sh (kb_kd (X (92 + 7 * kb_tn b + 2))) (kb_tn (X (92 + 7 * kb_tn b) 2)) (kb_tn r) (kb_tn k)) ∧ kb_sameB (kb_tn b) X X1) (fun X1 => X1 = X))) := by
  refine kb_enterH (cc := cL_shows) (maxL := 6) (ret := some .int) (hh := [(0, 12, 15, 13)]) (by decide +kernel) rfl (by simp [Value.category]) (Nat.le_of_ble_eq_true rfl) ?_
  intro p e s m args below meth c C htab
  refine q_aload C dL_shows_0 rfl ?_
  refine q_iconst C (v := nI 0) dL_shows_2 (by decide) ?_
  refine q_aload_n C dL_shows_3 rfl ?_
  refine q_iload_n C dL_shows_4 rfl ?_
  refine q_iload_n C dL_shows_5 rfl ?_
  refine q_iload_n C dL_shows_6 rfl ?_
  refine x_callVT1 (As := [_, _, _]) (nA := 3) (T := TX4) (NF := 5) (x1 := ⟨0, 12, 15, 13⟩) C htab rfl (by decide) (List.mem_of_getElem? (i := 1) rfl) dL_shows_7 ob_K rfl (m_shows _ _ X Y b r k hR.cb) gL_shows_X4_shows rfl (by decide +kernel) rfl ⟨Nat.le_of_ble_eq_true rfl, Nat.le_of_ble_eq_true rfl⟩ (Nat.le_of_ble_eq_true rfl) ⟨Nat.le_of_ble_eq_true rfl, Nat.le_of_ble_eq_true rfl⟩ kb_tGz1 (fun v g' h => ?_) (fun g9 q h => ?_)
  · obtain ⟨c1, rfl, X', rfl, hs⟩ := h
    exact kb_fin C (Or.inl ⟨c1, trivial, rfl, rfl, hs⟩) dL_shows_10 dL_shows_11 dL_shows_12 (by decide) dL_shows_19 dL_shows_20
  · refine q_astore C dL_shows_15 (by decide) rfl ?_
    refine q_iconst C (v := nI 1) dL_shows_17 (by decide) ?_
    exact q_iret C dL_shows_18 (kb_hp1 h)
set_option maxRecDepth 100000 in
set_option maxHeartbeats 4000000 in
/-- the law's thread -/
theorem h_thread (l : Launch) (E : kb_E) (X : Nat → Nat → Int32) (Y : Nat → Nat → Int64) (b r t : Int32) (hR : kb_REL X) : kb_Met l E 202 yL_thread wsL_thread ({ frames := 9, cells := 3, slots := 18, locals := 148 }) [.ref (E.2.2.2 0), .int b, .int r, .int t, .ref (E.2.2.2 201)] (kb_ent E X Y) (kb_hp E (kb_hx (kb_e b (X 0 3) ∧ kb_e r (nI ((kb_tn (X (92 + 7 * kb_tn b) 3)) + 1)) ∧ kb_e t (X (92 + 7 * kb_tn b) 2)) True (fun v X1 => v = nI (kb_at (kb_kd (X (92 + 7 * kb_tn b + 2))) (kb_tn (X (92 + 7 * kb_tn b) 2)) (kb_tn r) (kb_tn t)) ∧ kb_sameB (kb_tn b) X X1) (fun X1 => X1 = X))) := by
  refine kb_enterH (cc := cL_thread) (maxL := 6) (ret := some .int) (hh := [(0, 12, 15, 13)]) (by decide +kernel) rfl (by simp [Value.category]) (Nat.le_of_ble_eq_true rfl) ?_
  intro p e s m args below meth c C htab
  refine q_aload C dL_thread_0 rfl ?_
  refine q_iconst C (v := nI 0) dL_thread_2 (by decide) ?_
  refine q_aload_n C dL_thread_3 rfl ?_
  refine q_iload_n C dL_thread_4 rfl ?_
  refine q_iload_n C dL_thread_5 rfl ?_
  refine q_iload_n C dL_thread_6 rfl ?_
  refine x_callVT1 (As := [_, _, _]) (nA := 3) (T := TX4) (NF := 5) (x1 := ⟨0, 12, 15, 13⟩) C htab rfl (by decide) (List.mem_of_getElem? (i := 1) rfl) dL_thread_7 ob_K rfl (m_thread _ _ X Y b r t hR.cb) gL_thread_X4_thread rfl (by decide +kernel) rfl ⟨Nat.le_of_ble_eq_true rfl, Nat.le_of_ble_eq_true rfl⟩ (Nat.le_of_ble_eq_true rfl) ⟨Nat.le_of_ble_eq_true rfl, Nat.le_of_ble_eq_true rfl⟩ kb_tGz1 (fun v g' h => ?_) (fun g9 q h => ?_)
  · obtain ⟨c1, rfl, X', rfl, hs⟩ := h
    exact kb_fin C (Or.inl ⟨c1, trivial, rfl, rfl, hs⟩) dL_thread_10 dL_thread_11 dL_thread_12 (by decide) dL_thread_19 dL_thread_20
  · refine q_astore C dL_thread_15 (by decide) rfl ?_
    refine q_iconst C (v := nI 1) dL_thread_17 (by decide) ?_
    exact q_iret C dL_thread_18 (kb_hp1 h)
set_option maxRecDepth 100000 in
set_option maxHeartbeats 4000000 in
/-- the law's used -/
theorem h_used (l : Launch) (E : kb_E) (X : Nat → Nat → Int32) (Y : Nat → Nat → Int64) (b t : Int32) (hR : kb_REL X) : kb_Met l E 202 yL_used wsL_used ({ frames := 9, cells := 2, slots := 12, locals := 147 }) [.ref (E.2.2.2 0), .int b, .int t, .ref (E.2.2.2 201)] (kb_ent E X Y) (kb_hp E (kb_hx (kb_e b (X 0 3) ∧ kb_e t (X (92 + 7 * kb_tn b) 2)) True (fun v X1 => v = nI (kb_use (kb_kd (X (92 + 7 * kb_tn b + 2))) (kb_tn (X (92 + 7 * kb_tn b) 2)) (kb_tn t) (kb_tn (X (92 + 7 * kb_tn b) 3))) ∧ kb_sameB (kb_tn b) X X1) (fun X1 => X1 = X))) := by
  refine kb_enterH (cc := cL_used) (maxL := 5) (ret := some .int) (hh := [(0, 10, 13, 13)]) (by decide +kernel) rfl (by simp [Value.category]) (Nat.le_of_ble_eq_true rfl) ?_
  intro p e s m args below meth c C htab
  refine q_aload_n C dL_used_0 rfl ?_
  refine q_iconst C (v := nI 0) dL_used_1 (by decide) ?_
  refine q_aload_n C dL_used_2 rfl ?_
  refine q_iload_n C dL_used_3 rfl ?_
  refine q_iload_n C dL_used_4 rfl ?_
  refine x_callVT1 (As := [_, _]) (nA := 2) (T := TX4) (NF := 5) (x1 := ⟨0, 10, 13, 13⟩) C htab rfl (by decide) (List.mem_of_getElem? (i := 1) rfl) dL_used_5 ob_K rfl (m_used _ _ X Y b t hR.cb) gL_used_X4_used rfl (by decide +kernel) rfl ⟨Nat.le_of_ble_eq_true rfl, Nat.le_of_ble_eq_true rfl⟩ (Nat.le_of_ble_eq_true rfl) ⟨Nat.le_of_ble_eq_true rfl, Nat.le_of_ble_eq_true rfl⟩ kb_tGz1 (fun v g' h => ?_) (fun g9 q h => ?_)
  · obtain ⟨c1, rfl, X', rfl, hs⟩ := h
    exact kb_fin C (Or.inl ⟨c1, trivial, rfl, rfl, hs⟩) dL_used_8 dL_used_9 dL_used_10 (by decide) dL_used_17 dL_used_18
  · refine q_astore C dL_used_13 (by decide) rfl ?_
    refine q_iconst C (v := nI 1) dL_used_15 (by decide) ?_
    exact q_iret C dL_used_16 (kb_hp1 h)
set_option maxRecDepth 100000 in
set_option maxHeartbeats 4000000 in
/-- the law's home -/
theorem h_home (l : Launch) (E : kb_E) (X : Nat → Nat → Int32) (Y : Nat → Nat → Int64) (b w0 : Int32) (hR : kb_REL X) : kb_Met l E 202 yL_home wsL_home ({ frames := 9, cells := 2, slots := 12, locals := 147 }) [.ref (E.2.2.2 0), .int b, .int w0, .ref (E.2.2.2 201)] (kb_ent E X Y) (kb_hp E (kb_hx (kb_e b (X 0 3) ∧ kb_e w0 (nI 2)) True (fun v X1 => (∀ z, z ≠ 92 + 7 * kb_tn b + 3 → z ≠ 92 + 7 * kb_tn b + 4 → z ≠ 92 + 7 * kb_tn b + 5 → z ≠ 92 + 7 * kb_tn b + 6 → X1 z = X z) ∧ ((kb_tn (X (92 + 7 * kb_tn b) 3)) % 2 = 1 → v = -1) ∧ (¬ (kb_tn (X (92 + 7 * kb_tn b) 3)) % 2 = 1 → ∃ T, 1 ≤ T ∧ T ≤ 6 ∧ v = nI T ∧ kb_hmT (kb_at (kb_kd (X (92 + 7 * kb_tn b + 2))) (kb_tn (X (92 + 7 * kb_tn b) 2)) (kb_tn (X (92 + 7 * kb_tn b) 3))) (kb_tn (X (92 + 7 * kb_tn b) 2)) (decide (¬ w0 = 0)) (X (92 + 7 * kb_tn b + 1)) T)) (fun X1 => X1 = X))) := by
  refine kb_enterH (cc := cL_home) (maxL := 5) (ret := some .int) (hh := [(0, 10, 13, 13)]) (by decide +kernel) rfl (by simp [Value.category]) (Nat.le_of_ble_eq_true rfl) ?_
  intro p e s m args below meth c C htab
  refine q_aload_n C dL_home_0 rfl ?_
  refine q_iconst C (v := nI 0) dL_home_1 (by decide) ?_
  refine q_aload_n C dL_home_2 rfl ?_
  refine q_iload_n C dL_home_3 rfl ?_
  refine q_iload_n C dL_home_4 rfl ?_
  refine x_callVT1 (As := [_, _]) (nA := 2) (T := TX4) (NF := 5) (x1 := ⟨0, 10, 13, 13⟩) C htab rfl (by decide) (List.mem_of_getElem? (i := 1) rfl) dL_home_5 ob_K rfl (m_home _ _ X Y b w0 hR.cb) gL_home_X4_home rfl (by decide +kernel) rfl ⟨Nat.le_of_ble_eq_true rfl, Nat.le_of_ble_eq_true rfl⟩ (Nat.le_of_ble_eq_true rfl) ⟨Nat.le_of_ble_eq_true rfl, Nat.le_of_ble_eq_true rfl⟩ kb_tGz1 (fun v g' h => ?_) (fun g9 q h => ?_)
  · obtain ⟨c1, X', rfl, hz, p1, p2⟩ := h
    by_cases o : (kb_tn (X (92 + 7 * kb_tn b) 3)) % 2 = 1
    · obtain rfl := p1 o
      exact kb_fin C (Or.inl ⟨c1, trivial, rfl, hz, fun _ => rfl, fun z => absurd o z⟩) dL_home_8 dL_home_9 dL_home_10 (by decide) dL_home_17 dL_home_18
    · obtain ⟨T, t1, t2, rfl, t3⟩ := p2 o
      exact kb_fin C (Or.inl ⟨c1, trivial, rfl, hz, fun z => absurd z o, fun _ => ⟨T, t1, t2, rfl, t3⟩⟩) dL_home_8 dL_home_9 dL_home_10 (by decide) dL_home_17 dL_home_18
  · refine q_astore C dL_home_13 (by decide) rfl ?_
    refine q_iconst C (v := nI 1) dL_home_15 (by decide) ?_
    exact q_iret C dL_home_16 (kb_hp1 h)
set_option maxRecDepth 100000 in
set_option maxHeartbeats 4000000 in
/-- the law's unlike -/
theorem h_unlike (l : Launch) (E : kb_E) (X : Nat → Nat → Int32) (Y : Nat → Nat → Int64) (b d : Int32) (hR : kb_REL X) : kb_Met l E 202 yL_unlike wsL_unlike ({ frames := 9, cells := 3, slots := 18, locals := 153 }) [.ref (E.2.2.2 0), .int b, .int d, .ref (E.2.2.2 201)] (kb_ent E X Y) (kb_hp E (kb_hx (kb_e b (X 0 3) ∧ kb_e d (X 0 3)) (X (92 + 7 * kb_tn b) 2 = X (92 + 7 * kb_tn d) 2 ∧ X (92 + 7 * kb_tn b) 3 = X (92 + 7 * kb_tn d) 3) (fun v X1 => v = nI (kb_cnt (fun r k => kb_cun X (kb_tn b) (kb_tn d) (kb_tn (X (92 + 7 * kb_tn b) 2)) r k) (kb_tn (X (92 + 7 * kb_tn b) 2)) (kb_tn (X (92 + 7 * kb_tn b) 3))) ∧ ∀ z, z ≠ 92 + 7 * kb_tn b + 3 → z ≠ 92 + 7 * kb_tn b + 4 → z ≠ 92 + 7 * kb_tn b + 5 → z ≠ 92 + 7 * kb_tn d + 3 → z ≠ 92 + 7 * kb_tn d + 4 → z ≠ 92 + 7 * kb_tn d + 5 → X1 z = X z) (fun X1 => X1 = X))) := by
  refine kb_enterH (cc := cL_unlike) (maxL := 5) (ret := some .int) (hh := [(0, 10, 13, 13), (0, 10, 17, 15)]) (by decide +kernel) rfl (by simp [Value.category]) (Nat.le_of_ble_eq_true rfl) ?_
  intro p e s m args below meth c C htab
  refine q_aload_n C dL_unlike_0 rfl ?_
  refine q_iconst C (v := nI 0) dL_unlike_1 (by decide) ?_
  refine q_aload_n C dL_unlike_2 rfl ?_
  refine q_iload_n C dL_unlike_3 rfl ?_
  refine q_iload_n C dL_unlike_4 rfl ?_
  refine x_callVT2 (As := [_, _]) (nA := 2) (T := TX4) (NF := 5) (x1 := ⟨0, 10, 13, 13⟩) (x2 := ⟨0, 10, 17, 15⟩) C htab rfl (by decide) rfl (by decide) (List.mem_of_getElem? (i := 1) rfl) (List.mem_of_getElem? (i := 2) rfl) dL_unlike_5 ob_K rfl (m_unlike _ _ X Y b d hR.cb) gL_unlike_X4_unlike rfl (by decide +kernel) rfl ⟨Nat.le_of_ble_eq_true rfl, Nat.le_of_ble_eq_true rfl⟩ (Nat.le_of_ble_eq_true rfl) ⟨Nat.le_of_ble_eq_true rfl, Nat.le_of_ble_eq_true rfl⟩ kb_tGz (fun v g' h => ?_) (fun g9 q h => ?_) (fun g9 q h => ?_)
  · obtain ⟨c1, c2, rfl, X', rfl, hs⟩ := h
    exact kb_fin C (Or.inl ⟨c1, c2, rfl, rfl, hs⟩) dL_unlike_8 dL_unlike_9 dL_unlike_10 (by decide) dL_unlike_21 dL_unlike_22
  · refine q_astore C dL_unlike_13 (by decide) rfl ?_
    refine q_iconst C (v := nI 1) dL_unlike_15 (by decide) ?_
    exact q_iret C dL_unlike_16 (kb_hp1 h)
  · refine q_astore C dL_unlike_17 (by decide) rfl ?_
    refine q_iconst C (v := nI 2) dL_unlike_19 (by decide) ?_
    exact q_iret C dL_unlike_20 (kb_hp2 h)
set_option maxRecDepth 100000 in
set_option maxHeartbeats 4000000 in
/-- the law's see -/
theorem h_see (l : Launch) (E : kb_E) (X : Nat → Nat → Int32) (Y : Nat → Nat → Int64) (b r k c0 : Int32) (hR : kb_REL X) : kb_Met l E 202 yL_see wsL_see ({ frames := 9, cells := 4, slots := 24, locals := 151 }) [.ref (E.2.2.2 0), .int b, .int r, .int k, .int c0, .ref (E.2.2.2 201)] (kb_ent E X Y) (kb_hp E (kb_hx (kb_e b (X 0 4) ∧ kb_e r (X (148 + 5 * kb_tn b) 3) ∧ kb_e k (kb_knotsIn (X (148 + 5 * kb_tn b) 2) r)) (kb_e c0 (nI 5)) (fun v X1 => v = X (148 + 5 * kb_tn b + 1) (3 * kb_tn r + kb_tn k) ∧ X1 = kb_unw (va_up X (148 + 5 * kb_tn b + 1) (upd (X (148 + 5 * kb_tn b + 1)) (3 * kb_tn r + kb_tn k) c0)) (kb_tn b)) (fun X1 => X1 = X))) := by
  refine kb_enterH (cc := cL_see) (maxL := 7) (ret := some .int) (hh := [(0, 14, 17, 13), (0, 14, 21, 15)]) (by decide +kernel) rfl (by simp [Value.category]) (Nat.le_of_ble_eq_true rfl) ?_
  intro p e s m args below meth c C htab
  refine q_aload C dL_see_0 rfl ?_
  refine q_iconst C (v := nI 0) dL_see_2 (by decide) ?_
  refine q_aload_n C dL_see_3 rfl ?_
  refine q_iload_n C dL_see_4 rfl ?_
  refine q_iload_n C dL_see_5 rfl ?_
  refine q_iload_n C dL_see_6 rfl ?_
  refine q_iload C dL_see_7 rfl ?_
  refine x_callVT2 (As := [_, _, _, _]) (nA := 4) (T := TX4) (NF := 5) (x1 := ⟨0, 14, 17, 13⟩) (x2 := ⟨0, 14, 21, 15⟩) C htab rfl (by decide) rfl (by decide) (List.mem_of_getElem? (i := 1) rfl) (List.mem_of_getElem? (i := 2) rfl) dL_see_9 ob_K rfl (m_see _ _ X Y b r k c0 _ _ hR.cp) gL_see_X4_see rfl (by decide +kernel) rfl ⟨Nat.le_of_ble_eq_true rfl, Nat.le_of_ble_eq_true rfl⟩ (Nat.le_of_ble_eq_true rfl) ⟨Nat.le_of_ble_eq_true rfl, Nat.le_of_ble_eq_true rfl⟩ kb_tGz (fun v g' h => ?_) (fun g9 q h => ?_) (fun g9 q h => ?_)
  · obtain ⟨c1, c2, rfl, rfl⟩ := h
    exact kb_fin C (Or.inl ⟨c1, c2, rfl, rfl, rfl⟩) dL_see_12 dL_see_13 dL_see_14 (by decide) dL_see_25 dL_see_26
  · refine q_astore C dL_see_17 (by decide) rfl ?_
    refine q_iconst C (v := nI 1) dL_see_19 (by decide) ?_
    exact q_iret C dL_see_20 (kb_hp1 h)
  · refine q_astore C dL_see_21 (by decide) rfl ?_
    refine q_iconst C (v := nI 2) dL_see_23 (by decide) ?_
    exact q_iret C dL_see_24 (kb_hp2 h)
set_option maxRecDepth 100000 in
set_option maxHeartbeats 4000000 in
/-- the law's must -/
theorem h_must (l : Launch) (E : kb_E) (X : Nat → Nat → Int32) (Y : Nat → Nat → Int64) (b t c0 : Int32) (hR : kb_REL X) : kb_Met l E 202 yL_must wsL_must ({ frames := 9, cells := 3, slots := 18, locals := 149 }) [.ref (E.2.2.2 0), .int b, .int t, .int c0, .ref (E.2.2.2 201)] (kb_ent E X Y) (kb_hp E (kb_hx (kb_e b (X 0 4) ∧ kb_e t (X (148 + 5 * kb_tn b) 2)) (kb_e c0 (nI 5)) (fun v X1 => v = X (148 + 5 * kb_tn b + 2) (kb_tn t) ∧ X1 = kb_unw (va_up X (148 + 5 * kb_tn b + 2) (upd (X (148 + 5 * kb_tn b + 2)) (kb_tn t) c0)) (kb_tn b)) (fun X1 => X1 = X))) := by
  refine kb_enterH (cc := cL_must) (maxL := 6) (ret := some .int) (hh := [(0, 12, 15, 13), (0, 12, 19, 15)]) (by decide +kernel) rfl (by simp [Value.category]) (Nat.le_of_ble_eq_true rfl) ?_
  intro p e s m args below meth c C htab
  refine q_aload C dL_must_0 rfl ?_
  refine q_iconst C (v := nI 0) dL_must_2 (by decide) ?_
  refine q_aload_n C dL_must_3 rfl ?_
  refine q_iload_n C dL_must_4 rfl ?_
  refine q_iload_n C dL_must_5 rfl ?_
  refine q_iload_n C dL_must_6 rfl ?_
  refine x_callVT2 (As := [_, _, _]) (nA := 3) (T := TX4) (NF := 5) (x1 := ⟨0, 12, 15, 13⟩) (x2 := ⟨0, 12, 19, 15⟩) C htab rfl (by decide) rfl (by decide) (List.mem_of_getElem? (i := 1) rfl) (List.mem_of_getElem? (i := 2) rfl) dL_must_7 ob_K rfl (m_must _ _ X Y b t c0 _ _ hR.cp) gL_must_X4_must rfl (by decide +kernel) rfl ⟨Nat.le_of_ble_eq_true rfl, Nat.le_of_ble_eq_true rfl⟩ (Nat.le_of_ble_eq_true rfl) ⟨Nat.le_of_ble_eq_true rfl, Nat.le_of_ble_eq_true rfl⟩ kb_tGz (fun v g' h => ?_) (fun g9 q h => ?_) (fun g9 q h => ?_)
  · obtain ⟨c1, c2, rfl, rfl⟩ := h
    exact kb_fin C (Or.inl ⟨c1, c2, rfl, rfl, rfl⟩) dL_must_10 dL_must_11 dL_must_12 (by decide) dL_must_23 dL_must_24
  · refine q_astore C dL_must_15 (by decide) rfl ?_
    refine q_iconst C (v := nI 1) dL_must_17 (by decide) ?_
    exact q_iret C dL_must_18 (kb_hp1 h)
  · refine q_astore C dL_must_19 (by decide) rfl ?_
    refine q_iconst C (v := nI 2) dL_must_21 (by decide) ?_
    exact q_iret C dL_must_22 (kb_hp2 h)
set_option maxRecDepth 100000 in
set_option maxHeartbeats 4000000 in
/-- the law's copy -/
theorem h_copy (l : Launch) (E : kb_E) (X : Nat → Nat → Int32) (Y : Nat → Nat → Int64) (b d : Int32) (hR : kb_REL X) : kb_Met l E 202 yL_copy wsL_copy ({ frames := 9, cells := 2, slots := 12, locals := 149 }) [.ref (E.2.2.2 0), .int b, .int d, .ref (E.2.2.2 201)] (kb_ent E X Y) (kb_hp E (kb_hx (kb_e b (X 0 4) ∧ kb_e d (X 0 3)) True (fun v X1 => ((¬ (X (148 + 5 * kb_tn b) 2 = X (92 + 7 * kb_tn d) 2 ∧ X (148 + 5 * kb_tn b) 3 = X (92 + 7 * kb_tn d) 3) ∧ v = nI 0 ∧ X1 = X) ∨ ((X (148 + 5 * kb_tn b) 2 = X (92 + 7 * kb_tn d) 2 ∧ X (148 + 5 * kb_tn b) 3 = X (92 + 7 * kb_tn d) 3) ∧ v = nI 1 ∧ (∀ z, z ≠ 148 + 5 * kb_tn b → z ≠ 148 + 5 * kb_tn b + 1 → z ≠ 92 + 7 * kb_tn d + 3 → z ≠ 92 + 7 * kb_tn d + 4 → z ≠ 92 + 7 * kb_tn d + 5 → X1 z = X z) ∧ (∀ j, j ≠ 4 → X1 (148 + 5 * kb_tn b) j = X (148 + 5 * kb_tn b) j) ∧ X1 (148 + 5 * kb_tn b) 4 = nI 0 ∧ ∀ r, r < (kb_tn (X (92 + 7 * kb_tn d) 3)) → ∀ k, k < kb_kn (kb_tn (X (92 + 7 * kb_tn d) 2)) r → X1 (148 + 5 * kb_tn b + 1) (3 * r + k) = X (92 + 7 * kb_tn d + 1) (kb_sh (kb_kd (X (92 + 7 * kb_tn d + 2))) (kb_tn (X (92 + 7 * kb_tn d) 2)) r k)))) (fun X1 => X1 = X))) := by
  refine kb_enterH (cc := cL_copy) (maxL := 5) (ret := some .int) (hh := [(0, 17, 20, 13)]) (by decide +kernel) rfl (by simp [Value.category]) (Nat.le_of_ble_eq_true rfl) ?_
  intro p e s m args below meth c C htab
  refine q_aload_n C dL_copy_0 rfl ?_
  refine q_iconst C (v := nI 0) dL_copy_1 (by decide) ?_
  refine q_aload_n C dL_copy_2 rfl ?_
  refine q_iload_n C dL_copy_3 rfl ?_
  refine q_iload_n C dL_copy_4 rfl ?_
  refine x_callVT1 (As := [_, _]) (nA := 2) (T := TX4) (NF := 5) (x1 := ⟨0, 17, 20, 13⟩) C htab rfl (by decide) (List.mem_of_getElem? (i := 1) rfl) dL_copy_5 ob_K rfl (m_copy _ _ X Y b d _ _ hR.cp hR.cb) gL_copy_X4_copy rfl (by decide +kernel) rfl ⟨Nat.le_of_ble_eq_true rfl, Nat.le_of_ble_eq_true rfl⟩ (Nat.le_of_ble_eq_true rfl) ⟨Nat.le_of_ble_eq_true rfl, Nat.le_of_ble_eq_true rfl⟩ kb_tGz1 (fun v g' h => ?_) (fun g9 q h => ?_)
  · obtain ⟨c1, ⟨a, rfl, rfl⟩ | ⟨a, rfl, X', rfl, h1, h2, h3, h4⟩⟩ := h
    · refine q_ifeq C (tgt := 15) dL_copy_8 (by decide) (fun c8 => ?_) (fun c8 => ?_)
      · refine q_lconst C (v := 0) dL_copy_15 rfl ?_
        refine x_lastN C dL_copy_16 la_out (by decide) (by decide) ?_
        refine q_goto C (tgt := 24) dL_copy_17 (by decide) ?_
        refine q_iconst C (v := nI 0) dL_copy_24 (by decide) ?_
        exact q_iret C dL_copy_25 ⟨0, nI 0, _, _, rfl, by decide, Or.inl ⟨c1, trivial, rfl, Or.inl ⟨a, rfl, rfl⟩⟩, fun _ => by rw [kb_up_self]; exact pk_uLs, rfl⟩
      · exact absurd (show nI 0 = 0 by decide) c8
    · refine q_ifeq C (tgt := 15) dL_copy_8 (by decide) (fun c8 => ?_) (fun c8 => ?_)
      · exact absurd c8 (by decide)
      · refine q_lconst C (v := 1) dL_copy_11 rfl ?_
        refine q_goto C (tgt := 16) dL_copy_12 (by decide) ?_
        refine x_lastN C dL_copy_16 la_out (by decide) (by decide) ?_
        refine q_goto C (tgt := 24) dL_copy_17 (by decide) ?_
        refine q_iconst C (v := nI 0) dL_copy_24 (by decide) ?_
        exact q_iret C dL_copy_25 ⟨0, nI 1, _, _, rfl, by decide, Or.inl ⟨c1, trivial, rfl, Or.inr ⟨a, rfl, h1, h2, h3, h4⟩⟩, fun _ => by rw [kb_up_self]; exact pk_uLs, rfl⟩
  · refine q_astore C dL_copy_20 (by decide) rfl ?_
    refine q_iconst C (v := nI 1) dL_copy_22 (by decide) ?_
    exact q_iret C dL_copy_23 (kb_hp1 h)
set_option maxRecDepth 100000 in
set_option maxHeartbeats 4000000 in
/-- the law's starts -/
theorem h_starts (l : Launch) (E : kb_E) (X : Nat → Nat → Int32) (Y : Nat → Nat → Int64) (b : Int32) (hR : kb_REL X) : kb_Met l E 202 yL_starts wsL_starts ({ frames := 10, cells := 1, slots := 6, locals := 167 }) [.ref (E.2.2.2 0), .int b, .ref (E.2.2.2 201)] (kb_ent E X Y) (kb_hp E (kb_hx (kb_e b (X 0 4)) True (fun v X1 => v = nI (kb_ct (kb_St (kb_tn (X (148 + 5 * kb_tn b) 2)) (kb_tn (X (148 + 5 * kb_tn b) 3)) (kb_mtd X (kb_tn b)) (kb_mu6 X (kb_tn b))) 4096) ∧ kb_wout (kb_tn b) (kb_tn (X (148 + 5 * kb_tn b) 2)) (kb_tn (X (148 + 5 * kb_tn b) 3)) (kb_mtd X (kb_tn b)) (kb_mu6 X (kb_tn b)) X X1) (fun X1 => X1 = X))) := by
  refine kb_enterH (cc := cL_starts) (maxL := 4) (ret := some .int) (hh := [(0, 9, 12, 13)]) (by decide +kernel) rfl (by simp [Value.category]) (Nat.le_of_ble_eq_true rfl) ?_
  intro p e s m args below meth c C htab
  refine q_aload_n C dL_starts_0 rfl ?_
  refine q_iconst C (v := nI 0) dL_starts_1 (by decide) ?_
  refine q_aload_n C dL_starts_2 rfl ?_
  refine q_iload_n C dL_starts_3 rfl ?_
  refine x_callVT1 (As := [_]) (nA := 1) (T := TX4) (NF := 5) (x1 := ⟨0, 9, 12, 13⟩) C htab rfl (by decide) (List.mem_of_getElem? (i := 1) rfl) dL_starts_4 ob_K rfl (m_starts _ _ X Y b _ _ hR.cp) gL_starts_X4_starts rfl (by decide +kernel) rfl ⟨Nat.le_of_ble_eq_true rfl, Nat.le_of_ble_eq_true rfl⟩ (Nat.le_of_ble_eq_true rfl) ⟨Nat.le_of_ble_eq_true rfl, Nat.le_of_ble_eq_true rfl⟩ kb_tGz1 (fun v g' h => ?_) (fun g9 q h => ?_)
  · obtain ⟨c1, rfl, X', Y', rfl, hY, hw⟩ := h
    exact kb_fin C (Or.inl ⟨c1, trivial, rfl, rfl, hw⟩) dL_starts_7 dL_starts_8 dL_starts_9 (by decide) dL_starts_15 dL_starts_16
  · refine q_astore_n C dL_starts_12 (by decide) rfl ?_
    refine q_iconst C (v := nI 1) dL_starts_13 (by decide) ?_
    exact q_iret C dL_starts_14 (kb_hp1 h)
set_option maxRecDepth 100000 in
set_option maxHeartbeats 4000000 in
/-- the law's start -/
theorem h_start (l : Launch) (E : kb_E) (X : Nat → Nat → Int32) (Y : Nat → Nat → Int64) (b t : Int32) (hR : kb_REL X) : kb_Met l E 202 yL_start wsL_start ({ frames := 10, cells := 3, slots := 18, locals := 169 }) [.ref (E.2.2.2 0), .int b, .int t, .ref (E.2.2.2 201)] (kb_ent E X Y) (kb_hp E (kb_hx (kb_e b (X 0 4) ∧ kb_e t (X (148 + 5 * kb_tn b) 2)) True (fun v X1 => kb_wout (kb_tn b) (kb_tn (X (148 + 5 * kb_tn b) 2)) (kb_tn (X (148 + 5 * kb_tn b) 3)) (kb_mtd X (kb_tn b)) (kb_mu6 X (kb_tn b)) X X1 ∧ v = (if (kb_ct (kb_St (kb_tn (X (148 + 5 * kb_tn b) 2)) (kb_tn (X (148 + 5 * kb_tn b) 3)) (kb_mtd X (kb_tn b)) (kb_mu6 X (kb_tn b))) 4096) = 0 then -1 else kb_colourIn (X1 (148 + 5 * kb_tn b) 6) t)) (fun X1 => X1 = X))) := by
  refine kb_enterH (cc := cL_start) (maxL := 5) (ret := some .int) (hh := [(0, 10, 13, 13)]) (by decide +kernel) rfl (by simp [Value.category]) (Nat.le_of_ble_eq_true rfl) ?_
  intro p e s m args below meth c C htab
  refine q_aload_n C dL_start_0 rfl ?_
  refine q_iconst C (v := nI 0) dL_start_1 (by decide) ?_
  refine q_aload_n C dL_start_2 rfl ?_
  refine q_iload_n C dL_start_3 rfl ?_
  refine q_iload_n C dL_start_4 rfl ?_
  refine x_callVT1 (As := [_, _]) (nA := 2) (T := TX4) (NF := 5) (x1 := ⟨0, 10, 13, 13⟩) C htab rfl (by decide) (List.mem_of_getElem? (i := 1) rfl) dL_start_5 ob_K rfl (m_start _ _ X Y b t _ _ hR.cp) gL_start_X4_start rfl (by decide +kernel) rfl ⟨Nat.le_of_ble_eq_true rfl, Nat.le_of_ble_eq_true rfl⟩ (Nat.le_of_ble_eq_true rfl) ⟨Nat.le_of_ble_eq_true rfl, Nat.le_of_ble_eq_true rfl⟩ kb_tGz1 (fun v g' h => ?_) (fun g9 q h => ?_)
  · obtain ⟨c1, X', Y', rfl, hY, hw, rfl⟩ := h
    exact kb_fin C (Or.inl ⟨c1, trivial, rfl, hw, rfl⟩) dL_start_8 dL_start_9 dL_start_10 (by decide) dL_start_17 dL_start_18
  · refine q_astore C dL_start_13 (by decide) rfl ?_
    refine q_iconst C (v := nI 1) dL_start_15 (by decide) ?_
    exact q_iret C dL_start_16 (kb_hp1 h)
set_option maxRecDepth 100000 in
set_option maxHeartbeats 4000000 in
/-- the law's tie -/
theorem h_tie (l : Launch) (E : kb_E) (X : Nat → Nat → Int32) (Y : Nat → Nat → Int64) (b : Int32) (hR : kb_REL X) : kb_Met l E 202 yL_tie wsL_tie ({ frames := 10, cells := 1, slots := 6, locals := 168 }) [.ref (E.2.2.2 0), .int b, .ref (E.2.2.2 201)] (kb_ent E X Y) (kb_hp E (kb_hx (kb_e b (X 0 4)) True (fun v X1 => ∃ X', kb_wout (kb_tn b) (kb_tn (X (148 + 5 * kb_tn b) 2)) (kb_tn (X (148 + 5 * kb_tn b) 3)) (kb_mtd X (kb_tn b)) (kb_mu6 X (kb_tn b)) X X' ∧ ((((kb_ct (kb_St (kb_tn (X (148 + 5 * kb_tn b) 2)) (kb_tn (X (148 + 5 * kb_tn b) 3)) (kb_mtd X (kb_tn b)) (kb_mu6 X (kb_tn b))) 4096) = 0 ∨ (kb_tn (X 0 3)) = 8) ∧ v = -1 ∧ X1 = X') ∨ (¬ (kb_ct (kb_St (kb_tn (X (148 + 5 * kb_tn b) 2)) (kb_tn (X (148 + 5 * kb_tn b) 3)) (kb_mtd X (kb_tn b)) (kb_mu6 X (kb_tn b))) 4096) = 0 ∧ (kb_tn (X 0 3)) < 8 ∧ ∃ s0, s0 < 4096 ∧ X' (148 + 5 * kb_tn b) 6 = nI s0 ∧ v = nI (kb_tn (X 0 3)) ∧ ∃ Xb, kb_bcm (kb_tn (X 0 3)) (kb_tn b) (kb_tn (X (148 + 5 * kb_tn b) 2)) (kb_tn (X (148 + 5 * kb_tn b) 3)) s0 (kb_tn (X (148 + 5 * kb_tn b) 2)) (kb_tn (X (148 + 5 * kb_tn b) 3)) X' Xb ∧ X1 = va_up Xb 0 (upd (Xb 0) 3 (nI ((kb_tn (X 0 3)) + 1)))))) (fun X1 => X1 = X))) := by
  refine kb_enterH (cc := cL_tie) (maxL := 4) (ret := some .int) (hh := [(0, 9, 12, 13)]) (by decide +kernel) rfl (by simp [Value.category]) (Nat.le_of_ble_eq_true rfl) ?_
  intro p e s m args below meth c C htab
  refine q_aload_n C dL_tie_0 rfl ?_
  refine q_iconst C (v := nI 0) dL_tie_1 (by decide) ?_
  refine q_aload_n C dL_tie_2 rfl ?_
  refine q_iload_n C dL_tie_3 rfl ?_
  refine x_callVT1 (As := [_]) (nA := 1) (T := TX4) (NF := 5) (x1 := ⟨0, 9, 12, 13⟩) C htab rfl (by decide) (List.mem_of_getElem? (i := 1) rfl) dL_tie_4 ob_K rfl (m_tie _ _ X Y b _ _ hR.cp hR.cb) gL_tie_X4_tie rfl (by decide +kernel) rfl ⟨Nat.le_of_ble_eq_true rfl, Nat.le_of_ble_eq_true rfl⟩ (Nat.le_of_ble_eq_true rfl) ⟨Nat.le_of_ble_eq_true rfl, Nat.le_of_ble_eq_true rfl⟩ kb_tGz1 (fun v g' h => ?_) (fun g9 q h => ?_)
  · obtain ⟨c1, X', X2, Y', rfl, hY, hw, ⟨a, rfl, rfl⟩ | ⟨a1, a2, s0, a3, a4, rfl, Xb, a5, rfl⟩⟩ := h
    · exact kb_fin C (Or.inl ⟨c1, trivial, rfl, _, hw, Or.inl ⟨a, rfl, rfl⟩⟩) dL_tie_7 dL_tie_8 dL_tie_9 (by decide) dL_tie_15 dL_tie_16
    · exact kb_fin C (Or.inl ⟨c1, trivial, rfl, X', hw, Or.inr ⟨a1, a2, s0, a3, a4, rfl, Xb, a5, rfl⟩⟩) dL_tie_7 dL_tie_8 dL_tie_9 (by decide) dL_tie_15 dL_tie_16
  · refine q_astore_n C dL_tie_12 (by decide) rfl ?_
    refine q_iconst C (v := nI 1) dL_tie_13 (by decide) ?_
    exact q_iret C dL_tie_14 (kb_hp1 h)
set_option maxRecDepth 100000 in
set_option maxHeartbeats 4000000 in
/-- the law's suspect -/
theorem h_suspect (l : Launch) (E : kb_E) (X : Nat → Nat → Int32) (Y : Nat → Nat → Int64) (b i : Int32) (hR : kb_REL X) : kb_Met l E 202 yL_suspect wsL_suspect ({ frames := 10, cells := 2, slots := 12, locals := 169 }) [.ref (E.2.2.2 0), .int b, .int i, .ref (E.2.2.2 201)] (kb_ent E X Y) (kb_hp E (kb_hx (kb_e b (X 0 4) ∧ (i = -1 ∨ kb_e i (nI (if kb_ct (kb_St (kb_tn (X (148 + 5 * kb_tn b) 2)) (kb_tn (X (148 + 5 * kb_tn b) 3)) (kb_mtd X (kb_tn b)) (kb_mu6 X (kb_tn b))) 4096 = 0 then (kb_Lq (kb_tn (X (148 + 5 * kb_tn b) 2)) (kb_tn (X (148 + 5 * kb_tn b) 3)) (kb_mtd X (kb_tn b)) (kb_mu6 X (kb_tn b))).length else 0)))) True (fun v X1 => kb_wout (kb_tn b) (kb_tn (X (148 + 5 * kb_tn b) 2)) (kb_tn (X (148 + 5 * kb_tn b) 3)) (kb_mtd X (kb_tn b)) (kb_mu6 X (kb_tn b)) X X1 ∧ v = (if i = -1 then nI (if kb_ct (kb_St (kb_tn (X (148 + 5 * kb_tn b) 2)) (kb_tn (X (148 + 5 * kb_tn b) 3)) (kb_mtd X (kb_tn b)) (kb_mu6 X (kb_tn b))) 4096 = 0 then (kb_Lq (kb_tn (X (148 + 5 * kb_tn b) 2)) (kb_tn (X (148 + 5 * kb_tn b) 3)) (kb_mtd X (kb_tn b)) (kb_mu6 X (kb_tn b))).length else 0) else nI ((kb_Lq (kb_tn (X (148 + 5 * kb_tn b) 2)) (kb_tn (X (148 + 5 * kb_tn b) 3)) (kb_mtd X (kb_tn b)) (kb_mu6 X (kb_tn b))).getD (kb_tn i) 0))) (fun X1 => X1 = X ∨ (kb_e b (X 0 4) ∧ kb_wout (kb_tn b) (kb_tn (X (148 + 5 * kb_tn b) 2)) (kb_tn (X (148 + 5 * kb_tn b) 3)) (kb_mtd X (kb_tn b)) (kb_mu6 X (kb_tn b)) X X1)))) := by
  refine kb_enterH (cc := cL_suspect) (maxL := 5) (ret := some .int) (hh := [(0, 10, 13, 13)]) (by decide +kernel) rfl (by simp [Value.category]) (Nat.le_of_ble_eq_true rfl) ?_
  intro p e s m args below meth c C htab
  refine q_aload_n C dL_suspect_0 rfl ?_
  refine q_iconst C (v := nI 0) dL_suspect_1 (by decide) ?_
  refine q_aload_n C dL_suspect_2 rfl ?_
  refine q_iload_n C dL_suspect_3 rfl ?_
  refine q_iload_n C dL_suspect_4 rfl ?_
  refine x_callVT1 (As := [_, _]) (nA := 2) (T := TX4) (NF := 5) (x1 := ⟨0, 10, 13, 13⟩) C htab rfl (by decide) (List.mem_of_getElem? (i := 1) rfl) dL_suspect_5 ob_K rfl (m_suspect _ _ X Y b i _ _ hR.cp) gL_suspect_X4_suspect rfl (by decide +kernel) rfl ⟨Nat.le_of_ble_eq_true rfl, Nat.le_of_ble_eq_true rfl⟩ (Nat.le_of_ble_eq_true rfl) ⟨Nat.le_of_ble_eq_true rfl, Nat.le_of_ble_eq_true rfl⟩ (fun _ _ h => h.1) (fun v g' h => ?_) (fun g9 q h => ?_)
  · obtain ⟨c1, c2, X', Y', rfl, hY, hw, rfl⟩ := h
    exact kb_fin C (Or.inl ⟨⟨c1, c2⟩, trivial, rfl, hw, rfl⟩) dL_suspect_8 dL_suspect_9 dL_suspect_10 (by decide) dL_suspect_17 dL_suspect_18
  · have hp : (kb_hp E (kb_hx (kb_e b (X 0 4) ∧ (i = -1 ∨ kb_e i (nI (if kb_ct (kb_St (kb_tn (X (148 + 5 * kb_tn b) 2)) (kb_tn (X (148 + 5 * kb_tn b) 3)) (kb_mtd X (kb_tn b)) (kb_mu6 X (kb_tn b))) 4096 = 0 then (kb_Lq (kb_tn (X (148 + 5 * kb_tn b) 2)) (kb_tn (X (148 + 5 * kb_tn b) 3)) (kb_mtd X (kb_tn b)) (kb_mu6 X (kb_tn b))).length else 0)))) True (fun v X1 => kb_wout (kb_tn b) (kb_tn (X (148 + 5 * kb_tn b) 2)) (kb_tn (X (148 + 5 * kb_tn b) 3)) (kb_mtd X (kb_tn b)) (kb_mu6 X (kb_tn b)) X X1 ∧ v = (if i = -1 then nI (if kb_ct (kb_St (kb_tn (X (148 + 5 * kb_tn b) 2)) (kb_tn (X (148 + 5 * kb_tn b) 3)) (kb_mtd X (kb_tn b)) (kb_mu6 X (kb_tn b))) 4096 = 0 then (kb_Lq (kb_tn (X (148 + 5 * kb_tn b) 2)) (kb_tn (X (148 + 5 * kb_tn b) 3)) (kb_mtd X (kb_tn b)) (kb_mu6 X (kb_tn b))).length else 0) else nI ((kb_Lq (kb_tn (X (148 + 5 * kb_tn b) 2)) (kb_tn (X (148 + 5 * kb_tn b) 3)) (kb_mtd X (kb_tn b)) (kb_mu6 X (kb_tn b))).getD (kb_tn i) 0))) (fun X1 => X1 = X ∨ (kb_e b (X 0 4) ∧ kb_wout (kb_tn b) (kb_tn (X (148 + 5 * kb_tn b) 2)) (kb_tn (X (148 + 5 * kb_tn b) 3)) (kb_mtd X (kb_tn b)) (kb_mu6 X (kb_tn b)) X X1)))) (some (.int (nI 1))) g9 := by
      obtain ⟨-, ⟨h1, h2⟩ | ⟨h1, h2, X', Y', h3, h4, h5⟩⟩ := h
      · exact ⟨1, 0, X, Y, rfl, by decide, Or.inr (Or.inl ⟨fun z => h1 z.1, rfl, Or.inl rfl⟩), fun z => absurd z (by decide), h2⟩
      · exact ⟨1, 0, X', Y', rfl, by decide, Or.inr (Or.inl ⟨fun z => h2 z.2, rfl, Or.inr ⟨h1, h5⟩⟩), fun z => absurd z (by decide), h3⟩
    refine q_astore C dL_suspect_13 (by decide) rfl ?_
    refine q_iconst C (v := nI 1) dL_suspect_15 (by decide) ?_
    exact q_iret C dL_suspect_16 hp
set_option maxRecDepth 100000 in
set_option maxHeartbeats 4000000 in
/-- the law's count -/
theorem h_count (l : Launch) (E : kb_E) (X : Nat → Nat → Int32) (Y : Nat → Nat → Int64) (w0 : Int32) (hR : kb_REL X) : kb_Met l E 202 yL_count wsL_count ({ frames := 8, cells := 1, slots := 6, locals := 124 }) [.ref (E.2.2.2 0), .int w0, .ref (E.2.2.2 201)] (kb_ent E X Y) (kb_hp E (kb_hx (kb_e w0 (nI 2)) True (fun v X1 => v = (if w0 = 0 then X 0 3 else X 0 4) ∧ X1 = X) (fun X1 => X1 = X))) := by
  refine kb_enterH (cc := cL_count) (maxL := 4) (ret := some .int) (hh := [(0, 9, 12, 13)]) (by decide +kernel) rfl (by simp [Value.category]) (Nat.le_of_ble_eq_true rfl) ?_
  intro p e s m args below meth c C htab
  refine q_aload_n C dL_count_0 rfl ?_
  refine q_iconst C (v := nI 0) dL_count_1 (by decide) ?_
  refine q_aload_n C dL_count_2 rfl ?_
  refine q_iload_n C dL_count_3 rfl ?_
  refine x_callVT1 (As := [_]) (nA := 1) (T := TX4) (NF := 5) (x1 := ⟨0, 9, 12, 13⟩) C htab rfl (by decide) (List.mem_of_getElem? (i := 1) rfl) dL_count_4 ob_K rfl (m_count _ _ X Y w0) gL_count_X4_count rfl (by decide +kernel) rfl ⟨Nat.le_of_ble_eq_true rfl, Nat.le_of_ble_eq_true rfl⟩ (Nat.le_of_ble_eq_true rfl) ⟨Nat.le_of_ble_eq_true rfl, Nat.le_of_ble_eq_true rfl⟩ kb_tGz1 (fun v g' h => ?_) (fun g9 q h => ?_)
  · obtain ⟨c1, rfl, rfl⟩ := h
    exact kb_fin C (Or.inl ⟨c1, trivial, rfl, rfl, rfl⟩) dL_count_7 dL_count_8 dL_count_9 (by decide) dL_count_15 dL_count_16
  · refine q_astore_n C dL_count_12 (by decide) rfl ?_
    refine q_iconst C (v := nI 1) dL_count_13 (by decide) ?_
    exact q_iret C dL_count_14 (kb_hp1 h)

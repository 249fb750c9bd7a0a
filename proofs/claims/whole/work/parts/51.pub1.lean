/-! ===== the class's methods, first half ===== -/
/-- a is an index below x -/
def kb_e (a x : Int32) : Prop := ¬ a < 0 ∧ ¬ x ≤ a
theorem kb_el {a x : Int32} : (0 ≤ a ∧ a < x) ↔ kb_e a x := by
  unfold kb_e
  rw [Int32.not_lt, Int32.not_le]
theorem kb_e.nat {a x : Int32} (h : kb_e a x) (hx : x = nI (kb_tn x)) : a = nI (kb_tn a) ∧ kb_tn a < kb_tn x := by
  obtain ⟨j, hj, hj2⟩ := nI_of h.1
  obtain ⟨k, hk, e⟩ := kb_lt_nat h.1 h.2 hx
  have ej : kb_tn a = j := by rw [hj2]; exact kb_tn_nI hj
  rw [ej]
  refine ⟨hj2, ?_⟩
  rcases Nat.lt_or_ge j (kb_tn x) with q | q
  · exact q
  · exact absurd (by rw [hx, hj2]; exact nI_le q hj) h.2
theorem kb_e.natN {a : Int32} {n : Nat} (h : kb_e a (nI n)) (hn : n < 2 ^ 31) : a = nI (kb_tn a) ∧ kb_tn a < n := by
  have := h.nat (by rw [kb_tn_nI hn])
  rw [kb_tn_nI hn] at this
  exact this
/-- how a method of the class throws: at its start's world, NoSuchElementException ahead of IllegalArgumentException -/
def kb_tG (E : kb_E) (X : Nat → Nat → Int32) (Y : Nat → Nat → Int64) (c1 c2 : Prop) (Z : String) (g : Nat → va_E) : Prop := g = kb_ent E X Y ∧ ((Z = kb_NSE ∧ ¬ c1) ∨ (Z = kb_IAE ∧ c1 ∧ ¬ c2))
/-- the class's bands -/
def kb_CB (X : Nat → Nat → Int32) : Prop := kb_le (X 0 3) 8 ∧ ∀ b, b < kb_tn (X 0 3) → kb_le (X (92 + 7 * b) 2) 6 ∧ 2 ≤ kb_tn (X (92 + 7 * b) 2) ∧ kb_le (X (92 + 7 * b) 3) 16
/-- the class's pictures: their wishes are told and mu, and what is worked out is right -/
def kb_CP (told : Nat → Nat → Nat → Nat) (mu : Nat → Nat → Nat) (X : Nat → Nat → Int32) : Prop := kb_le (X 0 4) 8 ∧ ∀ q, q < kb_tn (X 0 4) → (kb_le (X (148 + 5 * q) 2) 6 ∧ 2 ≤ kb_tn (X (148 + 5 * q) 2) ∧ kb_le (X (148 + 5 * q) 3) 16 ∧ 1 ≤ kb_tn (X (148 + 5 * q) 3)) ∧
  (∀ r, r < kb_tn (X (148 + 5 * q) 3) → ∀ k, k < kb_kn (kb_tn (X (148 + 5 * q) 2)) r → X (148 + 5 * q + 1) (3 * r + k) = nI (told q r k) ∧ told q r k ≤ 4) ∧ (∀ j, j < 6 → X (148 + 5 * q + 2) j = nI (mu q j) ∧ mu q j ≤ 4) ∧
  (X (148 + 5 * q) 4 = nI 0 ∨ (X (148 + 5 * q) 4 = nI 1 ∧ kb_wk q (kb_tn (X (148 + 5 * q) 2)) (kb_tn (X (148 + 5 * q) 3)) (told q) (mu q) X))
theorem iX4_bandAt_X4 : ∀ w ∈ wsX40, w ∈ wsX4_bandAt := fun _ h => List.mem_cons_of_mem _ (by first | exact h | exact List.mem_append_right _ h | exact List.mem_append_left _ (List.mem_append_right _ h) | exact List.mem_append_left _ (List.mem_append_left _ (List.mem_append_right _ h)) | exact List.mem_append_left _ (List.mem_append_left _ (List.mem_append_left _ (List.mem_append_right _ h))) | exact List.mem_append_left _ (List.mem_append_left _ (List.mem_append_left _ (List.mem_append_left _ (List.mem_append_right _ h)))) | exact List.mem_append_left _ (List.mem_append_left _ (List.mem_append_left _ (List.mem_append_left _ (List.mem_append_left _ (List.mem_append_right _ h))))))
set_option maxRecDepth 100000 in
set_option maxHeartbeats 4000000 in
/-- X4.bandAt -/
theorem m_bandAt (l : Launch) (E : kb_E) (X : Nat → Nat → Int32) (Y : Nat → Nat → Int64) (b : Int32) (hbc : kb_le (X 0 3) 8) : kb_MetG l E 202 yX4_bandAt wsX4_bandAt ({ frames := 7, cells := 1, slots := 6, locals := 103 }) [.ref (E.2.2.2 0), .int b] (kb_ent E X Y) (fun v g' => kb_e b (X 0 3) ∧ v = some (.ref (E.2.2.2 (92 + 7 * kb_tn b))) ∧ g' = kb_ent E X Y) (kb_tG E X Y (kb_e b (X 0 3)) (True)) := by
  refine kb_enterG (cc := cX4_bandAt) (maxL := 2) (ret := (some (.object "KnotBand$Band"))) (by decide +kernel) rfl (by simp [Value.category]) (Nat.le_of_ble_eq_true rfl) ?_
  intro p e s m args below meth c C hx
  refine q_iload_n C dX4_bandAt_0 rfl ?_
  refine q_aload_n C dX4_bandAt_1 rfl ?_
  refine x_getI C (ci := 4) (k := 3) (C0 := RX4) (T := TX4) (NF := 5) (ref := RX4) (host := RX4) dX4_bandAt_2 fi_Kbc rfl iX4_bandAt_X4 (by decide) (List.mem_of_getElem? (i := 1) rfl) rfl ?_
  refine q_callSH (As := [_, _]) (nA := 2) C hx dX4_bandAt_5 (m_needElement _ _ _ _ _) gX4_bandAt_X4_needElement rfl (by decide +kernel) rfl ⟨Nat.le_of_ble_eq_true rfl, Nat.le_of_ble_eq_true rfl⟩ (Nat.le_of_ble_eq_true rfl) ⟨Nat.le_of_ble_eq_true rfl, Nat.le_of_ble_eq_true rfl⟩ ⟨Nat.le_of_ble_eq_true rfl, Nat.le_of_ble_eq_true rfl⟩ (fun Z h => ⟨rfl, Or.inl ⟨h.1, fun hc => h.2 (kb_el.mpr hc)⟩⟩) (fun v5 g5 h5 => ?_)
  obtain ⟨rfl, rfl, he⟩ := h5
  rw [kb_el] at he
  obtain ⟨hbn, hbl⟩ := he.nat hbc.1
  have hb8 : kb_tn b < 8 := Nat.lt_of_lt_of_le hbl hbc.2
  refine q_aload_n C dX4_bandAt_8 rfl ?_
  refine x_getR C (ci := 4) (k := 0) (C0 := RX4) (T := TX4) (NF := 5) (ref := RX4) (host := RX4) dX4_bandAt_9 fr_Kbands rfl iX4_bandAt_X4 (by decide) (List.mem_of_getElem? (i := 2) rfl) rfl ?_
  refine q_iload_n C dX4_bandAt_12 rfl ?_
  refine q_top (show Value.int _ = Value.int _ from congrArg Value.int (hbn)) ?_
  refine x_aaldN C dX4_bandAt_13 ra_Kbands rfl (by decide) hb8 ?_
  exact q_retX (by decide) (by decide) (q_aret C dX4_bandAt_14 ⟨he, rfl, rfl⟩)
theorem iX4_pictureAt_X4 : ∀ w ∈ wsX40, w ∈ wsX4_pictureAt := fun _ h => List.mem_cons_of_mem _ (by first | exact h | exact List.mem_append_right _ h | exact List.mem_append_left _ (List.mem_append_right _ h) | exact List.mem_append_left _ (List.mem_append_left _ (List.mem_append_right _ h)) | exact List.mem_append_left _ (List.mem_append_left _ (List.mem_append_left _ (List.mem_append_right _ h))) | exact List.mem_append_left _ (List.mem_append_left _ (List.mem_append_left _ (List.mem_append_left _ (List.mem_append_right _ h)))) | exact List.mem_append_left _ (List.mem_append_left _ (List.mem_append_left _ (List.mem_append_left _ (List.mem_append_left _ (List.mem_append_right _ h))))))
set_option maxRecDepth 100000 in
set_option maxHeartbeats 4000000 in
/-- X4.pictureAt -/
theorem m_pictureAt (l : Launch) (E : kb_E) (X : Nat → Nat → Int32) (Y : Nat → Nat → Int64) (b : Int32) (hbc : kb_le (X 0 4) 8) : kb_MetG l E 202 yX4_pictureAt wsX4_pictureAt ({ frames := 7, cells := 1, slots := 6, locals := 103 }) [.ref (E.2.2.2 0), .int b] (kb_ent E X Y) (fun v g' => kb_e b (X 0 4) ∧ v = some (.ref (E.2.2.2 (148 + 5 * kb_tn b))) ∧ g' = kb_ent E X Y) (kb_tG E X Y (kb_e b (X 0 4)) (True)) := by
  refine kb_enterG (cc := cX4_pictureAt) (maxL := 2) (ret := (some (.object "KnotBand$Picture"))) (by decide +kernel) rfl (by simp [Value.category]) (Nat.le_of_ble_eq_true rfl) ?_
  intro p e s m args below meth c C hx
  refine q_iload_n C dX4_pictureAt_0 rfl ?_
  refine q_aload_n C dX4_pictureAt_1 rfl ?_
  refine x_getI C (ci := 4) (k := 4) (C0 := RX4) (T := TX4) (NF := 5) (ref := RX4) (host := RX4) dX4_pictureAt_2 fi_Kpc rfl iX4_pictureAt_X4 (by decide) (List.mem_of_getElem? (i := 1) rfl) rfl ?_
  refine q_callSH (As := [_, _]) (nA := 2) C hx dX4_pictureAt_5 (m_needElement _ _ _ _ _) gX4_pictureAt_X4_needElement rfl (by decide +kernel) rfl ⟨Nat.le_of_ble_eq_true rfl, Nat.le_of_ble_eq_true rfl⟩ (Nat.le_of_ble_eq_true rfl) ⟨Nat.le_of_ble_eq_true rfl, Nat.le_of_ble_eq_true rfl⟩ ⟨Nat.le_of_ble_eq_true rfl, Nat.le_of_ble_eq_true rfl⟩ (fun Z h => ⟨rfl, Or.inl ⟨h.1, fun hc => h.2 (kb_el.mpr hc)⟩⟩) (fun v5 g5 h5 => ?_)
  obtain ⟨rfl, rfl, he⟩ := h5
  rw [kb_el] at he
  obtain ⟨hbn, hbl⟩ := he.nat hbc.1
  have hb8 : kb_tn b < 8 := Nat.lt_of_lt_of_le hbl hbc.2
  refine q_aload_n C dX4_pictureAt_8 rfl ?_
  refine x_getR C (ci := 4) (k := 1) (C0 := RX4) (T := TX4) (NF := 5) (ref := RX4) (host := RX4) dX4_pictureAt_9 fr_Kpics rfl iX4_pictureAt_X4 (by decide) (List.mem_of_getElem? (i := 2) rfl) rfl ?_
  refine q_iload_n C dX4_pictureAt_12 rfl ?_
  refine q_top (show Value.int _ = Value.int _ from congrArg Value.int (hbn)) ?_
  refine x_aaldN C dX4_pictureAt_13 ra_Kpics rfl (by decide) hb8 ?_
  exact q_retX (by decide) (by decide) (q_aret C dX4_pictureAt_14 ⟨he, rfl, rfl⟩)
theorem iX4_workedOutAt_X2 : ∀ w ∈ wsX20, w ∈ wsX4_workedOutAt := fun _ h => List.mem_cons_of_mem _ (by first | exact h | exact List.mem_append_right _ h | exact List.mem_append_left _ (List.mem_append_right _ h) | exact List.mem_append_left _ (List.mem_append_left _ (List.mem_append_right _ h)) | exact List.mem_append_left _ (List.mem_append_left _ (List.mem_append_left _ (List.mem_append_right _ h))) | exact List.mem_append_left _ (List.mem_append_left _ (List.mem_append_left _ (List.mem_append_left _ (List.mem_append_right _ h)))) | exact List.mem_append_left _ (List.mem_append_left _ (List.mem_append_left _ (List.mem_append_left _ (List.mem_append_left _ (List.mem_append_right _ h))))))
theorem iX4_workedOutAt_X4 : ∀ w ∈ wsX40, w ∈ wsX4_workedOutAt := fun _ h => List.mem_cons_of_mem _ (by first | exact h | exact List.mem_append_right _ h | exact List.mem_append_left _ (List.mem_append_right _ h) | exact List.mem_append_left _ (List.mem_append_left _ (List.mem_append_right _ h)) | exact List.mem_append_left _ (List.mem_append_left _ (List.mem_append_left _ (List.mem_append_right _ h))) | exact List.mem_append_left _ (List.mem_append_left _ (List.mem_append_left _ (List.mem_append_left _ (List.mem_append_right _ h)))) | exact List.mem_append_left _ (List.mem_append_left _ (List.mem_append_left _ (List.mem_append_left _ (List.mem_append_left _ (List.mem_append_right _ h))))))
set_option maxRecDepth 100000 in
set_option maxHeartbeats 4000000 in
/-- X4.workedOutAt -/
theorem m_workedOutAt (l : Launch) (E : kb_E) (X : Nat → Nat → Int32) (Y : Nat → Nat → Int64) (b : Int32) (told : Nat → Nat → Nat → Nat) (mu : Nat → Nat → Nat) (hCP : kb_CP told mu X) : kb_MetG l E 202 yX4_workedOutAt wsX4_workedOutAt ({ frames := 8, cells := 1, slots := 6, locals := 124 }) [.ref (E.2.2.2 0), .int b] (kb_ent E X Y) (fun v g' => kb_e b (X 0 4) ∧ v = some (.ref (E.2.2.2 (148 + 5 * kb_tn b))) ∧ ∃ X' Y', g' = kb_ent E X' Y' ∧ kb_sL Y Y' ∧ kb_wout (kb_tn b) (kb_tn (X (148 + 5 * kb_tn b) 2)) (kb_tn (X (148 + 5 * kb_tn b) 3)) (told (kb_tn b)) (mu (kb_tn b)) X X') (kb_tG E X Y (kb_e b (X 0 4)) (True)) := by
  refine kb_enterG (cc := cX4_workedOutAt) (maxL := 3) (ret := (some (.object "KnotBand$Picture"))) (by decide +kernel) rfl (by simp [Value.category]) (Nat.le_of_ble_eq_true rfl) ?_
  intro p e s m args below meth c C hx
  refine q_aload_n C dX4_workedOutAt_0 rfl ?_
  refine q_iload_n C dX4_workedOutAt_1 rfl ?_
  refine x_callVG (As := [_]) (nA := 1) (T := TX4) (NF := 5) C hx dX4_workedOutAt_2 ob_K rfl (m_pictureAt _ _ X Y b hCP.1) gX4_workedOutAt_X4_pictureAt rfl (by decide +kernel) rfl ⟨Nat.le_of_ble_eq_true rfl, Nat.le_of_ble_eq_true rfl⟩ (Nat.le_of_ble_eq_true rfl) ⟨Nat.le_of_ble_eq_true rfl, Nat.le_of_ble_eq_true rfl⟩ ⟨Nat.le_of_ble_eq_true rfl, Nat.le_of_ble_eq_true rfl⟩ (fun Z g9 h => ⟨h.1, h.2.elim (fun z => Or.inl ⟨z.1, fun hc => z.2 hc⟩) (fun z => absurd trivial z.2.2)⟩) (fun v2 g2 h2 => ?_)
  obtain ⟨hB, rfl, rfl⟩ := h2
  obtain ⟨hbn, hbl⟩ := hB.nat hCP.1.1
  have hb8 : kb_tn b < 8 := Nat.lt_of_lt_of_le hbl hCP.1.2
  obtain ⟨⟨⟨hth, hn⟩, hn2, ⟨hro, hr16⟩, hr1⟩, htd, hmu, hwk⟩ := hCP.2 _ hbl
  refine q_astore_n C dX4_workedOutAt_5 (by decide) rfl ?_
  refine q_aload_n C dX4_workedOutAt_6 rfl ?_
  refine x_getIN C (ci := 2) (k := 4) (C0 := RX2) (T := TX2) (NF := 10) (ref := RX2) (host := RX4) dX4_workedOutAt_7 (fi_Pwor hb8) rfl iX4_workedOutAt_X2 (by decide) (by decide +kernel) rfl ?_
  refine q_ifne C (tgt := 21) dX4_workedOutAt_10 (by decide) (fun c10 => ?_) (fun c10 => ?_)
  · have hw1 : X (148 + 5 * kb_tn b) 4 = nI 1 ∧ kb_wk (kb_tn b) (kb_tn (X (148 + 5 * kb_tn b) 2)) (kb_tn (X (148 + 5 * kb_tn b) 3)) (told (kb_tn b)) (mu (kb_tn b)) X := by
      rcases hwk with h | h
      · exact absurd h c10
      · exact h
    have hsL : kb_sL Y Y := fun _ _ => rfl
    have hwo : kb_wout (kb_tn b) (kb_tn (X (148 + 5 * kb_tn b) 2)) (kb_tn (X (148 + 5 * kb_tn b) 3)) (told (kb_tn b)) (mu (kb_tn b)) X X := ⟨fun _ _ _ _ _ _ _ _ => rfl, rfl, rfl, hw1.1, hw1.2⟩
    refine q_aload_n C dX4_workedOutAt_21 rfl ?_
    exact q_retX (by decide) (by decide) (q_aret C dX4_workedOutAt_22 ⟨hB, rfl, _, _, rfl, hsL, hwo⟩)
  · refine q_aload_n C dX4_workedOutAt_13 rfl ?_
    refine x_getR C (ci := 4) (k := 2) (C0 := RX4) (T := TX4) (NF := 5) (ref := RX4) (host := RX4) dX4_workedOutAt_14 fr_Kloom rfl iX4_workedOutAt_X4 (by decide) (List.mem_of_getElem? (i := 1) rfl) rfl ?_
    refine q_aload_n C dX4_workedOutAt_17 rfl ?_
    refine x_callV (As := [_]) (nA := 1) (T := TX1) (NF := 6) C dX4_workedOutAt_18 ob_L rfl (m_workOut _ _ X Y (kb_tn b) _ _ hb8 hn hn2 hr16 hth hro (told (kb_tn b)) htd (mu (kb_tn b)) hmu) gX4_workedOutAt_X1_workOut rfl (by decide +kernel) rfl ⟨Nat.le_of_ble_eq_true rfl, Nat.le_of_ble_eq_true rfl⟩ (Nat.le_of_ble_eq_true rfl) ⟨Nat.le_of_ble_eq_true rfl, Nat.le_of_ble_eq_true rfl⟩ (fun v18 g18 h18 => ?_)
    obtain ⟨rfl, Xo, Yo, rfl, hsL, hwo⟩ := h18
    refine q_aload_n C dX4_workedOutAt_21 rfl ?_
    exact q_retX (by decide) (by decide) (q_aret C dX4_workedOutAt_22 ⟨hB, rfl, _, _, rfl, hsL, hwo⟩)
def kb_noBc (X : Nat → Nat → Int32) (n : Int32) : Prop := kb_tn (X 0 3) = 8 ∨ n < nI 2 ∨ ¬ n ≤ nI 6
/-- the class's state with a band more -/
def kb_cband (X : Nat → Nat → Int32) (n : Int32) : Nat → Nat → Int32 := va_up (va_up X (92 + 7 * kb_tn (X 0 3)) (upd (X (92 + 7 * kb_tn (X 0 3))) 2 n)) 0 (upd (va_up X (92 + 7 * kb_tn (X 0 3)) (upd (X (92 + 7 * kb_tn (X 0 3))) 2 n) 0) 3 (nI (kb_tn (X 0 3) + 1)))
theorem kb_mayb {a : Int32} : (nI 2 ≤ a ∧ a ≤ nI 6) ↔ ¬ (a < nI 2 ∨ ¬ a ≤ nI 6) := by
  rw [not_or, Int32.not_lt, Classical.not_not]
theorem iX4_band_X0 : ∀ w ∈ wsX00, w ∈ wsX4_band := fun _ h => List.mem_cons_of_mem _ (by first | exact h | exact List.mem_append_right _ h | exact List.mem_append_left _ (List.mem_append_right _ h) | exact List.mem_append_left _ (List.mem_append_left _ (List.mem_append_right _ h)) | exact List.mem_append_left _ (List.mem_append_left _ (List.mem_append_left _ (List.mem_append_right _ h))) | exact List.mem_append_left _ (List.mem_append_left _ (List.mem_append_left _ (List.mem_append_left _ (List.mem_append_right _ h)))) | exact List.mem_append_left _ (List.mem_append_left _ (List.mem_append_left _ (List.mem_append_left _ (List.mem_append_left _ (List.mem_append_right _ h))))))
theorem iX4_band_X4 : ∀ w ∈ wsX40, w ∈ wsX4_band := fun _ h => List.mem_cons_of_mem _ (by first | exact h | exact List.mem_append_right _ h | exact List.mem_append_left _ (List.mem_append_right _ h) | exact List.mem_append_left _ (List.mem_append_left _ (List.mem_append_right _ h)) | exact List.mem_append_left _ (List.mem_append_left _ (List.mem_append_left _ (List.mem_append_right _ h))) | exact List.mem_append_left _ (List.mem_append_left _ (List.mem_append_left _ (List.mem_append_left _ (List.mem_append_right _ h)))) | exact List.mem_append_left _ (List.mem_append_left _ (List.mem_append_left _ (List.mem_append_left _ (List.mem_append_left _ (List.mem_append_right _ h))))))
set_option maxRecDepth 100000 in
set_option maxHeartbeats 4000000 in
/-- X4.band -/
theorem m_band (l : Launch) (E : kb_E) (X : Nat → Nat → Int32) (Y : Nat → Nat → Int64) (n : Int32) (hbc : kb_le (X 0 3) 8) : kb_Met l E 202 yX4_band wsX4_band ({ frames := 1, cells := 0, slots := 0, locals := 20 }) [.ref (E.2.2.2 0), .int n] (kb_ent E X Y) (fun v g' => (kb_noBc X n ∧ v = some (.int (-1)) ∧ g' = kb_ent E X Y) ∨ (¬ kb_noBc X n ∧ v = some (.int (nI (kb_tn (X 0 3)))) ∧ g' = kb_ent E (kb_cband X n) Y)) := by
  refine kb_enter (cc := cX4_band) (maxL := 2) (ret := (some .int)) (by decide +kernel) rfl (by simp [Value.category]) (Nat.le_of_ble_eq_true rfl) ?_
  intro p e s m args below meth c C hini
  refine q_aload_n C dX4_band_0 rfl ?_
  refine x_getI C (ci := 4) (k := 3) (C0 := RX4) (T := TX4) (NF := 5) (ref := RX4) (host := RX4) dX4_band_1 fi_Kbc rfl iX4_band_X4 (by decide) (List.mem_of_getElem? (i := 1) rfl) rfl ?_
  refine q_top (show Value.int _ = Value.int _ from congrArg Value.int (hbc.1)) ?_
  refine q_bipush C (v := nI 8) dX4_band_4 (by decide) ?_
  refine q_icmpgeN C (tgt := 16) dX4_band_6 (by decide) (by have := hbc.2; omega) (by omega) (fun c6 => ?_) (fun c6 => ?_)
  · have h8 : kb_tn (X 0 3) = 8 := by have := hbc.2; omega
    refine q_iconst C (v := -1) dX4_band_16 (by decide) ?_
    exact q_iret C dX4_band_17 (Or.inl ⟨by first | exact Or.inl h8 | exact hno, rfl, rfl⟩)
  · refine q_iload_n C dX4_band_9 rfl ?_
    refine q_callS (As := [_]) (nA := 1) C dX4_band_10 (m_mayBe _ _ _ _) gX4_band_X4_mayBeThreads rfl (by decide +kernel) rfl ⟨Nat.le_of_ble_eq_true rfl, Nat.le_of_ble_eq_true rfl⟩ (Nat.le_of_ble_eq_true rfl) ⟨Nat.le_of_ble_eq_true rfl, Nat.le_of_ble_eq_true rfl⟩ (fun v10 g10 h10 => ?_)
    obtain ⟨rfl, rfl⟩ := h10
    refine q_ifne C (tgt := 18) dX4_band_13 (by decide) (fun c13 => ?_) (fun c13 => ?_)
    · have hno : ¬ kb_noBc X n := fun h => h.elim (fun z => absurd z (by omega)) (fun z => c13 (by rw [if_neg (fun q => (kb_mayb.mp q) z)]))
      have hb8 : kb_tn (X 0 3) < 8 := by omega
      refine q_aload_n C dX4_band_18 rfl ?_
      refine x_getR C (ci := 4) (k := 0) (C0 := RX4) (T := TX4) (NF := 5) (ref := RX4) (host := RX4) dX4_band_19 fr_Kbands rfl iX4_band_X4 (by decide) (List.mem_of_getElem? (i := 2) rfl) rfl ?_
      refine q_aload_n C dX4_band_22 rfl ?_
      refine x_getI C (ci := 4) (k := 3) (C0 := RX4) (T := TX4) (NF := 5) (ref := RX4) (host := RX4) dX4_band_23 fi_Kbc rfl iX4_band_X4 (by decide) (List.mem_of_getElem? (i := 1) rfl) rfl ?_
      refine q_top (show Value.int _ = Value.int _ from congrArg Value.int (hbc.1)) ?_
      refine x_aaldN C dX4_band_26 ra_Kbands rfl (by decide) hb8 ?_
      refine q_iload_n C dX4_band_27 rfl ?_
      refine x_putIN C (ci := 0) (k := 2) (C0 := RX0) (T := TX0) (NF := 8) (ref := RX0) (host := RX4) (ty := .int) dX4_band_28 (fi_Bthr hb8) rfl iX4_band_X0 tyX0_ok nmX0 (by decide) (by decide +kernel) rfl rfl (by decide +kernel) rfl rfl ?_
      refine q_aload_n C dX4_band_31 rfl ?_
      refine q_dup C dX4_band_32 rfl ?_
      refine x_getI C (ci := 4) (k := 3) (C0 := RX4) (T := TX4) (NF := 5) (ref := RX4) (host := RX4) dX4_band_33 fi_Kbc rfl iX4_band_X4 (by decide) (List.mem_of_getElem? (i := 1) rfl) rfl ?_
      refine q_top (show Value.int _ = Value.int _ from congrArg Value.int ((congrFun (kb_up_ne (by omega)) 3).trans hbc.1)) ?_
      refine q_dup_x1 C dX4_band_36 rfl rfl ?_
      refine q_iconst C (v := nI 1) dX4_band_37 (by decide) ?_
      refine q_iaddN C dX4_band_38 ?_
      refine x_putI C (ci := 4) (k := 3) (C0 := RX4) (T := TX4) (NF := 5) (ref := RX4) (host := RX4) (ty := .int) dX4_band_39 fi_Kbc rfl iX4_band_X4 tyX4_ok nmX4 (by decide) (List.mem_of_getElem? (i := 1) rfl) rfl rfl (by decide +kernel) rfl rfl ?_
      exact q_iret C dX4_band_42 (Or.inr ⟨hno, rfl, rfl⟩)
    · have hno : kb_noBc X n := Or.inr (Classical.byContradiction (fun z => absurd c13 (by rw [if_pos (kb_mayb.mpr z)]; decide)))
      refine q_iconst C (v := -1) dX4_band_16 (by decide) ?_
      exact q_iret C dX4_band_17 (Or.inl ⟨by first | exact Or.inl h8 | exact hno, rfl, rfl⟩)
theorem iX4_colour_X0 : ∀ w ∈ wsX00, w ∈ wsX4_colour := fun _ h => List.mem_cons_of_mem _ (by first | exact h | exact List.mem_append_right _ h | exact List.mem_append_left _ (List.mem_append_right _ h) | exact List.mem_append_left _ (List.mem_append_left _ (List.mem_append_right _ h)) | exact List.mem_append_left _ (List.mem_append_left _ (List.mem_append_left _ (List.mem_append_right _ h))) | exact List.mem_append_left _ (List.mem_append_left _ (List.mem_append_left _ (List.mem_append_left _ (List.mem_append_right _ h)))) | exact List.mem_append_left _ (List.mem_append_left _ (List.mem_append_left _ (List.mem_append_left _ (List.mem_append_left _ (List.mem_append_right _ h))))))
set_option maxRecDepth 100000 in
set_option maxHeartbeats 4000000 in
/-- X4.colour -/
theorem m_colour (l : Launch) (E : kb_E) (X : Nat → Nat → Int32) (Y : Nat → Nat → Int64) (b t c0 : Int32) (hCB : kb_CB X) : kb_MetG l E 202 yX4_colour wsX4_colour ({ frames := 8, cells := 3, slots := 18, locals := 124 }) [.ref (E.2.2.2 0), .int b, .int t, .int c0] (kb_ent E X Y) (fun v g' => (kb_e b (X 0 3) ∧ kb_e t (X (92 + 7 * kb_tn b) 2)) ∧ kb_e c0 (nI 4) ∧ v = some (.int (X (92 + 7 * kb_tn b + 1) (kb_tn t))) ∧ g' = kb_ent E (va_up X (92 + 7 * kb_tn b + 1) (upd (X (92 + 7 * kb_tn b + 1)) (kb_tn t) c0)) Y) (kb_tG E X Y (kb_e b (X 0 3) ∧ kb_e t (X (92 + 7 * kb_tn b) 2)) (kb_e c0 (nI 4))) := by
  refine kb_enterG (cc := cX4_colour) (maxL := 6) (ret := (some .int)) (by decide +kernel) rfl (by simp [Value.category]) (Nat.le_of_ble_eq_true rfl) ?_
  intro p e s m args below meth c C hx
  refine q_aload_n C dX4_colour_0 rfl ?_
  refine q_iload_n C dX4_colour_1 rfl ?_
  refine x_callVG (As := [_]) (nA := 1) (T := TX4) (NF := 5) C hx dX4_colour_2 ob_K rfl (m_bandAt _ _ X Y b hCB.1) gX4_colour_X4_bandAt rfl (by decide +kernel) rfl ⟨Nat.le_of_ble_eq_true rfl, Nat.le_of_ble_eq_true rfl⟩ (Nat.le_of_ble_eq_true rfl) ⟨Nat.le_of_ble_eq_true rfl, Nat.le_of_ble_eq_true rfl⟩ ⟨Nat.le_of_ble_eq_true rfl, Nat.le_of_ble_eq_true rfl⟩ (fun Z g9 h => ⟨h.1, h.2.elim (fun z => Or.inl ⟨z.1, fun hc => z.2 hc.1⟩) (fun z => absurd trivial z.2.2)⟩) (fun v2 g2 h2 => ?_)
  obtain ⟨hB, rfl, rfl⟩ := h2
  obtain ⟨hbn, hbl⟩ := hB.nat hCB.1.1
  have hb8 : kb_tn b < 8 := Nat.lt_of_lt_of_le hbl hCB.1.2
  obtain ⟨⟨hth, hn⟩, hn2, hro, hr16⟩ := hCB.2 _ hbl
  refine q_astore C dX4_colour_5 (by decide) rfl ?_
  refine q_iload_n C dX4_colour_7 rfl ?_
  refine q_aload C dX4_colour_8 rfl ?_
  refine x_getIN C (ci := 0) (k := 2) (C0 := RX0) (T := TX0) (NF := 8) (ref := RX0) (host := RX4) dX4_colour_10 (fi_Bthr hb8) rfl iX4_colour_X0 (by decide) (by decide +kernel) rfl ?_
  refine q_callSH (As := [_, _]) (nA := 2) C hx dX4_colour_13 (m_needElement _ _ _ _ _) gX4_colour_X4_needElement rfl (by decide +kernel) rfl ⟨Nat.le_of_ble_eq_true rfl, Nat.le_of_ble_eq_true rfl⟩ (Nat.le_of_ble_eq_true rfl) ⟨Nat.le_of_ble_eq_true rfl, Nat.le_of_ble_eq_true rfl⟩ ⟨Nat.le_of_ble_eq_true rfl, Nat.le_of_ble_eq_true rfl⟩ (fun Z h => ⟨rfl, Or.inl ⟨h.1, fun hc => h.2 (kb_el.mpr hc.2)⟩⟩) (fun v13 g13 h13 => ?_)
  obtain ⟨rfl, rfl, hT⟩ := h13
  rw [kb_el] at hT
  obtain ⟨htn, htl⟩ := hT.nat hth
  refine q_iload_n C dX4_colour_16 rfl ?_
  refine q_iconst C (v := nI 4) dX4_colour_17 (by decide) ?_
  refine q_callSH (As := [_, _]) (nA := 2) C hx dX4_colour_18 (m_needArgument _ _ _ _ _) gX4_colour_X4_needArgument rfl (by decide +kernel) rfl ⟨Nat.le_of_ble_eq_true rfl, Nat.le_of_ble_eq_true rfl⟩ (Nat.le_of_ble_eq_true rfl) ⟨Nat.le_of_ble_eq_true rfl, Nat.le_of_ble_eq_true rfl⟩ ⟨Nat.le_of_ble_eq_true rfl, Nat.le_of_ble_eq_true rfl⟩ (fun Z h => ⟨rfl, Or.inr ⟨h.1, ⟨hB, hT⟩, fun hc => h.2 (kb_el.mpr hc)⟩⟩) (fun v18 g18 h18 => ?_)
  obtain ⟨rfl, rfl, hC⟩ := h18
  rw [kb_el] at hC
  refine q_aload C dX4_colour_21 rfl ?_
  refine x_getRN C (ci := 0) (k := 0) (C0 := RX0) (T := TX0) (NF := 8) (ref := RX0) (host := RX4) dX4_colour_23 (fr_Bcol hb8) rfl iX4_colour_X0 (by decide) (by decide +kernel) rfl ?_
  refine q_iload_n C dX4_colour_26 rfl ?_
  refine q_top (show Value.int _ = Value.int _ from congrArg Value.int (htn)) ?_
  refine x_ialdN C dX4_colour_27 (ia_Bcol hb8) (by decide) (by omega) ?_
  refine q_istore C dX4_colour_28 (by decide) rfl ?_
  refine q_aload C dX4_colour_30 rfl ?_
  refine x_getRN C (ci := 0) (k := 0) (C0 := RX0) (T := TX0) (NF := 8) (ref := RX0) (host := RX4) dX4_colour_32 (fr_Bcol hb8) rfl iX4_colour_X0 (by decide) (by decide +kernel) rfl ?_
  refine q_iload_n C dX4_colour_35 rfl ?_
  refine q_top (show Value.int _ = Value.int _ from congrArg Value.int (htn)) ?_
  refine q_iload_n C dX4_colour_36 rfl ?_
  refine x_iastN C dX4_colour_37 (ia_Bcol hb8) (by decide) (by omega) ?_
  refine q_iload C dX4_colour_38 rfl ?_
  exact q_retX (by decide) (by decide) (q_iret C dX4_colour_40 ⟨⟨hB, hT⟩, hC, rfl, rfl⟩)
/-- the class's state with a row more in band i -/
def kb_crow (X : Nat → Nat → Int32) (i : Nat) (kinds : Int32) : Nat → Nat → Int32 := va_up (va_up X (92 + 7 * i + 2) (upd (X (92 + 7 * i + 2)) (kb_tn (X (92 + 7 * i) 3)) kinds)) (92 + 7 * i) (upd (va_up X (92 + 7 * i + 2) (upd (X (92 + 7 * i + 2)) (kb_tn (X (92 + 7 * i) 3)) kinds) (92 + 7 * i)) 3 (nI (kb_tn (X (92 + 7 * i) 3) + 1)))
theorem iX4_row_X0 : ∀ w ∈ wsX00, w ∈ wsX4_row := fun _ h => List.mem_cons_of_mem _ (by first | exact h | exact List.mem_append_right _ h | exact List.mem_append_left _ (List.mem_append_right _ h) | exact List.mem_append_left _ (List.mem_append_left _ (List.mem_append_right _ h)) | exact List.mem_append_left _ (List.mem_append_left _ (List.mem_append_left _ (List.mem_append_right _ h))) | exact List.mem_append_left _ (List.mem_append_left _ (List.mem_append_left _ (List.mem_append_left _ (List.mem_append_right _ h)))) | exact List.mem_append_left _ (List.mem_append_left _ (List.mem_append_left _ (List.mem_append_left _ (List.mem_append_left _ (List.mem_append_right _ h))))))
set_option maxRecDepth 100000 in
set_option maxHeartbeats 4000000 in
/-- X4.row -/
theorem m_row (l : Launch) (E : kb_E) (X : Nat → Nat → Int32) (Y : Nat → Nat → Int64) (b kinds : Int32) (hCB : kb_CB X) : kb_MetG l E 202 yX4_row wsX4_row ({ frames := 8, cells := 1, slots := 6, locals := 124 }) [.ref (E.2.2.2 0), .int b, .int kinds] (kb_ent E X Y) (fun v g' => kb_e b (X 0 3) ∧ (((kb_tn (X (92 + 7 * kb_tn b) 3)) = 16 ∧ v = some (.int (-1)) ∧ g' = kb_ent E X Y) ∨ (¬ (kb_tn (X (92 + 7 * kb_tn b) 3)) = 16 ∧ v = some (.int (nI ((kb_tn (X (92 + 7 * kb_tn b) 3)) + 1))) ∧ g' = kb_ent E (kb_crow X (kb_tn b) kinds) Y))) (kb_tG E X Y (kb_e b (X 0 3)) (True)) := by
  refine kb_enterG (cc := cX4_row) (maxL := 4) (ret := (some .int)) (by decide +kernel) rfl (by simp [Value.category]) (Nat.le_of_ble_eq_true rfl) ?_
  intro p e s m args below meth c C hx
  refine q_aload_n C dX4_row_0 rfl ?_
  refine q_iload_n C dX4_row_1 rfl ?_
  refine x_callVG (As := [_]) (nA := 1) (T := TX4) (NF := 5) C hx dX4_row_2 ob_K rfl (m_bandAt _ _ X Y b hCB.1) gX4_row_X4_bandAt rfl (by decide +kernel) rfl ⟨Nat.le_of_ble_eq_true rfl, Nat.le_of_ble_eq_true rfl⟩ (Nat.le_of_ble_eq_true rfl) ⟨Nat.le_of_ble_eq_true rfl, Nat.le_of_ble_eq_true rfl⟩ ⟨Nat.le_of_ble_eq_true rfl, Nat.le_of_ble_eq_true rfl⟩ (fun Z g9 h => ⟨h.1, h.2.elim (fun z => Or.inl ⟨z.1, fun hc => z.2 hc⟩) (fun z => absurd trivial z.2.2)⟩) (fun v2 g2 h2 => ?_)
  obtain ⟨hB, rfl, rfl⟩ := h2
  obtain ⟨hbn, hbl⟩ := hB.nat hCB.1.1
  have hb8 : kb_tn b < 8 := Nat.lt_of_lt_of_le hbl hCB.1.2
  obtain ⟨⟨hth, hn⟩, hn2, hro, hr16⟩ := hCB.2 _ hbl
  refine q_astore_n C dX4_row_5 (by decide) rfl ?_
  refine q_aload_n C dX4_row_6 rfl ?_
  refine x_getIN C (ci := 0) (k := 3) (C0 := RX0) (T := TX0) (NF := 8) (ref := RX0) (host := RX4) dX4_row_7 (fi_Brow hb8) rfl iX4_row_X0 (by decide) (by decide +kernel) rfl ?_
  refine q_top (show Value.int _ = Value.int _ from congrArg Value.int (hro)) ?_
  refine q_bipush C (v := nI 16) dX4_row_10 (by decide) ?_
  refine q_icmpltN C (tgt := 17) dX4_row_12 (by decide) (by omega) (by omega) (fun c12 => ?_) (fun c12 => ?_)
  · refine q_aload_n C dX4_row_17 rfl ?_
    refine x_getRN C (ci := 0) (k := 1) (C0 := RX0) (T := TX0) (NF := 8) (ref := RX0) (host := RX4) dX4_row_18 (fr_Bkin hb8) rfl iX4_row_X0 (by decide) (by decide +kernel) rfl ?_
    refine q_aload_n C dX4_row_21 rfl ?_
    refine x_getIN C (ci := 0) (k := 3) (C0 := RX0) (T := TX0) (NF := 8) (ref := RX0) (host := RX4) dX4_row_22 (fi_Brow hb8) rfl iX4_row_X0 (by decide) (by decide +kernel) rfl ?_
    refine q_top (show Value.int _ = Value.int _ from congrArg Value.int (hro)) ?_
    refine q_iload_n C dX4_row_25 rfl ?_
    refine x_iastN C dX4_row_26 (ia_Bkin hb8) (by decide) (by omega) ?_
    refine q_aload_n C dX4_row_27 rfl ?_
    refine q_dup C dX4_row_28 rfl ?_
    refine x_getIN C (ci := 0) (k := 3) (C0 := RX0) (T := TX0) (NF := 8) (ref := RX0) (host := RX4) dX4_row_29 (fi_Brow hb8) rfl iX4_row_X0 (by decide) (by decide +kernel) rfl ?_
    refine q_top (show Value.int _ = Value.int _ from congrArg Value.int ((congrFun (kb_up_ne (by omega)) 3).trans hro)) ?_
    refine q_iconst C (v := nI 1) dX4_row_32 (by decide) ?_
    refine q_iaddN C dX4_row_33 ?_
    refine x_putIN C (ci := 0) (k := 3) (C0 := RX0) (T := TX0) (NF := 8) (ref := RX0) (host := RX4) (ty := .int) dX4_row_34 (fi_Brow hb8) rfl iX4_row_X0 tyX0_ok nmX0 (by decide) (by decide +kernel) rfl rfl (by decide +kernel) rfl rfl ?_
    refine q_aload_n C dX4_row_37 rfl ?_
    refine x_getIN C (ci := 0) (k := 3) (C0 := RX0) (T := TX0) (NF := 8) (ref := RX0) (host := RX4) dX4_row_38 (fi_Brow hb8) rfl iX4_row_X0 (by decide) (by decide +kernel) rfl ?_
    refine q_top (show Value.int _ = Value.int _ from congrArg Value.int ((show (va_up (va_up X (92 + 7 * kb_tn b + 2) _) (92 + 7 * kb_tn b) _ : Nat → Nat → Int32) (92 + 7 * kb_tn b) 3 = nI ((kb_tn (X (92 + 7 * kb_tn b) 3)) + 1) from by rw [kb_up_self, upd, if_pos rfl]))) ?_
    exact q_retX (by decide) (by decide) (q_iret C dX4_row_41 ⟨hB, Or.inr ⟨by omega, rfl, rfl⟩⟩)
  · refine q_iconst C (v := -1) dX4_row_15 (by decide) ?_
    exact q_retX (by decide) (by decide) (q_iret C dX4_row_16 ⟨hB, Or.inl ⟨by omega, rfl, rfl⟩⟩)
theorem iX4_knot_X0 : ∀ w ∈ wsX00, w ∈ wsX4_knot := fun _ h => List.mem_cons_of_mem _ (by first | exact h | exact List.mem_append_right _ h | exact List.mem_append_left _ (List.mem_append_right _ h) | exact List.mem_append_left _ (List.mem_append_left _ (List.mem_append_right _ h)) | exact List.mem_append_left _ (List.mem_append_left _ (List.mem_append_left _ (List.mem_append_right _ h))) | exact List.mem_append_left _ (List.mem_append_left _ (List.mem_append_left _ (List.mem_append_left _ (List.mem_append_right _ h)))) | exact List.mem_append_left _ (List.mem_append_left _ (List.mem_append_left _ (List.mem_append_left _ (List.mem_append_left _ (List.mem_append_right _ h))))))
set_option maxRecDepth 100000 in
set_option maxHeartbeats 4000000 in
/-- X4.knot -/
theorem m_knot (l : Launch) (E : kb_E) (X : Nat → Nat → Int32) (Y : Nat → Nat → Int64) (b r k k0 : Int32) (hCB : kb_CB X) : kb_MetG l E 202 yX4_knot wsX4_knot ({ frames := 8, cells := 4, slots := 24, locals := 124 }) [.ref (E.2.2.2 0), .int b, .int r, .int k, .int k0] (kb_ent E X Y) (fun v g' => (kb_e b (X 0 3) ∧ kb_e r (X (92 + 7 * kb_tn b) 3) ∧ kb_e k (kb_knotsIn (X (92 + 7 * kb_tn b) 2) r)) ∧ (k0 = -1 ∨ kb_e k0 (nI 4)) ∧ v = some (.int (kb_kindIn (X (92 + 7 * kb_tn b + 2) (kb_tn r)) k)) ∧ g' = kb_ent E (if k0 = -1 then X else va_up X (92 + 7 * kb_tn b + 2) (upd (X (92 + 7 * kb_tn b + 2)) (kb_tn r) (kb_withKind (X (92 + 7 * kb_tn b + 2) (kb_tn r)) k k0))) Y) (kb_tG E X Y (kb_e b (X 0 3) ∧ kb_e r (X (92 + 7 * kb_tn b) 3) ∧ kb_e k (kb_knotsIn (X (92 + 7 * kb_tn b) 2) r)) (k0 = -1 ∨ kb_e k0 (nI 4))) := by
  refine kb_enterG (cc := cX4_knot) (maxL := 7) (ret := (some .int)) (by decide +kernel) rfl (by simp [Value.category]) (Nat.le_of_ble_eq_true rfl) ?_
  intro p e s m args below meth c C hx
  refine q_aload_n C dX4_knot_0 rfl ?_
  refine q_iload_n C dX4_knot_1 rfl ?_
  refine x_callVG (As := [_]) (nA := 1) (T := TX4) (NF := 5) C hx dX4_knot_2 ob_K rfl (m_bandAt _ _ X Y b hCB.1) gX4_knot_X4_bandAt rfl (by decide +kernel) rfl ⟨Nat.le_of_ble_eq_true rfl, Nat.le_of_ble_eq_true rfl⟩ (Nat.le_of_ble_eq_true rfl) ⟨Nat.le_of_ble_eq_true rfl, Nat.le_of_ble_eq_true rfl⟩ ⟨Nat.le_of_ble_eq_true rfl, Nat.le_of_ble_eq_true rfl⟩ (fun Z g9 h => ⟨h.1, h.2.elim (fun z => Or.inl ⟨z.1, fun hc => z.2 hc.1⟩) (fun z => absurd trivial z.2.2)⟩) (fun v2 g2 h2 => ?_)
  obtain ⟨hB, rfl, rfl⟩ := h2
  obtain ⟨hbn, hbl⟩ := hB.nat hCB.1.1
  have hb8 : kb_tn b < 8 := Nat.lt_of_lt_of_le hbl hCB.1.2
  obtain ⟨⟨hth, hn⟩, hn2, hro, hr16⟩ := hCB.2 _ hbl
  refine q_astore C dX4_knot_5 (by decide) rfl ?_
  refine q_iload_n C dX4_knot_7 rfl ?_
  refine q_aload C dX4_knot_8 rfl ?_
  refine x_getIN C (ci := 0) (k := 3) (C0 := RX0) (T := TX0) (NF := 8) (ref := RX0) (host := RX4) dX4_knot_10 (fi_Brow hb8) rfl iX4_knot_X0 (by decide) (by decide +kernel) rfl ?_
  refine q_callSH (As := [_, _]) (nA := 2) C hx dX4_knot_13 (m_needElement _ _ _ _ _) gX4_knot_X4_needElement rfl (by decide +kernel) rfl ⟨Nat.le_of_ble_eq_true rfl, Nat.le_of_ble_eq_true rfl⟩ (Nat.le_of_ble_eq_true rfl) ⟨Nat.le_of_ble_eq_true rfl, Nat.le_of_ble_eq_true rfl⟩ ⟨Nat.le_of_ble_eq_true rfl, Nat.le_of_ble_eq_true rfl⟩ (fun Z h => ⟨rfl, Or.inl ⟨h.1, fun hc => h.2 (kb_el.mpr hc.2.1)⟩⟩) (fun v13 g13 h13 => ?_)
  obtain ⟨rfl, rfl, hR⟩ := h13
  rw [kb_el] at hR
  obtain ⟨hrn, hrl⟩ := hR.nat hro
  refine q_iload_n C dX4_knot_16 rfl ?_
  refine q_aload C dX4_knot_17 rfl ?_
  refine x_getIN C (ci := 0) (k := 2) (C0 := RX0) (T := TX0) (NF := 8) (ref := RX0) (host := RX4) dX4_knot_19 (fi_Bthr hb8) rfl iX4_knot_X0 (by decide) (by decide +kernel) rfl ?_
  refine q_iload_n C dX4_knot_22 rfl ?_
  refine q_callS (As := [_, _]) (nA := 2) C dX4_knot_23 (m_knotsIn _ _ _ _ _) gX4_knot_X4_knotsIn rfl (by decide +kernel) rfl ⟨Nat.le_of_ble_eq_true rfl, Nat.le_of_ble_eq_true rfl⟩ (Nat.le_of_ble_eq_true rfl) ⟨Nat.le_of_ble_eq_true rfl, Nat.le_of_ble_eq_true rfl⟩ (fun v23 g23 h23 => ?_)
  obtain ⟨rfl, rfl⟩ := h23
  refine q_callSH (As := [_, _]) (nA := 2) C hx dX4_knot_26 (m_needElement _ _ _ _ _) gX4_knot_X4_needElement rfl (by decide +kernel) rfl ⟨Nat.le_of_ble_eq_true rfl, Nat.le_of_ble_eq_true rfl⟩ (Nat.le_of_ble_eq_true rfl) ⟨Nat.le_of_ble_eq_true rfl, Nat.le_of_ble_eq_true rfl⟩ ⟨Nat.le_of_ble_eq_true rfl, Nat.le_of_ble_eq_true rfl⟩ (fun Z h => ⟨rfl, Or.inl ⟨h.1, fun hc => h.2 (kb_el.mpr hc.2.2)⟩⟩) (fun v26 g26 h26 => ?_)
  obtain ⟨rfl, rfl, hK⟩ := h26
  rw [kb_el] at hK
  have ekn : kb_knotsIn (X (92 + 7 * kb_tn b) 2) r = nI (kb_kn (kb_tn (X (92 + 7 * kb_tn b) 2)) (kb_tn r)) := by
    have h9 := nv_knotsIn (kb_tn (X (92 + 7 * kb_tn b) 2)) (by omega) (kb_tn r) (by omega) (by omega)
    rw [← hrn, ← hth] at h9
    exact h9
  have hkl3 : kb_kn (kb_tn (X (92 + 7 * kb_tn b) 2)) (kb_tn r) ≤ 3 := kb_kn_le hn
  obtain ⟨hkn, hkl⟩ := (show kb_e k (nI (kb_kn (kb_tn (X (92 + 7 * kb_tn b) 2)) (kb_tn r))) from by rw [← ekn]; exact hK).natN (by omega)
  refine q_aload C dX4_knot_29 rfl ?_
  refine x_getRN C (ci := 0) (k := 1) (C0 := RX0) (T := TX0) (NF := 8) (ref := RX0) (host := RX4) dX4_knot_31 (fr_Bkin hb8) rfl iX4_knot_X0 (by decide) (by decide +kernel) rfl ?_
  refine q_iload_n C dX4_knot_34 rfl ?_
  refine q_top (show Value.int _ = Value.int _ from congrArg Value.int (hrn)) ?_
  refine x_ialdN C dX4_knot_35 (ia_Bkin hb8) (by decide) (by omega) ?_
  refine q_iload_n C dX4_knot_36 rfl ?_
  refine q_callS (As := [_, _]) (nA := 2) C dX4_knot_37 (m_kindIn _ _ _ _ _) gX4_knot_X4_kindIn rfl (by decide +kernel) rfl ⟨Nat.le_of_ble_eq_true rfl, Nat.le_of_ble_eq_true rfl⟩ (Nat.le_of_ble_eq_true rfl) ⟨Nat.le_of_ble_eq_true rfl, Nat.le_of_ble_eq_true rfl⟩ (fun v37 g37 h37 => ?_)
  obtain ⟨rfl, rfl⟩ := h37
  refine q_istore C dX4_knot_40 (by decide) rfl ?_
  refine q_iload C dX4_knot_42 rfl ?_
  refine q_iconst C (v := -1) dX4_knot_44 (by decide) ?_
  refine q_icmpeq C (tgt := 74) dX4_knot_45 (by decide) (fun c45 => ?_) (fun c45 => ?_)
  · refine q_iload C dX4_knot_74 rfl ?_
    exact q_retX (by decide) (by decide) (q_iret C dX4_knot_76 ⟨⟨hB, hR, hK⟩, by first | exact Or.inl c45 | exact Or.inr hA, rfl, by first | rw [if_pos c45] | rw [if_neg c45]⟩)
  · refine q_iload C dX4_knot_48 rfl ?_
    refine q_iconst C (v := nI 4) dX4_knot_50 (by decide) ?_
    refine q_callSH (As := [_, _]) (nA := 2) C hx dX4_knot_51 (m_needArgument _ _ _ _ _) gX4_knot_X4_needArgument rfl (by decide +kernel) rfl ⟨Nat.le_of_ble_eq_true rfl, Nat.le_of_ble_eq_true rfl⟩ (Nat.le_of_ble_eq_true rfl) ⟨Nat.le_of_ble_eq_true rfl, Nat.le_of_ble_eq_true rfl⟩ ⟨Nat.le_of_ble_eq_true rfl, Nat.le_of_ble_eq_true rfl⟩ (fun Z h => ⟨rfl, Or.inr ⟨h.1, ⟨hB, hR, hK⟩, fun hc => h.2 (kb_el.mpr (hc.resolve_left c45))⟩⟩) (fun v51 g51 h51 => ?_)
    obtain ⟨rfl, rfl, hA⟩ := h51
    rw [kb_el] at hA
    refine q_aload C dX4_knot_54 rfl ?_
    refine x_getRN C (ci := 0) (k := 1) (C0 := RX0) (T := TX0) (NF := 8) (ref := RX0) (host := RX4) dX4_knot_56 (fr_Bkin hb8) rfl iX4_knot_X0 (by decide) (by decide +kernel) rfl ?_
    refine q_iload_n C dX4_knot_59 rfl ?_
    refine q_top (show Value.int _ = Value.int _ from congrArg Value.int (hrn)) ?_
    refine q_aload C dX4_knot_60 rfl ?_
    refine x_getRN C (ci := 0) (k := 1) (C0 := RX0) (T := TX0) (NF := 8) (ref := RX0) (host := RX4) dX4_knot_62 (fr_Bkin hb8) rfl iX4_knot_X0 (by decide) (by decide +kernel) rfl ?_
    refine q_iload_n C dX4_knot_65 rfl ?_
    refine q_top (show Value.int _ = Value.int _ from congrArg Value.int (hrn)) ?_
    refine x_ialdN C dX4_knot_66 (ia_Bkin hb8) (by decide) (by omega) ?_
    refine q_iload_n C dX4_knot_67 rfl ?_
    refine q_iload C dX4_knot_68 rfl ?_
    refine q_callS (As := [_, _, _]) (nA := 3) C dX4_knot_70 (m_withKind _ _ _ _ _ _) gX4_knot_X4_withKind rfl (by decide +kernel) rfl ⟨Nat.le_of_ble_eq_true rfl, Nat.le_of_ble_eq_true rfl⟩ (Nat.le_of_ble_eq_true rfl) ⟨Nat.le_of_ble_eq_true rfl, Nat.le_of_ble_eq_true rfl⟩ (fun v70 g70 h70 => ?_)
    obtain ⟨rfl, rfl⟩ := h70
    refine x_iastN C dX4_knot_73 (ia_Bkin hb8) (by decide) (by omega) ?_
    refine q_iload C dX4_knot_74 rfl ?_
    exact q_retX (by decide) (by decide) (q_iret C dX4_knot_76 ⟨⟨hB, hR, hK⟩, by first | exact Or.inl c45 | exact Or.inr hA, rfl, by first | rw [if_pos c45] | rw [if_neg c45]⟩)
theorem iX4_shows_X0 : ∀ w ∈ wsX00, w ∈ wsX4_shows := fun _ h => List.mem_cons_of_mem _ (by first | exact h | exact List.mem_append_right _ h | exact List.mem_append_left _ (List.mem_append_right _ h) | exact List.mem_append_left _ (List.mem_append_left _ (List.mem_append_right _ h)) | exact List.mem_append_left _ (List.mem_append_left _ (List.mem_append_left _ (List.mem_append_right _ h))) | exact List.mem_append_left _ (List.mem_append_left _ (List.mem_append_left _ (List.mem_append_left _ (List.mem_append_right _ h)))) | exact List.mem_append_left _ (List.mem_append_left _ (List.mem_append_left _ (List.mem_append_left _ (List.mem_append_left _ (List.mem_append_right _ h))))))
set_option maxRecDepth 100000 in
set_option maxHeartbeats 4000000 in
/-- X4.shows -/
theorem m_shows (l : Launch) (E : kb_E) (X : Nat → Nat → Int32) (Y : Nat → Nat → Int64) (b r k : Int32) (hCB : kb_CB X) : kb_MetG l E 202 yX4_shows wsX4_shows ({ frames := 8, cells := 3, slots := 18, locals := 124 }) [.ref (E.2.2.2 0), .int b, .int r, .int k] (kb_ent E X Y) (fun v g' => (kb_e b (X 0 3) ∧ kb_e r (X (92 + 7 * kb_tn b) 3) ∧ kb_e k (kb_knotsIn (X (92 + 7 * kb_tn b) 2) r)) ∧ v = some (.int (X (92 + 7 * kb_tn b + 1) (kb_sh (kb_kd (X (92 + 7 * kb_tn b + 2))) (kb_tn (X (92 + 7 * kb_tn b) 2)) (kb_tn r) (kb_tn k)))) ∧ ∃ X', g' = kb_ent E X' Y ∧ kb_sameB (kb_tn b) X X') (kb_tG E X Y (kb_e b (X 0 3) ∧ kb_e r (X (92 + 7 * kb_tn b) 3) ∧ kb_e k (kb_knotsIn (X (92 + 7 * kb_tn b) 2) r)) (True)) := by
  refine kb_enterG (cc := cX4_shows) (maxL := 5) (ret := (some .int)) (by decide +kernel) rfl (by simp [Value.category]) (Nat.le_of_ble_eq_true rfl) ?_
  intro p e s m args below meth c C hx
  refine q_aload_n C dX4_shows_0 rfl ?_
  refine q_iload_n C dX4_shows_1 rfl ?_
  refine x_callVG (As := [_]) (nA := 1) (T := TX4) (NF := 5) C hx dX4_shows_2 ob_K rfl (m_bandAt _ _ X Y b hCB.1) gX4_shows_X4_bandAt rfl (by decide +kernel) rfl ⟨Nat.le_of_ble_eq_true rfl, Nat.le_of_ble_eq_true rfl⟩ (Nat.le_of_ble_eq_true rfl) ⟨Nat.le_of_ble_eq_true rfl, Nat.le_of_ble_eq_true rfl⟩ ⟨Nat.le_of_ble_eq_true rfl, Nat.le_of_ble_eq_true rfl⟩ (fun Z g9 h => ⟨h.1, h.2.elim (fun z => Or.inl ⟨z.1, fun hc => z.2 hc.1⟩) (fun z => absurd trivial z.2.2)⟩) (fun v2 g2 h2 => ?_)
  obtain ⟨hB, rfl, rfl⟩ := h2
  obtain ⟨hbn, hbl⟩ := hB.nat hCB.1.1
  have hb8 : kb_tn b < 8 := Nat.lt_of_lt_of_le hbl hCB.1.2
  obtain ⟨⟨hth, hn⟩, hn2, hro, hr16⟩ := hCB.2 _ hbl
  refine q_astore C dX4_shows_5 (by decide) rfl ?_
  refine q_iload_n C dX4_shows_7 rfl ?_
  refine q_aload C dX4_shows_8 rfl ?_
  refine x_getIN C (ci := 0) (k := 3) (C0 := RX0) (T := TX0) (NF := 8) (ref := RX0) (host := RX4) dX4_shows_10 (fi_Brow hb8) rfl iX4_shows_X0 (by decide) (by decide +kernel) rfl ?_
  refine q_callSH (As := [_, _]) (nA := 2) C hx dX4_shows_13 (m_needElement _ _ _ _ _) gX4_shows_X4_needElement rfl (by decide +kernel) rfl ⟨Nat.le_of_ble_eq_true rfl, Nat.le_of_ble_eq_true rfl⟩ (Nat.le_of_ble_eq_true rfl) ⟨Nat.le_of_ble_eq_true rfl, Nat.le_of_ble_eq_true rfl⟩ ⟨Nat.le_of_ble_eq_true rfl, Nat.le_of_ble_eq_true rfl⟩ (fun Z h => ⟨rfl, Or.inl ⟨h.1, fun hc => h.2 (kb_el.mpr hc.2.1)⟩⟩) (fun v13 g13 h13 => ?_)
  obtain ⟨rfl, rfl, hR⟩ := h13
  rw [kb_el] at hR
  obtain ⟨hrn, hrl⟩ := hR.nat hro
  refine q_iload_n C dX4_shows_16 rfl ?_
  refine q_aload C dX4_shows_17 rfl ?_
  refine x_getIN C (ci := 0) (k := 2) (C0 := RX0) (T := TX0) (NF := 8) (ref := RX0) (host := RX4) dX4_shows_19 (fi_Bthr hb8) rfl iX4_shows_X0 (by decide) (by decide +kernel) rfl ?_
  refine q_iload_n C dX4_shows_22 rfl ?_
  refine q_callS (As := [_, _]) (nA := 2) C dX4_shows_23 (m_knotsIn _ _ _ _ _) gX4_shows_X4_knotsIn rfl (by decide +kernel) rfl ⟨Nat.le_of_ble_eq_true rfl, Nat.le_of_ble_eq_true rfl⟩ (Nat.le_of_ble_eq_true rfl) ⟨Nat.le_of_ble_eq_true rfl, Nat.le_of_ble_eq_true rfl⟩ (fun v23 g23 h23 => ?_)
  obtain ⟨rfl, rfl⟩ := h23
  refine q_callSH (As := [_, _]) (nA := 2) C hx dX4_shows_26 (m_needElement _ _ _ _ _) gX4_shows_X4_needElement rfl (by decide +kernel) rfl ⟨Nat.le_of_ble_eq_true rfl, Nat.le_of_ble_eq_true rfl⟩ (Nat.le_of_ble_eq_true rfl) ⟨Nat.le_of_ble_eq_true rfl, Nat.le_of_ble_eq_true rfl⟩ ⟨Nat.le_of_ble_eq_true rfl, Nat.le_of_ble_eq_true rfl⟩ (fun Z h => ⟨rfl, Or.inl ⟨h.1, fun hc => h.2 (kb_el.mpr hc.2.2)⟩⟩) (fun v26 g26 h26 => ?_)
  obtain ⟨rfl, rfl, hK⟩ := h26
  rw [kb_el] at hK
  have ekn : kb_knotsIn (X (92 + 7 * kb_tn b) 2) r = nI (kb_kn (kb_tn (X (92 + 7 * kb_tn b) 2)) (kb_tn r)) := by
    have h9 := nv_knotsIn (kb_tn (X (92 + 7 * kb_tn b) 2)) (by omega) (kb_tn r) (by omega) (by omega)
    rw [← hrn, ← hth] at h9
    exact h9
  have hkl3 : kb_kn (kb_tn (X (92 + 7 * kb_tn b) 2)) (kb_tn r) ≤ 3 := kb_kn_le hn
  obtain ⟨hkn, hkl⟩ := (show kb_e k (nI (kb_kn (kb_tn (X (92 + 7 * kb_tn b) 2)) (kb_tn r))) from by rw [← ekn]; exact hK).natN (by omega)
  refine q_aload C dX4_shows_29 rfl ?_
  refine q_iload_n C dX4_shows_31 rfl ?_
  refine q_top (show Value.int _ = Value.int _ from congrArg Value.int (hrn)) ?_
  refine q_iconst C (v := nI 1) dX4_shows_32 (by decide) ?_
  refine q_iaddN C dX4_shows_33 ?_
  refine x_callV (As := [_]) (nA := 1) (T := TX0) (NF := 8) C dX4_shows_34 (ob_B hb8) rfl (m_walk _ _ X Y (kb_tn b) (kb_tn (X (92 + 7 * kb_tn b) 2)) (kb_tn r + 1) hb8 hn hn2 (by omega) hth) gX4_shows_X0_walk rfl (by decide +kernel) rfl ⟨Nat.le_of_ble_eq_true rfl, Nat.le_of_ble_eq_true rfl⟩ (Nat.le_of_ble_eq_true rfl) ⟨Nat.le_of_ble_eq_true rfl, Nat.le_of_ble_eq_true rfl⟩ (fun v34 g34 h34 => ?_)
  obtain ⟨rfl, Xw, rfl, hw⟩ := h34
  refine q_aload C dX4_shows_37 rfl ?_
  refine x_getRN C (ci := 0) (k := 6) (C0 := RX0) (T := TX0) (NF := 8) (ref := RX0) (host := RX4) dX4_shows_39 (fr_Bsho hb8) rfl iX4_shows_X0 (by decide) (by decide +kernel) rfl ?_
  refine q_iload_n C dX4_shows_42 rfl ?_
  refine q_top (show Value.int _ = Value.int _ from congrArg Value.int (hrn)) ?_
  refine q_iload_n C dX4_shows_43 rfl ?_
  refine q_top (show Value.int _ = Value.int _ from congrArg Value.int (hkn)) ?_
  refine q_callS (As := [_, _]) (nA := 2) C dX4_shows_44 (m_spotOf _ _ _ _ _) gX4_shows_X4_spotOf rfl (by decide +kernel) rfl ⟨Nat.le_of_ble_eq_true rfl, Nat.le_of_ble_eq_true rfl⟩ (Nat.le_of_ble_eq_true rfl) ⟨Nat.le_of_ble_eq_true rfl, Nat.le_of_ble_eq_true rfl⟩ (fun v44 g44 h44 => ?_)
  obtain ⟨rfl, rfl⟩ := h44
  refine q_top (show Value.int _ = Value.int _ from congrArg Value.int (nv_spotOf _ _)) ?_
  refine x_ialdN C dX4_shows_47 (ia_Bsho hb8) (by decide) (by omega) ?_
  exact q_retX (by decide) (by decide) (q_iret C dX4_shows_48 ⟨⟨hB, hR, hK⟩, by rw [hw.2.2.2 _ (by omega) _ hkl], _, rfl, hw.1⟩)
theorem iX4_thread_X0 : ∀ w ∈ wsX00, w ∈ wsX4_thread := fun _ h => List.mem_cons_of_mem _ (by first | exact h | exact List.mem_append_right _ h | exact List.mem_append_left _ (List.mem_append_right _ h) | exact List.mem_append_left _ (List.mem_append_left _ (List.mem_append_right _ h)) | exact List.mem_append_left _ (List.mem_append_left _ (List.mem_append_left _ (List.mem_append_right _ h))) | exact List.mem_append_left _ (List.mem_append_left _ (List.mem_append_left _ (List.mem_append_left _ (List.mem_append_right _ h)))) | exact List.mem_append_left _ (List.mem_append_left _ (List.mem_append_left _ (List.mem_append_left _ (List.mem_append_left _ (List.mem_append_right _ h))))))
set_option maxRecDepth 100000 in
set_option maxHeartbeats 4000000 in
/-- X4.thread -/
theorem m_thread (l : Launch) (E : kb_E) (X : Nat → Nat → Int32) (Y : Nat → Nat → Int64) (b r t : Int32) (hCB : kb_CB X) : kb_MetG l E 202 yX4_thread wsX4_thread ({ frames := 8, cells := 3, slots := 18, locals := 124 }) [.ref (E.2.2.2 0), .int b, .int r, .int t] (kb_ent E X Y) (fun v g' => (kb_e b (X 0 3) ∧ kb_e r (nI ((kb_tn (X (92 + 7 * kb_tn b) 3)) + 1)) ∧ kb_e t (X (92 + 7 * kb_tn b) 2)) ∧ v = some (.int (nI (kb_at (kb_kd (X (92 + 7 * kb_tn b + 2))) (kb_tn (X (92 + 7 * kb_tn b) 2)) (kb_tn r) (kb_tn t)))) ∧ ∃ X', g' = kb_ent E X' Y ∧ kb_sameB (kb_tn b) X X') (kb_tG E X Y (kb_e b (X 0 3) ∧ kb_e r (nI ((kb_tn (X (92 + 7 * kb_tn b) 3)) + 1)) ∧ kb_e t (X (92 + 7 * kb_tn b) 2)) (True)) := by
  refine kb_enterG (cc := cX4_thread) (maxL := 5) (ret := (some .int)) (by decide +kernel) rfl (by simp [Value.category]) (Nat.le_of_ble_eq_true rfl) ?_
  intro p e s m args below meth c C hx
  refine q_aload_n C dX4_thread_0 rfl ?_
  refine q_iload_n C dX4_thread_1 rfl ?_
  refine x_callVG (As := [_]) (nA := 1) (T := TX4) (NF := 5) C hx dX4_thread_2 ob_K rfl (m_bandAt _ _ X Y b hCB.1) gX4_thread_X4_bandAt rfl (by decide +kernel) rfl ⟨Nat.le_of_ble_eq_true rfl, Nat.le_of_ble_eq_true rfl⟩ (Nat.le_of_ble_eq_true rfl) ⟨Nat.le_of_ble_eq_true rfl, Nat.le_of_ble_eq_true rfl⟩ ⟨Nat.le_of_ble_eq_true rfl, Nat.le_of_ble_eq_true rfl⟩ (fun Z g9 h => ⟨h.1, h.2.elim (fun z => Or.inl ⟨z.1, fun hc => z.2 hc.1⟩) (fun z => absurd trivial z.2.2)⟩) (fun v2 g2 h2 => ?_)
  obtain ⟨hB, rfl, rfl⟩ := h2
  obtain ⟨hbn, hbl⟩ := hB.nat hCB.1.1
  have hb8 : kb_tn b < 8 := Nat.lt_of_lt_of_le hbl hCB.1.2
  obtain ⟨⟨hth, hn⟩, hn2, hro, hr16⟩ := hCB.2 _ hbl
  refine q_astore C dX4_thread_5 (by decide) rfl ?_
  refine q_iload_n C dX4_thread_7 rfl ?_
  refine q_aload C dX4_thread_8 rfl ?_
  refine x_getIN C (ci := 0) (k := 3) (C0 := RX0) (T := TX0) (NF := 8) (ref := RX0) (host := RX4) dX4_thread_10 (fi_Brow hb8) rfl iX4_thread_X0 (by decide) (by decide +kernel) rfl ?_
  refine q_top (show Value.int _ = Value.int _ from congrArg Value.int (hro)) ?_
  refine q_iconst C (v := nI 1) dX4_thread_13 (by decide) ?_
  refine q_iaddN C dX4_thread_14 ?_
  refine q_callSH (As := [_, _]) (nA := 2) C hx dX4_thread_15 (m_needElement _ _ _ _ _) gX4_thread_X4_needElement rfl (by decide +kernel) rfl ⟨Nat.le_of_ble_eq_true rfl, Nat.le_of_ble_eq_true rfl⟩ (Nat.le_of_ble_eq_true rfl) ⟨Nat.le_of_ble_eq_true rfl, Nat.le_of_ble_eq_true rfl⟩ ⟨Nat.le_of_ble_eq_true rfl, Nat.le_of_ble_eq_true rfl⟩ (fun Z h => ⟨rfl, Or.inl ⟨h.1, fun hc => h.2 (kb_el.mpr hc.2.1)⟩⟩) (fun v15 g15 h15 => ?_)
  obtain ⟨rfl, rfl, hR⟩ := h15
  rw [kb_el] at hR
  obtain ⟨hrn, hrl⟩ := hR.natN (by omega)
  refine q_iload_n C dX4_thread_18 rfl ?_
  refine q_aload C dX4_thread_19 rfl ?_
  refine x_getIN C (ci := 0) (k := 2) (C0 := RX0) (T := TX0) (NF := 8) (ref := RX0) (host := RX4) dX4_thread_21 (fi_Bthr hb8) rfl iX4_thread_X0 (by decide) (by decide +kernel) rfl ?_
  refine q_callSH (As := [_, _]) (nA := 2) C hx dX4_thread_24 (m_needElement _ _ _ _ _) gX4_thread_X4_needElement rfl (by decide +kernel) rfl ⟨Nat.le_of_ble_eq_true rfl, Nat.le_of_ble_eq_true rfl⟩ (Nat.le_of_ble_eq_true rfl) ⟨Nat.le_of_ble_eq_true rfl, Nat.le_of_ble_eq_true rfl⟩ ⟨Nat.le_of_ble_eq_true rfl, Nat.le_of_ble_eq_true rfl⟩ (fun Z h => ⟨rfl, Or.inl ⟨h.1, fun hc => h.2 (kb_el.mpr hc.2.2)⟩⟩) (fun v24 g24 h24 => ?_)
  obtain ⟨rfl, rfl, hT⟩ := h24
  rw [kb_el] at hT
  obtain ⟨htn, htl⟩ := hT.nat hth
  refine q_aload C dX4_thread_27 rfl ?_
  refine q_iload_n C dX4_thread_29 rfl ?_
  refine q_top (show Value.int _ = Value.int _ from congrArg Value.int (hrn)) ?_
  refine x_callV (As := [_]) (nA := 1) (T := TX0) (NF := 8) C dX4_thread_30 (ob_B hb8) rfl (m_walk _ _ X Y (kb_tn b) (kb_tn (X (92 + 7 * kb_tn b) 2)) (kb_tn r) hb8 hn hn2 (by omega) hth) gX4_thread_X0_walk rfl (by decide +kernel) rfl ⟨Nat.le_of_ble_eq_true rfl, Nat.le_of_ble_eq_true rfl⟩ (Nat.le_of_ble_eq_true rfl) ⟨Nat.le_of_ble_eq_true rfl, Nat.le_of_ble_eq_true rfl⟩ (fun v30 g30 h30 => ?_)
  obtain ⟨rfl, Xw, rfl, hw⟩ := h30
  refine q_aload C dX4_thread_33 rfl ?_
  refine x_getRN C (ci := 0) (k := 4) (C0 := RX0) (T := TX0) (NF := 8) (ref := RX0) (host := RX4) dX4_thread_35 (fr_Bsta hb8) rfl iX4_thread_X0 (by decide) (by decide +kernel) rfl ?_
  refine q_iload_n C dX4_thread_38 rfl ?_
  refine q_top (show Value.int _ = Value.int _ from congrArg Value.int (htn)) ?_
  refine x_ialdN C dX4_thread_39 (ia_Bsta hb8) (by decide) (by omega) ?_
  exact q_retX (by decide) (by decide) (q_iret C dX4_thread_40 ⟨⟨hB, hR, hT⟩, by rw [hw.2.1 _ htl], _, rfl, hw.1⟩)
theorem iX4_used_X0 : ∀ w ∈ wsX00, w ∈ wsX4_used := fun _ h => List.mem_cons_of_mem _ (by first | exact h | exact List.mem_append_right _ h | exact List.mem_append_left _ (List.mem_append_right _ h) | exact List.mem_append_left _ (List.mem_append_left _ (List.mem_append_right _ h)) | exact List.mem_append_left _ (List.mem_append_left _ (List.mem_append_left _ (List.mem_append_right _ h))) | exact List.mem_append_left _ (List.mem_append_left _ (List.mem_append_left _ (List.mem_append_left _ (List.mem_append_right _ h)))) | exact List.mem_append_left _ (List.mem_append_left _ (List.mem_append_left _ (List.mem_append_left _ (List.mem_append_left _ (List.mem_append_right _ h))))))
set_option maxRecDepth 100000 in
set_option maxHeartbeats 4000000 in
/-- X4.used -/
theorem m_used (l : Launch) (E : kb_E) (X : Nat → Nat → Int32) (Y : Nat → Nat → Int64) (b t : Int32) (hCB : kb_CB X) : kb_MetG l E 202 yX4_used wsX4_used ({ frames := 8, cells := 2, slots := 12, locals := 124 }) [.ref (E.2.2.2 0), .int b, .int t] (kb_ent E X Y) (fun v g' => (kb_e b (X 0 3) ∧ kb_e t (X (92 + 7 * kb_tn b) 2)) ∧ v = some (.int (nI (kb_use (kb_kd (X (92 + 7 * kb_tn b + 2))) (kb_tn (X (92 + 7 * kb_tn b) 2)) (kb_tn t) (kb_tn (X (92 + 7 * kb_tn b) 3))))) ∧ ∃ X', g' = kb_ent E X' Y ∧ kb_sameB (kb_tn b) X X') (kb_tG E X Y (kb_e b (X 0 3) ∧ kb_e t (X (92 + 7 * kb_tn b) 2)) (True)) := by
  refine kb_enterG (cc := cX4_used) (maxL := 4) (ret := (some .int)) (by decide +kernel) rfl (by simp [Value.category]) (Nat.le_of_ble_eq_true rfl) ?_
  intro p e s m args below meth c C hx
  refine q_aload_n C dX4_used_0 rfl ?_
  refine q_iload_n C dX4_used_1 rfl ?_
  refine x_callVG (As := [_]) (nA := 1) (T := TX4) (NF := 5) C hx dX4_used_2 ob_K rfl (m_bandAt _ _ X Y b hCB.1) gX4_used_X4_bandAt rfl (by decide +kernel) rfl ⟨Nat.le_of_ble_eq_true rfl, Nat.le_of_ble_eq_true rfl⟩ (Nat.le_of_ble_eq_true rfl) ⟨Nat.le_of_ble_eq_true rfl, Nat.le_of_ble_eq_true rfl⟩ ⟨Nat.le_of_ble_eq_true rfl, Nat.le_of_ble_eq_true rfl⟩ (fun Z g9 h => ⟨h.1, h.2.elim (fun z => Or.inl ⟨z.1, fun hc => z.2 hc.1⟩) (fun z => absurd trivial z.2.2)⟩) (fun v2 g2 h2 => ?_)
  obtain ⟨hB, rfl, rfl⟩ := h2
  obtain ⟨hbn, hbl⟩ := hB.nat hCB.1.1
  have hb8 : kb_tn b < 8 := Nat.lt_of_lt_of_le hbl hCB.1.2
  obtain ⟨⟨hth, hn⟩, hn2, hro, hr16⟩ := hCB.2 _ hbl
  refine q_astore_n C dX4_used_5 (by decide) rfl ?_
  refine q_iload_n C dX4_used_6 rfl ?_
  refine q_aload_n C dX4_used_7 rfl ?_
  refine x_getIN C (ci := 0) (k := 2) (C0 := RX0) (T := TX0) (NF := 8) (ref := RX0) (host := RX4) dX4_used_8 (fi_Bthr hb8) rfl iX4_used_X0 (by decide) (by decide +kernel) rfl ?_
  refine q_callSH (As := [_, _]) (nA := 2) C hx dX4_used_11 (m_needElement _ _ _ _ _) gX4_used_X4_needElement rfl (by decide +kernel) rfl ⟨Nat.le_of_ble_eq_true rfl, Nat.le_of_ble_eq_true rfl⟩ (Nat.le_of_ble_eq_true rfl) ⟨Nat.le_of_ble_eq_true rfl, Nat.le_of_ble_eq_true rfl⟩ ⟨Nat.le_of_ble_eq_true rfl, Nat.le_of_ble_eq_true rfl⟩ (fun Z h => ⟨rfl, Or.inl ⟨h.1, fun hc => h.2 (kb_el.mpr hc.2)⟩⟩) (fun v11 g11 h11 => ?_)
  obtain ⟨rfl, rfl, hT⟩ := h11
  rw [kb_el] at hT
  obtain ⟨htn, htl⟩ := hT.nat hth
  refine q_aload_n C dX4_used_14 rfl ?_
  refine q_aload_n C dX4_used_15 rfl ?_
  refine x_getIN C (ci := 0) (k := 3) (C0 := RX0) (T := TX0) (NF := 8) (ref := RX0) (host := RX4) dX4_used_16 (fi_Brow hb8) rfl iX4_used_X0 (by decide) (by decide +kernel) rfl ?_
  refine q_top (show Value.int _ = Value.int _ from congrArg Value.int (hro)) ?_
  refine x_callV (As := [_]) (nA := 1) (T := TX0) (NF := 8) C dX4_used_19 (ob_B hb8) rfl (m_walk _ _ X Y (kb_tn b) (kb_tn (X (92 + 7 * kb_tn b) 2)) (kb_tn (X (92 + 7 * kb_tn b) 3)) hb8 hn hn2 hr16 hth) gX4_used_X0_walk rfl (by decide +kernel) rfl ⟨Nat.le_of_ble_eq_true rfl, Nat.le_of_ble_eq_true rfl⟩ (Nat.le_of_ble_eq_true rfl) ⟨Nat.le_of_ble_eq_true rfl, Nat.le_of_ble_eq_true rfl⟩ (fun v19 g19 h19 => ?_)
  obtain ⟨rfl, Xw, rfl, hw⟩ := h19
  refine q_aload_n C dX4_used_22 rfl ?_
  refine x_getRN C (ci := 0) (k := 5) (C0 := RX0) (T := TX0) (NF := 8) (ref := RX0) (host := RX4) dX4_used_23 (fr_Bspe hb8) rfl iX4_used_X0 (by decide) (by decide +kernel) rfl ?_
  refine q_iload_n C dX4_used_26 rfl ?_
  refine q_top (show Value.int _ = Value.int _ from congrArg Value.int (htn)) ?_
  refine x_ialdN C dX4_used_27 (ia_Bspe hb8) (by decide) (by omega) ?_
  exact q_retX (by decide) (by decide) (q_iret C dX4_used_28 ⟨⟨hB, hT⟩, by rw [hw.2.2.1 _ htl], _, rfl, hw.1⟩)
theorem iX4_home_X0 : ∀ w ∈ wsX00, w ∈ wsX4_home := fun _ h => List.mem_cons_of_mem _ (by first | exact h | exact List.mem_append_right _ h | exact List.mem_append_left _ (List.mem_append_right _ h) | exact List.mem_append_left _ (List.mem_append_left _ (List.mem_append_right _ h)) | exact List.mem_append_left _ (List.mem_append_left _ (List.mem_append_left _ (List.mem_append_right _ h))) | exact List.mem_append_left _ (List.mem_append_left _ (List.mem_append_left _ (List.mem_append_left _ (List.mem_append_right _ h)))) | exact List.mem_append_left _ (List.mem_append_left _ (List.mem_append_left _ (List.mem_append_left _ (List.mem_append_left _ (List.mem_append_right _ h))))))
set_option maxRecDepth 100000 in
set_option maxHeartbeats 4000000 in
/-- X4.home -/
theorem m_home (l : Launch) (E : kb_E) (X : Nat → Nat → Int32) (Y : Nat → Nat → Int64) (b w0 : Int32) (hCB : kb_CB X) : kb_MetG l E 202 yX4_home wsX4_home ({ frames := 8, cells := 2, slots := 12, locals := 124 }) [.ref (E.2.2.2 0), .int b, .int w0] (kb_ent E X Y) (fun v g' => (kb_e b (X 0 3) ∧ kb_e w0 (nI 2)) ∧ ∃ X', g' = kb_ent E X' Y ∧ (∀ z, z ≠ 92 + 7 * kb_tn b + 3 → z ≠ 92 + 7 * kb_tn b + 4 → z ≠ 92 + 7 * kb_tn b + 5 → z ≠ 92 + 7 * kb_tn b + 6 → X' z = X z) ∧ ((kb_tn (X (92 + 7 * kb_tn b) 3)) % 2 = 1 → v = some (.int (-1))) ∧ (¬ (kb_tn (X (92 + 7 * kb_tn b) 3)) % 2 = 1 → ∃ T, 1 ≤ T ∧ T ≤ 6 ∧ v = some (.int (nI T)) ∧ kb_hmT (kb_at (kb_kd (X (92 + 7 * kb_tn b + 2))) (kb_tn (X (92 + 7 * kb_tn b) 2)) (kb_tn (X (92 + 7 * kb_tn b) 3))) (kb_tn (X (92 + 7 * kb_tn b) 2)) (decide (¬ w0 = 0)) (X (92 + 7 * kb_tn b + 1)) T)) (kb_tG E X Y (kb_e b (X 0 3) ∧ kb_e w0 (nI 2)) (True)) := by
  refine kb_enterG (cc := cX4_home) (maxL := 4) (ret := (some .int)) (by decide +kernel) rfl (by simp [Value.category]) (Nat.le_of_ble_eq_true rfl) ?_
  intro p e s m args below meth c C hx
  refine q_aload_n C dX4_home_0 rfl ?_
  refine q_iload_n C dX4_home_1 rfl ?_
  refine x_callVG (As := [_]) (nA := 1) (T := TX4) (NF := 5) C hx dX4_home_2 ob_K rfl (m_bandAt _ _ X Y b hCB.1) gX4_home_X4_bandAt rfl (by decide +kernel) rfl ⟨Nat.le_of_ble_eq_true rfl, Nat.le_of_ble_eq_true rfl⟩ (Nat.le_of_ble_eq_true rfl) ⟨Nat.le_of_ble_eq_true rfl, Nat.le_of_ble_eq_true rfl⟩ ⟨Nat.le_of_ble_eq_true rfl, Nat.le_of_ble_eq_true rfl⟩ (fun Z g9 h => ⟨h.1, h.2.elim (fun z => Or.inl ⟨z.1, fun hc => z.2 hc.1⟩) (fun z => absurd trivial z.2.2)⟩) (fun v2 g2 h2 => ?_)
  obtain ⟨hB, rfl, rfl⟩ := h2
  obtain ⟨hbn, hbl⟩ := hB.nat hCB.1.1
  have hb8 : kb_tn b < 8 := Nat.lt_of_lt_of_le hbl hCB.1.2
  obtain ⟨⟨hth, hn⟩, hn2, hro, hr16⟩ := hCB.2 _ hbl
  refine q_astore_n C dX4_home_5 (by decide) rfl ?_
  refine q_iload_n C dX4_home_6 rfl ?_
  refine q_iconst C (v := nI 2) dX4_home_7 (by decide) ?_
  refine q_callSH (As := [_, _]) (nA := 2) C hx dX4_home_8 (m_needElement _ _ _ _ _) gX4_home_X4_needElement rfl (by decide +kernel) rfl ⟨Nat.le_of_ble_eq_true rfl, Nat.le_of_ble_eq_true rfl⟩ (Nat.le_of_ble_eq_true rfl) ⟨Nat.le_of_ble_eq_true rfl, Nat.le_of_ble_eq_true rfl⟩ ⟨Nat.le_of_ble_eq_true rfl, Nat.le_of_ble_eq_true rfl⟩ (fun Z h => ⟨rfl, Or.inl ⟨h.1, fun hc => h.2 (kb_el.mpr hc.2)⟩⟩) (fun v8 g8 h8 => ?_)
  obtain ⟨rfl, rfl, hW⟩ := h8
  rw [kb_el] at hW
  obtain ⟨hwn, hwl⟩ := hW.natN (by decide)
  refine q_aload_n C dX4_home_11 rfl ?_
  refine x_getIN C (ci := 0) (k := 3) (C0 := RX0) (T := TX0) (NF := 8) (ref := RX0) (host := RX4) dX4_home_12 (fi_Brow hb8) rfl iX4_home_X0 (by decide) (by decide +kernel) rfl ?_
  refine q_top (show Value.int _ = Value.int _ from congrArg Value.int (hro)) ?_
  refine q_iconst C (v := nI 1) dX4_home_15 (by decide) ?_
  refine q_iand C dX4_home_16 ?_
  refine q_top (show Value.int _ = Value.int _ from congrArg Value.int (pk_andN (show (kb_tn (X (92 + 7 * kb_tn b) 3)) < 2 ^ 32 by omega) 1 (by decide))) ?_
  refine q_iconst C (v := nI 1) dX4_home_17 (by decide) ?_
  refine q_icmpneN C (tgt := 23) dX4_home_18 (by decide) (by omega) (by omega) (fun c18 => ?_) (fun c18 => ?_)
  · refine q_aload_n C dX4_home_23 rfl ?_
    refine q_cut 34 (P := fun f => decide (¬ f = 0) = decide (¬ w0 = 0)) (fun f34 hf34 => ?_) (fun J34 => ?_)
    · refine x_callV (As := [_]) (nA := 1) (T := TX0) (NF := 8) C dX4_home_34 (ob_B hb8) rfl (m_timesToHome _ _ X Y (kb_tn b) (kb_tn (X (92 + 7 * kb_tn b) 2)) (kb_tn (X (92 + 7 * kb_tn b) 3)) hb8 hn hn2 hr16 hth hro f34) gX4_home_X0_timesToHome rfl (by decide +kernel) rfl ⟨Nat.le_of_ble_eq_true rfl, Nat.le_of_ble_eq_true rfl⟩ (Nat.le_of_ble_eq_true rfl) ⟨Nat.le_of_ble_eq_true rfl, Nat.le_of_ble_eq_true rfl⟩ (fun v34 g34 h34 => ?_)
      obtain ⟨T, Xh, rfl, ⟨hT1, hT6, hT⟩, rfl, hs⟩ := h34
      rw [hf34] at hT
      exact q_retX (by decide) (by decide) (q_iret C dX4_home_37 ⟨⟨hB, hW⟩, Xh, rfl, hs, fun h => absurd h c18, fun _ => ⟨T, hT1, hT6, rfl, hT⟩⟩)
    refine q_iload_n C dX4_home_24 rfl ?_
    refine q_top (show Value.int _ = Value.int _ from congrArg Value.int (hwn)) ?_
    refine q_iconst C (v := nI 1) dX4_home_25 (by decide) ?_
    refine q_icmpneN C (tgt := 33) dX4_home_26 (by decide) (by omega) (by omega) (fun c26 => ?_) (fun c26 => ?_)
    · refine q_iconst C (v := nI 0) dX4_home_33 (by decide) ?_
      exact J34 _ (by first | (rw [hwn, c26]) | (rw [hwn, show kb_tn w0 = 0 by omega]))
    · refine q_iconst C (v := nI 1) dX4_home_29 (by decide) ?_
      refine q_goto C (tgt := 34) dX4_home_30 (by decide) ?_
      exact J34 _ (by first | (rw [hwn, c26]) | (rw [hwn, show kb_tn w0 = 0 by omega]))
  · refine q_iconst C (v := -1) dX4_home_21 (by decide) ?_
    exact q_retX (by decide) (by decide) (q_iret C dX4_home_22 ⟨⟨hB, hW⟩, X, rfl, fun _ _ _ _ _ => rfl, fun _ => rfl, fun h => absurd c18 h⟩)

/-! ===== the reference: first, starts, start, isOpen ===== -/
theorem kb_led0 {n h : Nat} {told : Nat → Nat → Nat} {X X' : Nat → Nat → Int32} (hl : kb_led n h told X X') {s : Nat} (hs : s < 4 ^ n) : kb_flag (kb_cR n h told h s) (X' 200 s) := by
  have := hl.2 h (Nat.le_refl _) s hs
  rw [Nat.sub_self, Nat.mul_zero, Nat.zero_add] at this
  exact this
theorem kb_led.ms {n h : Nat} {told : Nat → Nat → Nat} {X X' : Nat → Nat → Int32} (hl : kb_led n h told X X') : kb_MS X X' := ⟨fun n a _ => hl.1 n (by omega), hl.1 201 (by decide), fun k _ => by rw [hl.1 188 (by decide)]⟩
set_option maxRecDepth 100000 in
set_option maxHeartbeats 4000000 in
/-- X5.first -/
theorem m_first (l : Launch) (E : kb_E) (X : Nat → Nat → Int32) (Y : Nat → Nat → Int64) (b n h : Nat) (hb : b < 8) (hn : n ≤ 6) (hn2 : 2 ≤ n) (hh1 : 1 ≤ h) (hh16 : h ≤ 16) (hw : X 193 b = nI n) (hh : X 194 b = nI h) (told : Nat → Nat → Nat) (htd : ∀ r, r < 16 → ∀ k, k < 3 → X 195 (48 * b + 3 * r + k) = nI (told r k) ∧ told r k ≤ 4) (mu : Nat → Nat) (hmu : ∀ j, j < 6 → X 196 (6 * b + j) = nI (mu j) ∧ mu j ≤ 4) : kb_Met l E 202 yX5_first wsX5_first ({ frames := 3, cells := 0, slots := 0, locals := 75 }) [.ref (E.2.2.2 188), .int (nI b)] (kb_ent E X Y) (fun v g' => ∃ r, v = some (.int r) ∧ kb_fst (kb_stt n h told mu) (4 ^ n) r ∧ ∃ X', g' = kb_ent E X' Y ∧ kb_led n h told X X') := by
  refine kb_enter (cc := cX5_first) (maxL := 3) (ret := (some .int)) (by decide +kernel) rfl (by simp [Value.category]) (Nat.le_of_ble_eq_true rfl) ?_
  intro p e s m args below meth c C hini
  have h4n := kb_4n hn
  refine q_aload_n C dX5_first_0 rfl ?_
  refine q_iload_n C dX5_first_1 rfl ?_
  refine x_callV (As := [_]) (nA := 1) (T := TX5) (NF := 15) C dX5_first_2 ob_M rfl (m_leadsBack _ _ _ _ b n h hb hn hn2 hh1 hh16 hw hh told htd) gX5_first_X5_leadsBack rfl (by decide +kernel) rfl ⟨Nat.le_of_ble_eq_true rfl, Nat.le_of_ble_eq_true rfl⟩ (Nat.le_of_ble_eq_true rfl) ⟨Nat.le_of_ble_eq_true rfl, Nat.le_of_ble_eq_true rfl⟩ (fun v2 g2 h2 => ?_)
  obtain ⟨rfl, X1, rfl, hl⟩ := h2
  refine q_iconst C (v := nI 0) dX5_first_5 (by decide) ?_
  refine q_istore_n C dX5_first_6 (by decide) rfl ?_
  refine q_mask [true, true, true] (q_for (σ := Unit) (k0 := 0) (4 ^ n) (fun s0 _ X' Y' => Y = Y' ∧ X1 = X' ∧ ∀ t, t < s0 → ¬ kb_stt n h told mu t) (fun s0 _ => [some (.ref (E.2.2.2 188)), some (.int (nI b)), some (.int (nI s0))]) (Nat.zero_le _) () (⟨rfl, rfl, fun t ht => absurd ht (Nat.not_lt_zero _)⟩) ?_ ?_)
  · intro s0 a1 X9 Y9 hk_s0 hk0_s0 hI_s0 ih_s0
    obtain ⟨rfl, rfl, hno⟩ := hI_s0
    refine q_iload_n C dX5_first_7 rfl ?_
    refine q_aload_n C dX5_first_8 rfl ?_
    refine q_iload_n C dX5_first_9 rfl ?_
    refine x_callV (As := [_]) (nA := 1) (T := TX5) (NF := 15) C dX5_first_10 ob_M rfl (m_states _ _ X1 Y b n hb hn ((congrFun (hl.1 193 (by decide)) b).trans hw)) gX5_first_X5_states rfl (by decide +kernel) rfl ⟨Nat.le_of_ble_eq_true rfl, Nat.le_of_ble_eq_true rfl⟩ (Nat.le_of_ble_eq_true rfl) ⟨Nat.le_of_ble_eq_true rfl, Nat.le_of_ble_eq_true rfl⟩ (fun v10 g10 h10 => ?_)
    obtain ⟨rfl, rfl⟩ := h10
    refine q_icmpgeN C (tgt := 33) dX5_first_13 (by decide) (by omega) (by omega) (fun c13 => ?_) (fun c13 => ?_)
    · exact absurd c13 (by omega)
    · refine q_aload_n C dX5_first_16 rfl ?_
      refine q_iload_n C dX5_first_17 rfl ?_
      refine q_iload_n C dX5_first_18 rfl ?_
      refine x_callV (As := [_, _]) (nA := 2) (T := TX5) (NF := 15) C dX5_first_19 ob_M rfl (m_isStart _ _ X1 Y b n s0 hb hn hn2 hk_s0 ((congrFun (hl.1 193 (by decide)) b).trans hw) mu (by rw [hl.1 196 (by decide)]; exact hmu) _ (kb_led0 hl hk_s0)) gX5_first_X5_isStart rfl (by decide +kernel) rfl ⟨Nat.le_of_ble_eq_true rfl, Nat.le_of_ble_eq_true rfl⟩ (Nat.le_of_ble_eq_true rfl) ⟨Nat.le_of_ble_eq_true rfl, Nat.le_of_ble_eq_true rfl⟩ (fun v19 g19 h19 => ?_)
      obtain ⟨f19, rfl, hf19, rfl⟩ := h19
      refine q_ifeq C (tgt := 27) dX5_first_22 (by decide) (fun c22 => ?_) (fun c22 => ?_)
      · refine q_iinc1 C dX5_first_27 rfl (by decide) rfl ?_
        refine q_goto C (tgt := 7) dX5_first_30 (by decide) ?_
        exact q_mask [true, true, true] (ih_s0 () _ _ ⟨rfl, rfl, fun t ht => by
          by_cases e : t = s0
          · subst e
            exact kb_flag0 hf19 c22
          · exact hno t (by omega)⟩)
      · refine q_iload_n C dX5_first_25 rfl ?_
        exact q_iret C dX5_first_26 ⟨_, rfl, Or.inl ⟨s0, hk_s0, kb_flag1 hf19 c22, hno, rfl⟩, _, rfl, hl⟩
  · intro a1 X9 Y9 hI_s0
    obtain ⟨rfl, rfl, hno⟩ := hI_s0
    refine q_iload_n C dX5_first_7 rfl ?_
    refine q_aload_n C dX5_first_8 rfl ?_
    refine q_iload_n C dX5_first_9 rfl ?_
    refine x_callV (As := [_]) (nA := 1) (T := TX5) (NF := 15) C dX5_first_10 ob_M rfl (m_states _ _ X1 Y b n hb hn ((congrFun (hl.1 193 (by decide)) b).trans hw)) gX5_first_X5_states rfl (by decide +kernel) rfl ⟨Nat.le_of_ble_eq_true rfl, Nat.le_of_ble_eq_true rfl⟩ (Nat.le_of_ble_eq_true rfl) ⟨Nat.le_of_ble_eq_true rfl, Nat.le_of_ble_eq_true rfl⟩ (fun v10 g10 h10 => ?_)
    obtain ⟨rfl, rfl⟩ := h10
    refine q_icmpgeN C (tgt := 33) dX5_first_13 (by decide) (by omega) (by omega) (fun c13 => ?_) (fun c13 => ?_)
    · refine q_iconst C (v := -1) dX5_first_33 (by decide) ?_
      exact q_iret C dX5_first_34 ⟨_, rfl, Or.inr ⟨hno, rfl⟩, _, rfl, hl⟩
    · exact absurd c13 (by omega)
def kb_mtd (X : Nat → Nat → Int32) (b r k : Nat) : Nat := kb_tn (X 195 (48 * b + 3 * r + k))
def kb_mmu (X : Nat → Nat → Int32) (b j : Nat) : Nat := kb_tn (X 196 (6 * b + j))
/-- the starts by which picture b of the reference can be tied -/
def kb_mst (X : Nat → Nat → Int32) (b : Nat) : Nat → Prop := kb_stt (kb_tn (X 193 b)) (kb_tn (X 194 b)) (kb_mtd X b) (kb_mmu X b)
set_option maxRecDepth 100000 in
set_option maxHeartbeats 4000000 in
/-- X5.starts -/
theorem m_mstarts (l : Launch) (E : kb_E) (X : Nat → Nat → Int32) (Y : Nat → Nat → Int64) (b : Int32) (hMI : kb_MI X) : kb_Met l E 202 yX5_starts wsX5_starts ({ frames := 3, cells := 0, slots := 0, locals := 75 }) [.ref (E.2.2.2 188), .int b] (kb_ent E X Y) (kb_out E X Y (kb_okP X b) True (fun v X' => v = nI (kb_ct (kb_mst X (kb_tn b)) (4 ^ kb_tn (X 193 (kb_tn b)))) ∧ kb_MS X X')) := by
  refine kb_enter (cc := cX5_starts) (maxL := 4) (ret := (some .int)) (by decide +kernel) rfl (by simp [Value.category]) (Nat.le_of_ble_eq_true rfl) ?_
  intro p e s m args below meth c C hini
  refine q_aload_n C dX5_starts_0 rfl ?_
  refine q_iload_n C dX5_starts_1 rfl ?_
  refine x_callV (As := [_]) (nA := 1) (T := TX5) (NF := 15) C dX5_starts_2 ob_M rfl (m_isPicture _ _ X Y b) gX5_starts_X5_isPicture rfl (by decide +kernel) rfl ⟨Nat.le_of_ble_eq_true rfl, Nat.le_of_ble_eq_true rfl⟩ (Nat.le_of_ble_eq_true rfl) ⟨Nat.le_of_ble_eq_true rfl, Nat.le_of_ble_eq_true rfl⟩ (fun v2 g2 h2 => ?_)
  rcases h2 with ⟨hc2, rfl, rfl⟩ | ⟨hc2, rfl, rfl⟩
  · obtain ⟨b', hb', rfl, hb8⟩ := kb_okP_nat hMI hc2
    have eb : kb_tn (nI b') = b' := kb_tn_nI (by omega)
    have hnp := hMI.2.2.2.2.1 b' hb'
    have hw0 : kb_thr X (nI 0) 193 b' = nI (kb_tn (X 193 b')) := by rw [kb_thr_ne (by decide)]; exact hnp.1.1
    have hh0 : kb_thr X (nI 0) 194 b' = nI (kb_tn (X 194 b')) := by rw [kb_thr_ne (by decide)]; exact hnp.2.2.1.1
    have hn6 : kb_tn (X 193 b') ≤ 6 := hnp.1.2
    have hn2 : 2 ≤ kb_tn (X 193 b') := hnp.2.1
    have hh16 : kb_tn (X 194 b') ≤ 16 := hnp.2.2.1.2
    have hh1 : 1 ≤ kb_tn (X 194 b') := hnp.2.2.2
    have htd0 : ∀ r, r < 16 → ∀ k, k < 3 → kb_thr X (nI 0) 195 (48 * b' + 3 * r + k) = nI (kb_mtd X b' r k) ∧ kb_mtd X b' r k ≤ 4 := fun r hr k hk => by rw [kb_thr_ne (by decide)]; exact hMI.2.2.2.2.2.1 _ (by omega)
    have hmu0 : ∀ j, j < 6 → kb_thr X (nI 0) 196 (6 * b' + j) = nI (kb_mmu X b' j) ∧ kb_mmu X b' j ≤ 4 := fun j hj => by rw [kb_thr_ne (by decide)]; exact hMI.2.2.2.2.2.2 _ (by omega)
    have h4n := kb_4n hn6
    refine q_ifne C (tgt := 10) dX5_starts_5 (by decide) (fun c5 => ?_) (fun c5 => ?_)
    · refine q_aload_n C dX5_starts_10 rfl ?_
      refine q_iload_n C dX5_starts_11 rfl ?_
      refine x_callV (As := [_]) (nA := 1) (T := TX5) (NF := 15) C dX5_starts_12 ob_M rfl (m_leadsBack _ _ _ _ b' _ _ hb8 hn6 hn2 hh1 hh16 hw0 hh0 _ htd0) gX5_starts_X5_leadsBack rfl (by decide +kernel) rfl ⟨Nat.le_of_ble_eq_true rfl, Nat.le_of_ble_eq_true rfl⟩ (Nat.le_of_ble_eq_true rfl) ⟨Nat.le_of_ble_eq_true rfl, Nat.le_of_ble_eq_true rfl⟩ (fun v12 g12 h12 => ?_)
      obtain ⟨rfl, X1, rfl, hl⟩ := h12
      refine q_iconst C (v := nI 0) dX5_starts_15 (by decide) ?_
      refine q_istore_n C dX5_starts_16 (by decide) rfl ?_
      refine q_iconst C (v := nI 0) dX5_starts_17 (by decide) ?_
      refine q_istore_n C dX5_starts_18 (by decide) rfl ?_
      refine q_mask [true, true, true, true] (q_for (σ := Unit) (k0 := 0) (4 ^ kb_tn (X 193 b')) (fun s0 _ X' Y' => Y = Y' ∧ X1 = X') (fun s0 _ => [some (.ref (E.2.2.2 188)), some (.int (nI b')), some (.int (nI (kb_ct (kb_mst X b') s0))), some (.int (nI s0))]) (Nat.zero_le _) () (⟨rfl, rfl⟩) ?_ ?_)
      · intro s0 a1 X9 Y9 hk_s0 hk0_s0 hI_s0 ih_s0
        obtain ⟨rfl, rfl⟩ := hI_s0
        refine q_iload_n C dX5_starts_19 rfl ?_
        refine q_aload_n C dX5_starts_20 rfl ?_
        refine q_iload_n C dX5_starts_21 rfl ?_
        refine x_callV (As := [_]) (nA := 1) (T := TX5) (NF := 15) C dX5_starts_22 ob_M rfl (m_states _ _ X1 Y b' _ hb8 hn6 ((congrFun (hl.1 193 (by decide)) b').trans hw0)) gX5_starts_X5_states rfl (by decide +kernel) rfl ⟨Nat.le_of_ble_eq_true rfl, Nat.le_of_ble_eq_true rfl⟩ (Nat.le_of_ble_eq_true rfl) ⟨Nat.le_of_ble_eq_true rfl, Nat.le_of_ble_eq_true rfl⟩ (fun v22 g22 h22 => ?_)
        obtain ⟨rfl, rfl⟩ := h22
        refine q_icmpgeN C (tgt := 46) dX5_starts_25 (by decide) (by omega) (by omega) (fun c25 => ?_) (fun c25 => ?_)
        · exact absurd c25 (by omega)
        · refine q_aload_n C dX5_starts_28 rfl ?_
          refine q_iload_n C dX5_starts_29 rfl ?_
          refine q_iload_n C dX5_starts_30 rfl ?_
          refine x_callV (As := [_, _]) (nA := 2) (T := TX5) (NF := 15) C dX5_starts_31 ob_M rfl (m_isStart _ _ X1 Y b' _ s0 hb8 hn6 hn2 hk_s0 ((congrFun (hl.1 193 (by decide)) b').trans hw0) _ (by rw [hl.1 196 (by decide)]; exact hmu0) _ (kb_led0 hl hk_s0)) gX5_starts_X5_isStart rfl (by decide +kernel) rfl ⟨Nat.le_of_ble_eq_true rfl, Nat.le_of_ble_eq_true rfl⟩ (Nat.le_of_ble_eq_true rfl) ⟨Nat.le_of_ble_eq_true rfl, Nat.le_of_ble_eq_true rfl⟩ (fun v31 g31 h31 => ?_)
          obtain ⟨f31, rfl, hf31, rfl⟩ := h31
          refine q_ifeq C (tgt := 40) dX5_starts_34 (by decide) (fun c34 => ?_) (fun c34 => ?_)
          · refine q_iinc1 C dX5_starts_40 rfl (by decide) rfl ?_
            refine q_goto C (tgt := 19) dX5_starts_43 (by decide) ?_
            have ih9 := ih_s0 () X1 Y ⟨rfl, rfl⟩
            first
            | (have ec : kb_ct (kb_mst X b') (s0 + 1) = kb_ct (kb_mst X b') s0 := by rw [kb_ct, kb_b_f (show ¬ kb_mst X b' s0 from kb_flag0 hf31 c34)]; rfl
               rw [ec] at ih9
               exact q_mask [true, true, true, true] ih9)
            | (have ec : kb_ct (kb_mst X b') (s0 + 1) = kb_ct (kb_mst X b') s0 + 1 := by rw [kb_ct, kb_b_t (show kb_mst X b' s0 from kb_flag1 hf31 c34)]; rfl
               rw [ec] at ih9
               exact q_mask [true, true, true, true] ih9)
          · refine q_iinc1 C dX5_starts_37 rfl (by decide) rfl ?_
            refine q_iinc1 C dX5_starts_40 rfl (by decide) rfl ?_
            refine q_goto C (tgt := 19) dX5_starts_43 (by decide) ?_
            have ih9 := ih_s0 () X1 Y ⟨rfl, rfl⟩
            first
            | (have ec : kb_ct (kb_mst X b') (s0 + 1) = kb_ct (kb_mst X b') s0 := by rw [kb_ct, kb_b_f (show ¬ kb_mst X b' s0 from kb_flag0 hf31 c34)]; rfl
               rw [ec] at ih9
               exact q_mask [true, true, true, true] ih9)
            | (have ec : kb_ct (kb_mst X b') (s0 + 1) = kb_ct (kb_mst X b') s0 + 1 := by rw [kb_ct, kb_b_t (show kb_mst X b' s0 from kb_flag1 hf31 c34)]; rfl
               rw [ec] at ih9
               exact q_mask [true, true, true, true] ih9)
      · intro a1 X9 Y9 hI_s0
        obtain ⟨rfl, rfl⟩ := hI_s0
        refine q_iload_n C dX5_starts_19 rfl ?_
        refine q_aload_n C dX5_starts_20 rfl ?_
        refine q_iload_n C dX5_starts_21 rfl ?_
        refine x_callV (As := [_]) (nA := 1) (T := TX5) (NF := 15) C dX5_starts_22 ob_M rfl (m_states _ _ X1 Y b' _ hb8 hn6 ((congrFun (hl.1 193 (by decide)) b').trans hw0)) gX5_starts_X5_states rfl (by decide +kernel) rfl ⟨Nat.le_of_ble_eq_true rfl, Nat.le_of_ble_eq_true rfl⟩ (Nat.le_of_ble_eq_true rfl) ⟨Nat.le_of_ble_eq_true rfl, Nat.le_of_ble_eq_true rfl⟩ (fun v22 g22 h22 => ?_)
        obtain ⟨rfl, rfl⟩ := h22
        refine q_icmpgeN C (tgt := 46) dX5_starts_25 (by decide) (by omega) (by omega) (fun c25 => ?_) (fun c25 => ?_)
        · refine q_iload_n C dX5_starts_46 rfl ?_
          exact q_iret C dX5_starts_47 ⟨_, rfl, Or.inr (Or.inr ⟨hc2, trivial, _, rfl, (congrFun (hl.1 188 (by decide)) 0).trans kb_thr_at, by rw [eb], (kb_MS.thr X _).trans hl.ms⟩)⟩
        · exact absurd c25 (by omega)
    · exact absurd c5 (by decide)
  · refine q_ifne C (tgt := 10) dX5_starts_5 (by decide) (fun c5 => ?_) (fun c5 => ?_)
    · exact absurd (show nI 0 = 0 by decide) c5
    · refine q_iconst C (v := nI 0) dX5_starts_8 (by decide) ?_
      exact q_iret C dX5_starts_9 ⟨_, rfl, Or.inl ⟨fun h => hc2 h, rfl⟩⟩
theorem kb_nI_ne {k : Nat} (h : k < 2 ^ 31) : ¬ nI k = -1 := by
  intro e
  have := nI_pos h
  rw [e] at this
  exact this (by decide)
theorem iX5_start_X5 : ∀ w ∈ wsX50, w ∈ wsX5_start := fun _ h => List.mem_cons_of_mem _ (by first | exact h | exact List.mem_append_right _ h | exact List.mem_append_left _ (List.mem_append_right _ h) | exact List.mem_append_left _ (List.mem_append_left _ (List.mem_append_right _ h)) | exact List.mem_append_left _ (List.mem_append_left _ (List.mem_append_left _ (List.mem_append_right _ h))) | exact List.mem_append_left _ (List.mem_append_left _ (List.mem_append_left _ (List.mem_append_left _ (List.mem_append_right _ h)))) | exact List.mem_append_left _ (List.mem_append_left _ (List.mem_append_left _ (List.mem_append_left _ (List.mem_append_left _ (List.mem_append_right _ h))))))
set_option maxRecDepth 100000 in
set_option maxHeartbeats 4000000 in
/-- X5.start -/
theorem m_mstart (l : Launch) (E : kb_E) (X : Nat → Nat → Int32) (Y : Nat → Nat → Int64) (b q : Int32) (hMI : kb_MI X) : kb_Met l E 202 yX5_start wsX5_start ({ frames := 4, cells := 0, slots := 0, locals := 97 }) [.ref (E.2.2.2 188), .int b, .int q] (kb_ent E X Y) (kb_out E X Y (kb_okP X b ∧ (¬ q < 0 ∧ ¬ X 193 (kb_tn b) ≤ q)) True (fun v X' => kb_MS X X' ∧ ((∃ s, s < 4 ^ kb_tn (X 193 (kb_tn b)) ∧ kb_mst X (kb_tn b) s ∧ (∀ t, t < s → ¬ kb_mst X (kb_tn b) t) ∧ v = nI (kb_dg (kb_tn (X 193 (kb_tn b))) s (kb_tn q))) ∨ ((∀ s, s < 4 ^ kb_tn (X 193 (kb_tn b)) → ¬ kb_mst X (kb_tn b) s) ∧ v = -1)))) := by
  refine kb_enter (cc := cX5_start) (maxL := 4) (ret := (some .int)) (by decide +kernel) rfl (by simp [Value.category]) (Nat.le_of_ble_eq_true rfl) ?_
  intro p e s m args below meth c C hini
  refine q_aload_n C dX5_start_0 rfl ?_
  refine q_iload_n C dX5_start_1 rfl ?_
  refine x_callV (As := [_]) (nA := 1) (T := TX5) (NF := 15) C dX5_start_2 ob_M rfl (m_isPicture _ _ X Y b) gX5_start_X5_isPicture rfl (by decide +kernel) rfl ⟨Nat.le_of_ble_eq_true rfl, Nat.le_of_ble_eq_true rfl⟩ (Nat.le_of_ble_eq_true rfl) ⟨Nat.le_of_ble_eq_true rfl, Nat.le_of_ble_eq_true rfl⟩ (fun v2 g2 h2 => ?_)
  rcases h2 with ⟨hc2, rfl, rfl⟩ | ⟨hc2, rfl, rfl⟩
  · obtain ⟨b', hb', rfl, hb8⟩ := kb_okP_nat hMI hc2
    have eb : kb_tn (nI b') = b' := kb_tn_nI (by omega)
    have hnp := hMI.2.2.2.2.1 b' hb'
    have hw0 : kb_thr X (nI 0) 193 b' = nI (kb_tn (X 193 b')) := by rw [kb_thr_ne (by decide)]; exact hnp.1.1
    have hh0 : kb_thr X (nI 0) 194 b' = nI (kb_tn (X 194 b')) := by rw [kb_thr_ne (by decide)]; exact hnp.2.2.1.1
    have hn6 : kb_tn (X 193 b') ≤ 6 := hnp.1.2
    have hn2 : 2 ≤ kb_tn (X 193 b') := hnp.2.1
    have hh16 : kb_tn (X 194 b') ≤ 16 := hnp.2.2.1.2
    have hh1 : 1 ≤ kb_tn (X 194 b') := hnp.2.2.2
    have htd0 : ∀ r, r < 16 → ∀ k, k < 3 → kb_thr X (nI 0) 195 (48 * b' + 3 * r + k) = nI (kb_mtd X b' r k) ∧ kb_mtd X b' r k ≤ 4 := fun r hr k hk => by rw [kb_thr_ne (by decide)]; exact hMI.2.2.2.2.2.1 _ (by omega)
    have hmu0 : ∀ j, j < 6 → kb_thr X (nI 0) 196 (6 * b' + j) = nI (kb_mmu X b' j) ∧ kb_mmu X b' j ≤ 4 := fun j hj => by rw [kb_thr_ne (by decide)]; exact hMI.2.2.2.2.2.2 _ (by omega)
    have h4n := kb_4n hn6
    refine q_ifeq C (tgt := 35) dX5_start_5 (by decide) (fun c5 => ?_) (fun c5 => ?_)
    · exact absurd c5 (by decide)
    · refine q_aload_n C dX5_start_8 rfl ?_
      refine q_cut 28 (P := kb_flag (¬ q < 0 ∧ ¬ X 193 (kb_tn (nI b')) ≤ q)) (fun f28 hf28 => ?_) (fun J28 => ?_)
      · refine q_iconst C (v := nI 1) dX5_start_28 (by decide) ?_
        refine x_callV (As := [_, _]) (nA := 2) (T := TX5) (NF := 15) C dX5_start_29 ob_M rfl (m_right _ _ (kb_thr X (nI 0)) Y ((¬ q < 0 ∧ ¬ X 193 (kb_tn (nI b')) ≤ q)) _ _ (by exact kb_thr_at) (by decide) hf28) gX5_start_X5_right rfl (by decide +kernel) rfl ⟨Nat.le_of_ble_eq_true rfl, Nat.le_of_ble_eq_true rfl⟩ (Nat.le_of_ble_eq_true rfl) ⟨Nat.le_of_ble_eq_true rfl, Nat.le_of_ble_eq_true rfl⟩ (fun v29 g29 h29 => ?_)
        rcases h29 with ⟨hc29, rfl, rfl⟩ | ⟨hc29, rfl, rfl⟩
        · have hc29' := hc29
          rw [eb] at hc29'
          obtain ⟨q', hq', rfl⟩ := kb_lt_nat hc29'.1 hc29'.2 hnp.1.1
          refine q_ifne C (tgt := 37) dX5_start_32 (by decide) (fun c32 => ?_) (fun c32 => ?_)
          · refine q_aload_n C dX5_start_37 rfl ?_
            refine q_iload_n C dX5_start_38 rfl ?_
            refine x_callV (As := [_]) (nA := 1) (T := TX5) (NF := 15) C dX5_start_39 ob_M rfl (m_first _ _ (kb_thr X (nI 0)) Y b' _ _ hb8 hn6 hn2 hh1 hh16 hw0 hh0 _ htd0 _ hmu0) gX5_start_X5_first rfl (by decide +kernel) rfl ⟨Nat.le_of_ble_eq_true rfl, Nat.le_of_ble_eq_true rfl⟩ (Nat.le_of_ble_eq_true rfl) ⟨Nat.le_of_ble_eq_true rfl, Nat.le_of_ble_eq_true rfl⟩ (fun v39 g39 h39 => ?_)
            obtain ⟨r39, rfl, hr39, X1, rfl, hl⟩ := h39
            rcases hr39 with ⟨s0, hs0, hs1, hs2, rfl⟩ | ⟨hno, rfl⟩
            · have hs9 : s0 < 4096 := by omega
              refine q_istore_n C dX5_start_42 (by decide) rfl ?_
              refine q_iload_n C dX5_start_43 rfl ?_
              refine q_iconst C (v := -1) dX5_start_44 (by decide) ?_
              refine q_icmpne C (tgt := 52) dX5_start_45 (by decide) (fun c45 => ?_) (fun c45 => ?_)
              · refine q_aload_n C dX5_start_52 rfl ?_
                refine x_getR C (ci := 5) (k := 7) (C0 := RX5) (T := TX5) (NF := 15) (ref := RX5) (host := RX4) dX5_start_53 fr_Mwid rfl iX5_start_X5 (by decide) (List.mem_of_getElem? (i := 1) rfl) rfl ?_
                refine q_iload_n C dX5_start_56 rfl ?_
                refine x_ialdN C dX5_start_57 ia_Mwid (by decide) (by omega) ?_
                refine q_top (show Value.int _ = Value.int _ from congrArg Value.int ((congrFun (hl.1 193 (by decide)) b').trans hw0)) ?_
                refine q_iload_n C dX5_start_58 rfl ?_
                refine q_iload_n C dX5_start_59 rfl ?_
                refine q_callS (As := [_, _, _]) (nA := 3) C dX5_start_60 (m_digit _ _ _ _ _ _) gX5_start_X5_digit rfl (by decide +kernel) rfl ⟨Nat.le_of_ble_eq_true rfl, Nat.le_of_ble_eq_true rfl⟩ (Nat.le_of_ble_eq_true rfl) ⟨Nat.le_of_ble_eq_true rfl, Nat.le_of_ble_eq_true rfl⟩ (fun v60 g60 h60 => ?_)
                obtain ⟨rfl, rfl⟩ := h60
                refine q_top (show Value.int _ = Value.int _ from congrArg Value.int (nv_digit hn6 hs0 hq')) ?_
                exact q_iret C dX5_start_63 ⟨_, rfl, Or.inr (Or.inr ⟨⟨hc2, hc29⟩, trivial, _, rfl, (congrFun (hl.1 188 (by decide)) 0).trans kb_thr_at, (kb_MS.thr X _).trans hl.ms, by rw [eb, kb_tn_nI (show q' < 2 ^ 31 by omega)]; exact Or.inl ⟨s0, hs0, hs1, hs2, rfl⟩⟩)⟩
              · exact absurd c45 (kb_nI_ne (by omega))
            · refine q_istore_n C dX5_start_42 (by decide) rfl ?_
              refine q_iload_n C dX5_start_43 rfl ?_
              refine q_iconst C (v := -1) dX5_start_44 (by decide) ?_
              refine q_icmpne C (tgt := 52) dX5_start_45 (by decide) (fun c45 => ?_) (fun c45 => ?_)
              · exact absurd rfl c45
              · refine q_iconst C (v := -1) dX5_start_48 (by decide) ?_
                refine q_goto C (tgt := 63) dX5_start_49 (by decide) ?_
                exact q_iret C dX5_start_63 ⟨_, rfl, Or.inr (Or.inr ⟨⟨hc2, hc29⟩, trivial, _, rfl, (congrFun (hl.1 188 (by decide)) 0).trans kb_thr_at, (kb_MS.thr X _).trans hl.ms, by rw [eb, kb_tn_nI (show q' < 2 ^ 31 by omega)]; exact Or.inr ⟨hno, rfl⟩⟩)⟩
          · exact absurd c32 (by decide)
        · refine q_ifne C (tgt := 37) dX5_start_32 (by decide) (fun c32 => ?_) (fun c32 => ?_)
          · exact absurd (show nI 0 = 0 by decide) c32
          · refine q_iconst C (v := nI 0) dX5_start_35 (by decide) ?_
            exact q_iret C dX5_start_36 ⟨_, rfl, Or.inl ⟨fun h => hc29 h.2, by rw [kb_thr_thr]⟩⟩
      refine q_iload_n C dX5_start_9 rfl ?_
      refine q_iflt C (tgt := 27) dX5_start_10 (by decide) (fun c10 => ?_) (fun c10 => ?_)
      · refine q_iconst C (v := nI 0) dX5_start_27 (by decide) ?_
        exact J28 _ (by rw [eb]; first | exact Or.inl ⟨rfl, c10, c20⟩ | exact Or.inr ⟨rfl, fun h => h.1 c10⟩ | exact Or.inr ⟨rfl, fun h => h.2 c20⟩)
      · refine q_iload_n C dX5_start_13 rfl ?_
        refine q_aload_n C dX5_start_14 rfl ?_
        refine x_getR C (ci := 5) (k := 7) (C0 := RX5) (T := TX5) (NF := 15) (ref := RX5) (host := RX4) dX5_start_15 fr_Mwid rfl iX5_start_X5 (by decide) (List.mem_of_getElem? (i := 1) rfl) rfl ?_
        refine q_iload_n C dX5_start_18 rfl ?_
        refine x_ialdN C dX5_start_19 ia_Mwid (by decide) (by omega) ?_
        refine q_icmpge C (tgt := 27) dX5_start_20 (by decide) (fun c20 => ?_) (fun c20 => ?_)
        · refine q_iconst C (v := nI 0) dX5_start_27 (by decide) ?_
          exact J28 _ (by rw [eb]; first | exact Or.inl ⟨rfl, c10, c20⟩ | exact Or.inr ⟨rfl, fun h => h.1 c10⟩ | exact Or.inr ⟨rfl, fun h => h.2 c20⟩)
        · refine q_iconst C (v := nI 1) dX5_start_23 (by decide) ?_
          refine q_goto C (tgt := 28) dX5_start_24 (by decide) ?_
          exact J28 _ (by rw [eb]; first | exact Or.inl ⟨rfl, c10, c20⟩ | exact Or.inr ⟨rfl, fun h => h.1 c10⟩ | exact Or.inr ⟨rfl, fun h => h.2 c20⟩)
  · refine q_ifeq C (tgt := 35) dX5_start_5 (by decide) (fun c5 => ?_) (fun c5 => ?_)
    · refine q_iconst C (v := nI 0) dX5_start_35 (by decide) ?_
      exact q_iret C dX5_start_36 ⟨_, rfl, Or.inl ⟨fun h => hc2 h.1, rfl⟩⟩
    · exact absurd (show nI 0 = 0 by decide) c5
theorem nv_or {d bits more : Nat} (hd : d < 4) (hb : bits < 2 ^ d) (hm : more < 2 ^ (3 - d)) : nI bits ||| (nI more <<< (nI d &&& 31)) = nI (bits + more * 2 ^ d) ∧ bits + more * 2 ^ d < 8 := by
  have : ∀ d, d < 4 → ∀ bits, bits < 2 ^ d → ∀ more, more < 2 ^ (3 - d) → nI bits ||| (nI more <<< (nI d &&& 31)) = nI (bits + more * 2 ^ d) ∧ bits + more * 2 ^ d < 8 := by decide +kernel
  exact this d hd bits hb more hm
theorem iX5_isOpen_X5 : ∀ w ∈ wsX50, w ∈ wsX5_isOpen := fun _ h => List.mem_cons_of_mem _ (by first | exact h | exact List.mem_append_right _ h | exact List.mem_append_left _ (List.mem_append_right _ h) | exact List.mem_append_left _ (List.mem_append_left _ (List.mem_append_right _ h)) | exact List.mem_append_left _ (List.mem_append_left _ (List.mem_append_left _ (List.mem_append_right _ h))) | exact List.mem_append_left _ (List.mem_append_left _ (List.mem_append_left _ (List.mem_append_left _ (List.mem_append_right _ h)))) | exact List.mem_append_left _ (List.mem_append_left _ (List.mem_append_left _ (List.mem_append_left _ (List.mem_append_left _ (List.mem_append_right _ h))))))
set_option maxRecDepth 100000 in
set_option maxHeartbeats 4000000 in
/-- X5.isOpen -/
theorem m_isOpen (l : Launch) (E : kb_E) (X : Nat → Nat → Int32) (Y : Nat → Nat → Int64) (b n h r st0 d bits : Nat) (hb : b < 8) (hn : n ≤ 6) (hn2 : 2 ≤ n) (hh16 : h ≤ 16) (hr : r < h) (hs : st0 < 4 ^ n) (hd : d ≤ kb_kn n r) (hbt : bits < 2 ^ d) (hw : X 193 b = nI n) (told : Nat → Nat → Nat) (hl : ∀ j, j ≤ h → kb_rF n X (h - j) (kb_cR n h told j)) : kb_Met l E 202 yX5_isOpen wsX5_isOpen ({ frames := 2, cells := 0, slots := 0, locals := 50 }) [.ref (E.2.2.2 188), .int (nI b), .int (nI r), .int (nI st0), .int (nI d), .int (nI bits)] (kb_ent E X Y) (fun v g' => ∃ f, v = some (.int f) ∧ kb_flag (∃ more, more < 2 ^ (kb_kn n r - d) ∧ kb_cR n h told (h - (r + 1)) (kb_ch n r (bits + more * 2 ^ d) st0 (kb_kn n r))) f ∧ g' = kb_ent E X Y) := by
  refine kb_enter (cc := cX5_isOpen) (maxL := 7) (ret := (some .boolean)) (by decide +kernel) rfl (by simp [Value.category]) (Nat.le_of_ble_eq_true rfl) ?_
  intro p e s m args below meth c C hini
  have h4n := kb_4n hn
  have hkn3 : kb_kn n r ≤ 3 := kb_kn_le hn
  refine q_iconst C (v := nI 0) dX5_isOpen_0 (by decide) ?_
  refine q_istore C dX5_isOpen_1 (by decide) rfl ?_
  refine q_mask [true, true, true, true, true, true, true] (q_for (σ := Unit) (k0 := 0) (2 ^ (kb_kn n r - d)) (fun mo _ X' Y' => Y = Y' ∧ X = X' ∧ ∀ t, t < mo → ¬ kb_cR n h told (h - (r + 1)) (kb_ch n r (bits + t * 2 ^ d) st0 (kb_kn n r))) (fun mo _ => [some (.ref (E.2.2.2 188)), some (.int (nI b)), some (.int (nI r)), some (.int (nI st0)), some (.int (nI d)), some (.int (nI bits)), some (.int (nI mo))]) (Nat.zero_le _) () (⟨rfl, rfl, fun t ht => absurd ht (Nat.not_lt_zero _)⟩) ?_ ?_)
  · intro mo a1 X9 Y9 hk_mo hk0_mo hI_mo ih_mo
    obtain ⟨rfl, rfl, hno⟩ := hI_mo
    have hp8 : 2 ^ (kb_kn n r - d) ≤ 2 ^ (3 - d) := Nat.pow_le_pow_right (by decide) (by omega)
    have hp9 : 2 ^ (3 - d) ≤ 2 ^ 3 := Nat.pow_le_pow_right (by decide) (by omega)
    have hcl : kb_ch n r (bits + mo * 2 ^ d) st0 (kb_kn n r) < 4 ^ n := kb_ch_lt hn hs _ (Nat.le_refl _)
    have hfc : kb_flag (kb_cR n h told (h - (r + 1)) (kb_ch n r (bits + mo * 2 ^ d) st0 (kb_kn n r))) (X 200 (4096 * (r + 1) + kb_ch n r (bits + mo * 2 ^ d) st0 (kb_kn n r))) := by
      have := hl (h - (r + 1)) (by omega) _ hcl
      rw [show h - (h - (r + 1)) = r + 1 by omega] at this
      exact this
    refine q_iload C dX5_isOpen_3 rfl ?_
    refine q_iconst C (v := nI 1) dX5_isOpen_5 (by decide) ?_
    refine q_aload_n C dX5_isOpen_6 rfl ?_
    refine x_getR C (ci := 5) (k := 7) (C0 := RX5) (T := TX5) (NF := 15) (ref := RX5) (host := RX4) dX5_isOpen_7 fr_Mwid rfl iX5_isOpen_X5 (by decide) (List.mem_of_getElem? (i := 1) rfl) rfl ?_
    refine q_iload_n C dX5_isOpen_10 rfl ?_
    refine x_ialdN C dX5_isOpen_11 ia_Mwid (by decide) (by omega) ?_
    refine q_top (show Value.int _ = Value.int _ from congrArg Value.int (hw)) ?_
    refine q_iload_n C dX5_isOpen_12 rfl ?_
    refine q_callS (As := [_, _]) (nA := 2) C dX5_isOpen_13 (m_mknots _ _ _ _ _) gX5_isOpen_X5_knots rfl (by decide +kernel) rfl ⟨Nat.le_of_ble_eq_true rfl, Nat.le_of_ble_eq_true rfl⟩ (Nat.le_of_ble_eq_true rfl) ⟨Nat.le_of_ble_eq_true rfl, Nat.le_of_ble_eq_true rfl⟩ (fun v13 g13 h13 => ?_)
    obtain ⟨rfl, rfl⟩ := h13
    refine q_top (show Value.int _ = Value.int _ from congrArg Value.int (nv_mknots n (by omega) r (by omega) (by omega))) ?_
    refine q_iload C dX5_isOpen_16 rfl ?_
    refine q_isubN C dX5_isOpen_18 (by omega) ?_
    refine q_ishl C dX5_isOpen_19 ?_
    refine q_top (show Value.int _ = Value.int _ from congrArg Value.int (nv_shl (by omega))) ?_
    refine q_icmpgeN C (tgt := 66) dX5_isOpen_20 (by decide) (by omega) (by omega) (fun c20 => ?_) (fun c20 => ?_)
    · exact absurd c20 (by omega)
    · refine q_aload_n C dX5_isOpen_23 rfl ?_
      refine x_getR C (ci := 5) (k := 14) (C0 := RX5) (T := TX5) (NF := 15) (ref := RX5) (host := RX4) dX5_isOpen_24 fr_Mcan rfl iX5_isOpen_X5 (by decide) (List.mem_of_getElem? (i := 2) rfl) rfl ?_
      refine q_sipush C (v := nI 4096) dX5_isOpen_27 (by decide) ?_
      refine q_iload_n C dX5_isOpen_30 rfl ?_
      refine q_iconst C (v := nI 1) dX5_isOpen_31 (by decide) ?_
      refine q_iaddN C dX5_isOpen_32 ?_
      refine q_imulN C dX5_isOpen_33 ?_
      refine q_aload_n C dX5_isOpen_34 rfl ?_
      refine x_getR C (ci := 5) (k := 7) (C0 := RX5) (T := TX5) (NF := 15) (ref := RX5) (host := RX4) dX5_isOpen_35 fr_Mwid rfl iX5_isOpen_X5 (by decide) (List.mem_of_getElem? (i := 1) rfl) rfl ?_
      refine q_iload_n C dX5_isOpen_38 rfl ?_
      refine x_ialdN C dX5_isOpen_39 ia_Mwid (by decide) (by omega) ?_
      refine q_top (show Value.int _ = Value.int _ from congrArg Value.int (hw)) ?_
      refine q_iload_n C dX5_isOpen_40 rfl ?_
      refine q_iload_n C dX5_isOpen_41 rfl ?_
      refine q_iload C dX5_isOpen_42 rfl ?_
      refine q_iload C dX5_isOpen_44 rfl ?_
      refine q_iload C dX5_isOpen_46 rfl ?_
      refine q_ishl C dX5_isOpen_48 ?_
      refine q_ior C dX5_isOpen_49 ?_
      refine q_top (show Value.int _ = Value.int _ from congrArg Value.int ((nv_or (by omega) hbt (by omega)).1)) ?_
      refine q_callS (As := [_, _, _, _]) (nA := 4) C dX5_isOpen_50 (m_changed _ _ X Y n r st0 (bits + mo * 2 ^ d) hn hn2 (by omega) hs (nv_or (by omega) hbt (by omega)).2) gX5_isOpen_X5_changed rfl (by decide +kernel) rfl ⟨Nat.le_of_ble_eq_true rfl, Nat.le_of_ble_eq_true rfl⟩ (Nat.le_of_ble_eq_true rfl) ⟨Nat.le_of_ble_eq_true rfl, Nat.le_of_ble_eq_true rfl⟩ (fun v50 g50 h50 => ?_)
      obtain ⟨rfl, rfl⟩ := h50
      refine q_iaddN C dX5_isOpen_53 ?_
      refine x_zaldN C dX5_isOpen_54 (by omega) ?_
      refine q_ifeq C (tgt := 60) dX5_isOpen_55 (by decide) (fun c55 => ?_) (fun c55 => ?_)
      · refine q_iinc1 C dX5_isOpen_60 rfl (by decide) rfl ?_
        refine q_goto C (tgt := 3) dX5_isOpen_63 (by decide) ?_
        exact q_mask [true, true, true, true, true, true, true] (ih_mo () _ _ ⟨rfl, rfl, fun t ht => by
          by_cases e : t = mo
          · subst e
            exact kb_flag0 hfc c55
          · exact hno t (by omega)⟩)
      · refine q_iconst C (v := nI 1) dX5_isOpen_58 (by decide) ?_
        exact q_zret C dX5_isOpen_59 (by decide) ⟨_, rfl, Or.inl ⟨rfl, mo, hk_mo, kb_flag1 hfc c55⟩, rfl⟩
  · intro a1 X9 Y9 hI_mo
    obtain ⟨rfl, rfl, hno⟩ := hI_mo
    have hp8 : 2 ^ (kb_kn n r - d) ≤ 2 ^ (3 - d) := Nat.pow_le_pow_right (by decide) (by omega)
    have hp9 : 2 ^ (3 - d) ≤ 2 ^ 3 := Nat.pow_le_pow_right (by decide) (by omega)
    refine q_iload C dX5_isOpen_3 rfl ?_
    refine q_iconst C (v := nI 1) dX5_isOpen_5 (by decide) ?_
    refine q_aload_n C dX5_isOpen_6 rfl ?_
    refine x_getR C (ci := 5) (k := 7) (C0 := RX5) (T := TX5) (NF := 15) (ref := RX5) (host := RX4) dX5_isOpen_7 fr_Mwid rfl iX5_isOpen_X5 (by decide) (List.mem_of_getElem? (i := 1) rfl) rfl ?_
    refine q_iload_n C dX5_isOpen_10 rfl ?_
    refine x_ialdN C dX5_isOpen_11 ia_Mwid (by decide) (by omega) ?_
    refine q_top (show Value.int _ = Value.int _ from congrArg Value.int (hw)) ?_
    refine q_iload_n C dX5_isOpen_12 rfl ?_
    refine q_callS (As := [_, _]) (nA := 2) C dX5_isOpen_13 (m_mknots _ _ _ _ _) gX5_isOpen_X5_knots rfl (by decide +kernel) rfl ⟨Nat.le_of_ble_eq_true rfl, Nat.le_of_ble_eq_true rfl⟩ (Nat.le_of_ble_eq_true rfl) ⟨Nat.le_of_ble_eq_true rfl, Nat.le_of_ble_eq_true rfl⟩ (fun v13 g13 h13 => ?_)
    obtain ⟨rfl, rfl⟩ := h13
    refine q_top (show Value.int _ = Value.int _ from congrArg Value.int (nv_mknots n (by omega) r (by omega) (by omega))) ?_
    refine q_iload C dX5_isOpen_16 rfl ?_
    refine q_isubN C dX5_isOpen_18 (by omega) ?_
    refine q_ishl C dX5_isOpen_19 ?_
    refine q_top (show Value.int _ = Value.int _ from congrArg Value.int (nv_shl (by omega))) ?_
    refine q_icmpgeN C (tgt := 66) dX5_isOpen_20 (by decide) (by omega) (by omega) (fun c20 => ?_) (fun c20 => ?_)
    · refine q_iconst C (v := nI 0) dX5_isOpen_66 (by decide) ?_
      exact q_zret C dX5_isOpen_67 (by decide) ⟨_, rfl, Or.inr ⟨rfl, fun ⟨mo, h1, h2⟩ => hno mo h1 h2⟩, rfl⟩
    · exact absurd c20 (by omega)

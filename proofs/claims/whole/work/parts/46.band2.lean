/-! ===== Band: isHome, timesToHome, become; Picture.begin ===== -/
theorem iX0_isHome_X0 : ∀ w ∈ wsX00, w ∈ wsX0_isHome := fun _ h => List.mem_cons_of_mem _ (by first | exact h | exact List.mem_append_right _ h | exact List.mem_append_left _ (List.mem_append_right _ h) | exact List.mem_append_left _ (List.mem_append_left _ (List.mem_append_right _ h)) | exact List.mem_append_left _ (List.mem_append_left _ (List.mem_append_left _ (List.mem_append_right _ h))) | exact List.mem_append_left _ (List.mem_append_left _ (List.mem_append_left _ (List.mem_append_left _ (List.mem_append_right _ h)))) | exact List.mem_append_left _ (List.mem_append_left _ (List.mem_append_left _ (List.mem_append_left _ (List.mem_append_left _ (List.mem_append_right _ h))))))
set_option maxRecDepth 100000 in
set_option maxHeartbeats 4000000 in
/-- X0.isHome -/
theorem m_isHome (l : Launch) (E : kb_E) (X : Nat → Nat → Int32) (Y : Nat → Nat → Int64) (i n : Nat) (hi : i < 8) (hn : n ≤ 6) (hth : X (92 + 7 * i) 2 = nI n) (w0 : Int32) (f : Nat → Nat) (hf : ∀ j, j < n → X (92 + 7 * i + 6) j = nI (f j) ∧ f j < n) : kb_Met l E 202 yX0_isHome wsX0_isHome ({ frames := 0, cells := 0, slots := 0, locals := 0 }) [.ref (E.2.2.2 (92 + 7 * i)), .int w0] (kb_ent E X Y) (fun v g' => ∃ fl, v = some (.int fl) ∧ kb_flag (∀ p, p < n → (if decide (¬ w0 = 0) then X (92 + 7 * i + 1) (f p) = X (92 + 7 * i + 1) p else f p = p)) fl ∧ g' = kb_ent E X Y) := by
  refine kb_enter (cc := cX0_isHome) (maxL := 5) (ret := (some .boolean)) (by decide +kernel) rfl (by simp [Value.category]) (Nat.le_of_ble_eq_true rfl) ?_
  intro p e s m args below meth c C hini
  refine q_iconst C (v := nI 0) dX0_isHome_0 (by decide) ?_
  refine q_istore_n C dX0_isHome_1 (by decide) rfl ?_
  refine q_mask [true, true, true, false, false] (q_for (σ := Unit) (k0 := 0) (n) (fun k _ X' Y' => X = X' ∧ Y = Y' ∧ ∀ p, p < k → (if decide (¬ w0 = 0) then X (92 + 7 * i + 1) (f p) = X (92 + 7 * i + 1) p else f p = p)) (fun k _ => [some (.ref (E.2.2.2 (92 + 7 * i))), some (.int w0), some (.int (nI k)), none, none]) (Nat.zero_le _) () (⟨rfl, rfl, fun p hp => absurd hp (Nat.not_lt_zero _)⟩) ?_ ?_)
  · intro k a Xa Ya hk_k hk0_k hI_k ih_k
    obtain ⟨rfl, rfl, hI1⟩ := hI_k
    refine q_iload_n C dX0_isHome_2 rfl ?_
    refine q_aload_n C dX0_isHome_3 rfl ?_
    refine x_getI C (ci := 0) (k := 2) (C0 := RX0) (T := TX0) (NF := 8) (ref := RX0) (host := RX4) dX0_isHome_4 (fi_Bthr hi) rfl iX0_isHome_X0 (by decide) (List.mem_of_getElem? (i := 1) rfl) rfl ?_
    refine q_top (show Value.int _ = Value.int _ from congrArg Value.int (hth)) ?_
    refine q_icmpgeN C (tgt := 69) dX0_isHome_7 (by decide) (by omega) (by omega) (fun c7 => ?_) (fun c7 => ?_)
    · exact absurd c7 (by omega)
    · refine q_aload_n C dX0_isHome_10 rfl ?_
      refine x_getR C (ci := 0) (k := 7) (C0 := RX0) (T := TX0) (NF := 8) (ref := RX0) (host := RX4) dX0_isHome_11 (fr_Brep hi) rfl iX0_isHome_X0 (by decide) (List.mem_of_getElem? (i := 2) rfl) rfl ?_
      refine q_iload_n C dX0_isHome_14 rfl ?_
      refine x_ialdN C dX0_isHome_15 (ia_Brep hi) (by decide) (by omega) ?_
      refine q_top (show Value.int _ = Value.int _ from congrArg Value.int ((hf _ hk_k).1)) ?_
      refine q_istore_n C dX0_isHome_16 (by decide) rfl ?_
      refine q_cut 54 (P := kb_flag (if decide (¬ w0 = 0) then X (92 + 7 * i + 1) (f k) = X (92 + 7 * i + 1) k else f k = k)) (fun f54 hf54 => ?_) (fun J54 => ?_)
      · refine q_istore C dX0_isHome_54 (by decide) rfl ?_
        refine q_iload C dX0_isHome_56 rfl ?_
        refine q_ifne C (tgt := 63) dX0_isHome_58 (by decide) (fun c58 => ?_) (fun c58 => ?_)
        · refine q_iinc1 C dX0_isHome_63 rfl (by decide) rfl ?_
          refine q_goto C (tgt := 2) dX0_isHome_66 (by decide) ?_
          exact q_mask [true, true, true, false, false] (ih_k () _ _ ⟨rfl, rfl, fun p hp => by
            by_cases e : p = k
            · subst e; exact kb_flag1 hf54 c58
            · exact hI1 p (by omega)⟩)
        · refine q_iconst C (v := nI 0) dX0_isHome_61 (by decide) ?_
          exact q_zret C dX0_isHome_62 (by decide) ⟨_, rfl, Or.inr ⟨rfl, fun h => kb_flag0 hf54 c58 (h _ hk_k)⟩, rfl⟩
      refine q_iload_n C dX0_isHome_17 rfl ?_
      refine q_ifeq C (tgt := 44) dX0_isHome_18 (by decide) (fun c18 => ?_) (fun c18 => ?_)
      · refine q_iload_n C dX0_isHome_44 rfl ?_
        refine q_iload_n C dX0_isHome_45 rfl ?_
        refine q_icmpneN C (tgt := 53) dX0_isHome_46 (by decide) (by have := (hf _ hk_k).2; omega) (by omega) (fun c46 => ?_) (fun c46 => ?_)
        · refine q_iconst C (v := nI 0) dX0_isHome_53 (by decide) ?_
          exact J54 _ (by first | exact Or.inl ⟨rfl, by rw [if_neg (by simp [c18])]; exact c46⟩ | exact Or.inr ⟨rfl, by rw [if_neg (by simp [c18])]; exact c46⟩ | exact Or.inl ⟨rfl, by rw [if_pos (by simp [c18])]; exact c33⟩ | exact Or.inr ⟨rfl, by rw [if_pos (by simp [c18])]; exact c33⟩)
        · refine q_iconst C (v := nI 1) dX0_isHome_49 (by decide) ?_
          refine q_goto C (tgt := 54) dX0_isHome_50 (by decide) ?_
          exact J54 _ (by first | exact Or.inl ⟨rfl, by rw [if_neg (by simp [c18])]; exact c46⟩ | exact Or.inr ⟨rfl, by rw [if_neg (by simp [c18])]; exact c46⟩ | exact Or.inl ⟨rfl, by rw [if_pos (by simp [c18])]; exact c33⟩ | exact Or.inr ⟨rfl, by rw [if_pos (by simp [c18])]; exact c33⟩)
      · refine q_aload_n C dX0_isHome_21 rfl ?_
        refine x_getR C (ci := 0) (k := 0) (C0 := RX0) (T := TX0) (NF := 8) (ref := RX0) (host := RX4) dX0_isHome_22 (fr_Bcol hi) rfl iX0_isHome_X0 (by decide) (List.mem_of_getElem? (i := 3) rfl) rfl ?_
        refine q_iload_n C dX0_isHome_25 rfl ?_
        refine x_ialdN C dX0_isHome_26 (ia_Bcol hi) (by decide) (by have := (hf _ hk_k).2; omega) ?_
        refine q_aload_n C dX0_isHome_27 rfl ?_
        refine x_getR C (ci := 0) (k := 0) (C0 := RX0) (T := TX0) (NF := 8) (ref := RX0) (host := RX4) dX0_isHome_28 (fr_Bcol hi) rfl iX0_isHome_X0 (by decide) (List.mem_of_getElem? (i := 3) rfl) rfl ?_
        refine q_iload_n C dX0_isHome_31 rfl ?_
        refine x_ialdN C dX0_isHome_32 (ia_Bcol hi) (by decide) (by omega) ?_
        refine q_icmpne C (tgt := 40) dX0_isHome_33 (by decide) (fun c33 => ?_) (fun c33 => ?_)
        · refine q_iconst C (v := nI 0) dX0_isHome_40 (by decide) ?_
          refine q_goto C (tgt := 54) dX0_isHome_41 (by decide) ?_
          exact J54 _ (by first | exact Or.inl ⟨rfl, by rw [if_neg (by simp [c18])]; exact c46⟩ | exact Or.inr ⟨rfl, by rw [if_neg (by simp [c18])]; exact c46⟩ | exact Or.inl ⟨rfl, by rw [if_pos (by simp [c18])]; exact c33⟩ | exact Or.inr ⟨rfl, by rw [if_pos (by simp [c18])]; exact c33⟩)
        · refine q_iconst C (v := nI 1) dX0_isHome_36 (by decide) ?_
          refine q_goto C (tgt := 54) dX0_isHome_37 (by decide) ?_
          exact J54 _ (by first | exact Or.inl ⟨rfl, by rw [if_neg (by simp [c18])]; exact c46⟩ | exact Or.inr ⟨rfl, by rw [if_neg (by simp [c18])]; exact c46⟩ | exact Or.inl ⟨rfl, by rw [if_pos (by simp [c18])]; exact c33⟩ | exact Or.inr ⟨rfl, by rw [if_pos (by simp [c18])]; exact c33⟩)
  · intro a Xa Ya hI_k
    obtain ⟨rfl, rfl, hI1⟩ := hI_k
    refine q_iload_n C dX0_isHome_2 rfl ?_
    refine q_aload_n C dX0_isHome_3 rfl ?_
    refine x_getI C (ci := 0) (k := 2) (C0 := RX0) (T := TX0) (NF := 8) (ref := RX0) (host := RX4) dX0_isHome_4 (fi_Bthr hi) rfl iX0_isHome_X0 (by decide) (List.mem_of_getElem? (i := 1) rfl) rfl ?_
    refine q_top (show Value.int _ = Value.int _ from congrArg Value.int (hth)) ?_
    refine q_icmpgeN C (tgt := 69) dX0_isHome_7 (by decide) (by omega) (by omega) (fun c7 => ?_) (fun c7 => ?_)
    · refine q_iconst C (v := nI 1) dX0_isHome_69 (by decide) ?_
      exact q_zret C dX0_isHome_70 (by decide) ⟨_, rfl, Or.inl ⟨rfl, hI1⟩, rfl⟩
    · exact absurd c7 (by omega)
theorem iX0_timesToHome_X0 : ∀ w ∈ wsX00, w ∈ wsX0_timesToHome := fun _ h => List.mem_cons_of_mem _ (by first | exact h | exact List.mem_append_right _ h | exact List.mem_append_left _ (List.mem_append_right _ h) | exact List.mem_append_left _ (List.mem_append_left _ (List.mem_append_right _ h)) | exact List.mem_append_left _ (List.mem_append_left _ (List.mem_append_left _ (List.mem_append_right _ h))) | exact List.mem_append_left _ (List.mem_append_left _ (List.mem_append_left _ (List.mem_append_left _ (List.mem_append_right _ h)))) | exact List.mem_append_left _ (List.mem_append_left _ (List.mem_append_left _ (List.mem_append_left _ (List.mem_append_left _ (List.mem_append_right _ h))))))
set_option maxRecDepth 100000 in
set_option maxHeartbeats 4000000 in
/-- X0.timesToHome -/
theorem m_timesToHome (l : Launch) (E : kb_E) (X : Nat → Nat → Int32) (Y : Nat → Nat → Int64) (i n R : Nat) (hi : i < 8) (hn : n ≤ 6) (hn2 : 2 ≤ n) (hR : R ≤ 16) (hth : X (92 + 7 * i) 2 = nI n) (hro : X (92 + 7 * i) 3 = nI R) (w0 : Int32) : kb_Met l E 202 yX0_timesToHome wsX0_timesToHome ({ frames := 3, cells := 0, slots := 0, locals := 73 }) [.ref (E.2.2.2 (92 + 7 * i)), .int w0] (kb_ent E X Y) (fun v g' => ∃ (T : Nat) (X' : Nat → Nat → Int32), v = some (.int (nI T)) ∧ (1 ≤ T ∧ T ≤ 6 ∧ kb_hmT (kb_at (kb_kd (X (92 + 7 * i + 2))) n R) n (decide (¬ w0 = 0)) (X (92 + 7 * i + 1)) T) ∧ g' = kb_ent E X' Y ∧ ∀ z, z ≠ 92 + 7 * i + 3 → z ≠ 92 + 7 * i + 4 → z ≠ 92 + 7 * i + 5 → z ≠ 92 + 7 * i + 6 → X' z = X z) := by
  refine kb_enter (cc := cX0_timesToHome) (maxL := 4) (ret := (some .int)) (by decide +kernel) rfl (by simp [Value.category]) (Nat.le_of_ble_eq_true rfl) ?_
  intro p e s m args below meth c C hini
  refine q_aload_n C dX0_timesToHome_0 rfl ?_
  refine q_aload_n C dX0_timesToHome_1 rfl ?_
  refine x_getI C (ci := 0) (k := 3) (C0 := RX0) (T := TX0) (NF := 8) (ref := RX0) (host := RX4) dX0_timesToHome_2 (fi_Brow hi) rfl iX0_timesToHome_X0 (by decide) (List.mem_of_getElem? (i := 1) rfl) rfl ?_
  refine q_top (show Value.int _ = Value.int _ from congrArg Value.int (hro)) ?_
  refine x_callV (As := [_]) (nA := 1) (T := TX0) (NF := 8) C dX0_timesToHome_5 (ob_B hi) rfl (m_walk _ _ X Y i n R hi hn hn2 hR hth) gX0_timesToHome_X0_walk rfl (by decide +kernel) rfl ⟨Nat.le_of_ble_eq_true rfl, Nat.le_of_ble_eq_true rfl⟩ (Nat.le_of_ble_eq_true rfl) ⟨Nat.le_of_ble_eq_true rfl, Nat.le_of_ble_eq_true rfl⟩ (fun v5 g5 h5 => ?_)
  obtain ⟨rfl, Xw, rfl, hw⟩ := h5
  have hthw : Xw (92 + 7 * i) 2 = nI n := by rw [hw.1 _ (by omega) (by omega) (by omega)]; exact hth
  have hperm : kb_perm n (kb_at (kb_kd (X (92 + 7 * i + 2))) n R) := kb_perm_at _
  refine q_iconst C (v := nI 0) dX0_timesToHome_8 (by decide) ?_
  refine q_istore_n C dX0_timesToHome_9 (by decide) rfl ?_
  refine q_mask [true, true, true, false] (q_for (σ := Unit) (k0 := 0) (n) (fun k _ X' Y' => Y = Y' ∧ (∀ z, z ≠ 92 + 7 * i + 6 → X' z = Xw z) ∧ ∀ j, j < k → X' (92 + 7 * i + 6) j = nI ((kb_at (kb_kd (X (92 + 7 * i + 2))) n R) j)) (fun k _ => [some (.ref (E.2.2.2 (92 + 7 * i))), some (.int w0), some (.int (nI k)), none]) (Nat.zero_le _) () (⟨rfl, fun _ _ => rfl, fun j hj => absurd hj (Nat.not_lt_zero _)⟩) ?_ ?_)
  · intro k a Xa Ya hk_k hk0_k hI_k ih_k
    obtain ⟨rfl, hI1⟩ := hI_k
    have ht1 : Xa (92 + 7 * i) 2 = nI n := by rw [hI1.1 _ (by omega)]; exact hthw
    refine q_iload_n C dX0_timesToHome_10 rfl ?_
    refine q_aload_n C dX0_timesToHome_11 rfl ?_
    refine x_getI C (ci := 0) (k := 2) (C0 := RX0) (T := TX0) (NF := 8) (ref := RX0) (host := RX4) dX0_timesToHome_12 (fi_Bthr hi) rfl iX0_timesToHome_X0 (by decide) (List.mem_of_getElem? (i := 2) rfl) rfl ?_
    refine q_top (show Value.int _ = Value.int _ from congrArg Value.int (ht1)) ?_
    refine q_icmpgeN C (tgt := 36) dX0_timesToHome_15 (by decide) (by omega) (by omega) (fun c15 => ?_) (fun c15 => ?_)
    · exact absurd c15 (by omega)
    · refine q_aload_n C dX0_timesToHome_18 rfl ?_
      refine x_getR C (ci := 0) (k := 7) (C0 := RX0) (T := TX0) (NF := 8) (ref := RX0) (host := RX4) dX0_timesToHome_19 (fr_Brep hi) rfl iX0_timesToHome_X0 (by decide) (List.mem_of_getElem? (i := 3) rfl) rfl ?_
      refine q_iload_n C dX0_timesToHome_22 rfl ?_
      refine q_aload_n C dX0_timesToHome_23 rfl ?_
      refine x_getR C (ci := 0) (k := 4) (C0 := RX0) (T := TX0) (NF := 8) (ref := RX0) (host := RX4) dX0_timesToHome_24 (fr_Bsta hi) rfl iX0_timesToHome_X0 (by decide) (List.mem_of_getElem? (i := 4) rfl) rfl ?_
      refine q_iload_n C dX0_timesToHome_27 rfl ?_
      refine x_ialdN C dX0_timesToHome_28 (ia_Bsta hi) (by decide) (by omega) ?_
      refine x_iastN C dX0_timesToHome_29 (ia_Brep hi) (by decide) (by omega) ?_
      refine q_iinc1 C dX0_timesToHome_30 rfl (by decide) rfl ?_
      refine q_goto C (tgt := 10) dX0_timesToHome_33 (by decide) ?_
      exact q_mask [true, true, true, false] (ih_k () _ _ ⟨rfl, fun z hz => by rw [kb_up_ne hz]; exact hI1.1 z hz, fun j hj => by
        rw [kb_up_self]
        by_cases e : j = k
        · subst e; simp only [upd, if_true]; rw [hI1.1 _ (by omega)]; exact hw.2.1 _ hk_k
        · simp only [upd, if_neg e]; exact hI1.2 j (by omega)⟩)
  · intro a Xa Ya hI_k
    obtain ⟨rfl, hI1⟩ := hI_k
    have ht1 : Xa (92 + 7 * i) 2 = nI n := by rw [hI1.1 _ (by omega)]; exact hthw
    refine q_iload_n C dX0_timesToHome_10 rfl ?_
    refine q_aload_n C dX0_timesToHome_11 rfl ?_
    refine x_getI C (ci := 0) (k := 2) (C0 := RX0) (T := TX0) (NF := 8) (ref := RX0) (host := RX4) dX0_timesToHome_12 (fi_Bthr hi) rfl iX0_timesToHome_X0 (by decide) (List.mem_of_getElem? (i := 2) rfl) rfl ?_
    refine q_top (show Value.int _ = Value.int _ from congrArg Value.int (ht1)) ?_
    refine q_icmpgeN C (tgt := 36) dX0_timesToHome_15 (by decide) (by omega) (by omega) (fun c15 => ?_) (fun c15 => ?_)
    · refine q_iconst C (v := nI 1) dX0_timesToHome_36 (by decide) ?_
      refine q_istore_n C dX0_timesToHome_37 (by decide) rfl ?_
      refine q_mask [true, true, true, false] (q_for (σ := Unit) (k0 := 1) (6) (fun t _ X' Y' => Y = Y' ∧ (∀ z, z ≠ 92 + 7 * i + 6 → X' z = Xw z) ∧ (∀ j, j < n → X' (92 + 7 * i + 6) j = nI (kb_it (kb_at (kb_kd (X (92 + 7 * i + 2))) n R) t j)) ∧ ∀ u, 1 ≤ u → u < t → ¬ kb_home (kb_at (kb_kd (X (92 + 7 * i + 2))) n R) n (decide (¬ w0 = 0)) (X (92 + 7 * i + 1)) u) (fun k _ => [some (.ref (E.2.2.2 (92 + 7 * i))), some (.int w0), some (.int (nI k)), none]) (by decide) () (⟨rfl, hI1.1, hI1.2, fun u h1 h2 => absurd h1 (by omega)⟩) ?_ ?_)
      · intro t at2 Xb Yb hk_t hk0_t hI_t ih_t
        obtain ⟨rfl, hs2, hr2, hno⟩ := hI_t
        have e21 : Xb (92 + 7 * i + 1) = X (92 + 7 * i + 1) := by rw [hs2 _ (by omega)]; exact hw.1 _ (by omega) (by omega) (by omega)
        have ht2 : Xb (92 + 7 * i) 2 = nI n := by rw [hs2 _ (by omega)]; exact hthw
        refine q_iload_n C dX0_timesToHome_38 rfl ?_
        refine q_bipush C (v := nI 6) dX0_timesToHome_39 (by decide) ?_
        refine q_icmpgeN C (tgt := 93) dX0_timesToHome_41 (by decide) (by omega) (by omega) (fun c41 => ?_) (fun c41 => ?_)
        · exact absurd c41 (by omega)
        · refine q_aload_n C dX0_timesToHome_44 rfl ?_
          refine q_iload_n C dX0_timesToHome_45 rfl ?_
          refine x_callV (As := [_]) (nA := 1) (T := TX0) (NF := 8) C dX0_timesToHome_46 (ob_B hi) rfl (m_isHome _ _ Xb Y i n hi hn ht2 w0 (kb_it (kb_at (kb_kd (X (92 + 7 * i + 2))) n R) t) (fun j hj => ⟨hr2 j hj, kb_it_lt hperm.1 _ _ hj⟩)) gX0_timesToHome_X0_isHome rfl (by decide +kernel) rfl ⟨Nat.le_of_ble_eq_true rfl, Nat.le_of_ble_eq_true rfl⟩ (Nat.le_of_ble_eq_true rfl) ⟨Nat.le_of_ble_eq_true rfl, Nat.le_of_ble_eq_true rfl⟩ (fun v46 g46 h46 => ?_)
          obtain ⟨fl, rfl, hfl, rfl⟩ := h46
          rw [e21] at hfl
          refine q_ifeq C (tgt := 54) dX0_timesToHome_49 (by decide) (fun c49 => ?_) (fun c49 => ?_)
          · have hnt := kb_flag0 hfl c49
            refine q_iconst C (v := nI 0) dX0_timesToHome_54 (by decide) ?_
            refine q_istore_n C dX0_timesToHome_55 (by decide) rfl ?_
            refine q_mask [true, true, true, true] (q_for (σ := Unit) (k0 := 0) (n) (fun k _ X' Y' => Y = Y' ∧ (∀ z, z ≠ 92 + 7 * i + 6 → X' z = Xw z) ∧ ∀ j, j < n → X' (92 + 7 * i + 6) j = nI (if j < k then kb_it (kb_at (kb_kd (X (92 + 7 * i + 2))) n R) (t + 1) j else kb_it (kb_at (kb_kd (X (92 + 7 * i + 2))) n R) t j)) (fun k _ => [some (.ref (E.2.2.2 (92 + 7 * i))), some (.int w0), some (.int (nI t)), some (.int (nI k))]) (Nat.zero_le _) () (⟨rfl, hs2, fun j hj => by rw [if_neg (Nat.not_lt_zero _)]; exact hr2 j hj⟩) ?_ ?_)
            · intro k3 a3 Xc Yc hk_k3 hk0_k3 hI_k3 ih_k3
              obtain ⟨rfl, hI3⟩ := hI_k3
              have ht3 : Xc (92 + 7 * i) 2 = nI n := by rw [hI3.1 _ (by omega)]; exact hthw
              have er : Xc (92 + 7 * i + 6) k3 = nI (kb_it (kb_at (kb_kd (X (92 + 7 * i + 2))) n R) t k3) := by rw [hI3.2 k3 hk_k3, if_neg (Nat.lt_irrefl _)]
              have hlt : kb_it (kb_at (kb_kd (X (92 + 7 * i + 2))) n R) t k3 < n := kb_it_lt hperm.1 _ _ hk_k3
              refine q_iload_n C dX0_timesToHome_56 rfl ?_
              refine q_aload_n C dX0_timesToHome_57 rfl ?_
              refine x_getI C (ci := 0) (k := 2) (C0 := RX0) (T := TX0) (NF := 8) (ref := RX0) (host := RX4) dX0_timesToHome_58 (fi_Bthr hi) rfl iX0_timesToHome_X0 (by decide) (List.mem_of_getElem? (i := 2) rfl) rfl ?_
              refine q_top (show Value.int _ = Value.int _ from congrArg Value.int (ht3)) ?_
              refine q_icmpgeN C (tgt := 87) dX0_timesToHome_61 (by decide) (by omega) (by omega) (fun c61 => ?_) (fun c61 => ?_)
              · exact absurd c61 (by omega)
              · refine q_aload_n C dX0_timesToHome_64 rfl ?_
                refine x_getR C (ci := 0) (k := 7) (C0 := RX0) (T := TX0) (NF := 8) (ref := RX0) (host := RX4) dX0_timesToHome_65 (fr_Brep hi) rfl iX0_timesToHome_X0 (by decide) (List.mem_of_getElem? (i := 3) rfl) rfl ?_
                refine q_iload_n C dX0_timesToHome_68 rfl ?_
                refine q_aload_n C dX0_timesToHome_69 rfl ?_
                refine x_getR C (ci := 0) (k := 4) (C0 := RX0) (T := TX0) (NF := 8) (ref := RX0) (host := RX4) dX0_timesToHome_70 (fr_Bsta hi) rfl iX0_timesToHome_X0 (by decide) (List.mem_of_getElem? (i := 4) rfl) rfl ?_
                refine q_aload_n C dX0_timesToHome_73 rfl ?_
                refine x_getR C (ci := 0) (k := 7) (C0 := RX0) (T := TX0) (NF := 8) (ref := RX0) (host := RX4) dX0_timesToHome_74 (fr_Brep hi) rfl iX0_timesToHome_X0 (by decide) (List.mem_of_getElem? (i := 3) rfl) rfl ?_
                refine q_iload_n C dX0_timesToHome_77 rfl ?_
                refine x_ialdN C dX0_timesToHome_78 (ia_Brep hi) (by decide) (by omega) ?_
                refine q_top (show Value.int _ = Value.int _ from congrArg Value.int (er)) ?_
                refine x_ialdN C dX0_timesToHome_79 (ia_Bsta hi) (by decide) (by omega) ?_
                refine x_iastN C dX0_timesToHome_80 (ia_Brep hi) (by decide) (by omega) ?_
                refine q_iinc1 C dX0_timesToHome_81 rfl (by decide) rfl ?_
                refine q_goto C (tgt := 56) dX0_timesToHome_84 (by decide) ?_
                exact q_mask [true, true, true, true] (ih_k3 () _ _ ⟨rfl, fun z hz => by rw [kb_up_ne hz]; exact hI3.1 z hz, fun j hj => by
                  rw [kb_up_self]
                  by_cases e : j = k3
                  · subst e; simp only [upd, if_true]; rw [if_pos (Nat.lt_succ_self _), hI3.1 _ (by omega), kb_it_succ]; exact hw.2.1 _ hlt
                  · simp only [upd, if_neg e]; rw [hI3.2 j hj]
                    by_cases e2 : j < k3
                    · rw [if_pos e2, if_pos (by omega)]
                    · rw [if_neg e2, if_neg (by omega)]⟩)
            · intro a3 Xc Yc hI_k3
              obtain ⟨rfl, hI3⟩ := hI_k3
              have ht3 : Xc (92 + 7 * i) 2 = nI n := by rw [hI3.1 _ (by omega)]; exact hthw
              refine q_iload_n C dX0_timesToHome_56 rfl ?_
              refine q_aload_n C dX0_timesToHome_57 rfl ?_
              refine x_getI C (ci := 0) (k := 2) (C0 := RX0) (T := TX0) (NF := 8) (ref := RX0) (host := RX4) dX0_timesToHome_58 (fi_Bthr hi) rfl iX0_timesToHome_X0 (by decide) (List.mem_of_getElem? (i := 2) rfl) rfl ?_
              refine q_top (show Value.int _ = Value.int _ from congrArg Value.int (ht3)) ?_
              refine q_icmpgeN C (tgt := 87) dX0_timesToHome_61 (by decide) (by omega) (by omega) (fun c61 => ?_) (fun c61 => ?_)
              · refine q_iinc1 C dX0_timesToHome_87 rfl (by decide) rfl ?_
                refine q_goto C (tgt := 38) dX0_timesToHome_90 (by decide) ?_
                exact q_mask [true, true, true, false] (ih_t () _ _ ⟨rfl, hI3.1, fun j hj => by rw [hI3.2 j hj, if_pos hj], fun u h1 h2 => by
                  rcases Nat.lt_or_ge u t with q | q
                  · exact hno u h1 q
                  · have e : u = t := by omega
                    subst e
                    exact hnt⟩)
              · exact absurd c61 (by omega)
          · have hyt := kb_flag1 hfl c49
            refine q_iload_n C dX0_timesToHome_52 rfl ?_
            exact q_iret C dX0_timesToHome_53 ⟨t, Xb, rfl, ⟨hk0_t, by omega, ⟨hk0_t, hyt, hno⟩⟩, rfl, fun z a1 a2 a3 a4 => (hs2 z a4).trans (hw.1 z a1 a2 a3)⟩
      · intro at2 Xb Yb hI_t
        obtain ⟨rfl, hs2, hr2, hno⟩ := hI_t
        have e21 : Xb (92 + 7 * i + 1) = X (92 + 7 * i + 1) := by rw [hs2 _ (by omega)]; exact hw.1 _ (by omega) (by omega) (by omega)
        refine q_iload_n C dX0_timesToHome_38 rfl ?_
        refine q_bipush C (v := nI 6) dX0_timesToHome_39 (by decide) ?_
        refine q_icmpgeN C (tgt := 93) dX0_timesToHome_41 (by decide) (by omega) (by omega) (fun c41 => ?_) (fun c41 => ?_)
        · refine q_bipush C (v := nI 6) dX0_timesToHome_93 (by decide) ?_
          exact q_iret C dX0_timesToHome_95 (by
      obtain ⟨T, h1, h2, h3⟩ := kb_home6 (kb_perm_atM hn R) hn (decide (¬ w0 = 0)) (X (92 + 7 * i + 1)) (g := (kb_at (kb_kd (X (92 + 7 * i + 2))) n R))
      rcases Nat.lt_or_ge T 6 with q | q
      · exact absurd h3 (hno T h1 q)
      · have e : T = 6 := by omega
        subst e
        exact ⟨6, Xb, rfl, ⟨by decide, by decide, ⟨by decide, h3, hno⟩⟩, rfl, fun z a1 a2 a3 a4 => (hs2 z a4).trans (hw.1 z a1 a2 a3)⟩)
        · exact absurd c41 (by omega)
    · exact absurd c15 (by omega)
/-- what become has laid: k colours, r rows of kinds -/
def kb_bcm (i q n R s0 k r : Nat) (X X' : Nat → Nat → Int32) : Prop := (∀ z, z ≠ 92 + 7 * i → z ≠ 92 + 7 * i + 1 → z ≠ 92 + 7 * i + 2 → X' z = X z) ∧ X' (92 + 7 * i) 2 = nI n ∧ X' (92 + 7 * i) 3 = nI R ∧ (∀ j, X' (92 + 7 * i + 1) j = if j < k then nI (kb_dg 6 s0 j) else X (92 + 7 * i + 1) j) ∧ ∀ j, X' (92 + 7 * i + 2) j = if j < r then X (148 + 5 * q + 3) j else X (92 + 7 * i + 2) j
theorem iX0_become_X0 : ∀ w ∈ wsX00, w ∈ wsX0_become := fun _ h => List.mem_cons_of_mem _ (by first | exact h | exact List.mem_append_right _ h | exact List.mem_append_left _ (List.mem_append_right _ h) | exact List.mem_append_left _ (List.mem_append_left _ (List.mem_append_right _ h)) | exact List.mem_append_left _ (List.mem_append_left _ (List.mem_append_left _ (List.mem_append_right _ h))) | exact List.mem_append_left _ (List.mem_append_left _ (List.mem_append_left _ (List.mem_append_left _ (List.mem_append_right _ h)))) | exact List.mem_append_left _ (List.mem_append_left _ (List.mem_append_left _ (List.mem_append_left _ (List.mem_append_left _ (List.mem_append_right _ h))))))
theorem iX0_become_X2 : ∀ w ∈ wsX20, w ∈ wsX0_become := fun _ h => List.mem_cons_of_mem _ (by first | exact h | exact List.mem_append_right _ h | exact List.mem_append_left _ (List.mem_append_right _ h) | exact List.mem_append_left _ (List.mem_append_left _ (List.mem_append_right _ h)) | exact List.mem_append_left _ (List.mem_append_left _ (List.mem_append_left _ (List.mem_append_right _ h))) | exact List.mem_append_left _ (List.mem_append_left _ (List.mem_append_left _ (List.mem_append_left _ (List.mem_append_right _ h)))) | exact List.mem_append_left _ (List.mem_append_left _ (List.mem_append_left _ (List.mem_append_left _ (List.mem_append_left _ (List.mem_append_right _ h))))))
set_option maxRecDepth 100000 in
set_option maxHeartbeats 4000000 in
/-- X0.become -/
theorem m_become (l : Launch) (E : kb_E) (X : Nat → Nat → Int32) (Y : Nat → Nat → Int64) (i q n R s0 : Nat) (hi : i < 8) (hq : q < 8) (hn : n ≤ 6) (hR : R ≤ 16) (hs0 : s0 < 4096) (hth : X (148 + 5 * q) 2 = nI n) (hro : X (148 + 5 * q) 3 = nI R) (hfs : X (148 + 5 * q) 6 = nI s0) : kb_Met l E 202 yX0_become wsX0_become ({ frames := 2, cells := 0, slots := 0, locals := 41 }) [.ref (E.2.2.2 (92 + 7 * i)), .ref (E.2.2.2 (148 + 5 * q))] (kb_ent E X Y) (fun v g' => v = none ∧ ∃ X', g' = kb_ent E X' Y ∧ kb_bcm i q n R s0 n R X X') := by
  refine kb_enter (cc := cX0_become) (maxL := 3) (ret := none) (by decide +kernel) rfl (by simp [Value.category]) (Nat.le_of_ble_eq_true rfl) ?_
  intro p e s m args below meth c C hini
  refine q_aload_n C dX0_become_0 rfl ?_
  refine q_aload_n C dX0_become_1 rfl ?_
  refine x_getIN C (ci := 2) (k := 2) (C0 := RX2) (T := TX2) (NF := 10) (ref := RX2) (host := RX4) dX0_become_2 (fi_Pthr hq) rfl iX0_become_X2 (by decide) (by decide +kernel) rfl ?_
  refine q_top (show Value.int _ = Value.int _ from congrArg Value.int (hth)) ?_
  refine x_putI C (ci := 0) (k := 2) (C0 := RX0) (T := TX0) (NF := 8) (ref := RX0) (host := RX4) (ty := .int) dX0_become_5 (fi_Bthr hi) rfl iX0_become_X0 tyX0_ok nmX0 (by decide) (List.mem_of_getElem? (i := 1) rfl) rfl rfl (by decide +kernel) rfl rfl ?_
  refine q_aload_n C dX0_become_8 rfl ?_
  refine q_aload_n C dX0_become_9 rfl ?_
  refine x_getIN C (ci := 2) (k := 3) (C0 := RX2) (T := TX2) (NF := 10) (ref := RX2) (host := RX4) dX0_become_10 (fi_Prow hq) rfl iX0_become_X2 (by decide) (by decide +kernel) rfl ?_
  refine q_top (show Value.int _ = Value.int _ from congrArg Value.int ((congrFun (kb_up_ne (show 148 + 5 * q ≠ 92 + 7 * i by omega)) 3).trans hro)) ?_
  refine x_putI C (ci := 0) (k := 3) (C0 := RX0) (T := TX0) (NF := 8) (ref := RX0) (host := RX4) (ty := .int) dX0_become_13 (fi_Brow hi) rfl iX0_become_X0 tyX0_ok nmX0 (by decide) (List.mem_of_getElem? (i := 2) rfl) rfl rfl (by decide +kernel) rfl rfl ?_
  refine q_iconst C (v := nI 0) dX0_become_16 (by decide) ?_
  refine q_istore_n C dX0_become_17 (by decide) rfl ?_
  refine q_mask [true, true, true] (q_for (σ := Unit) (k0 := 0) (n) (fun k _ X' Y' => Y = Y' ∧ kb_bcm i q n R s0 k 0 X X') (fun k _ => [some (.ref (E.2.2.2 (92 + 7 * i))), some (.ref (E.2.2.2 (148 + 5 * q))), some (.int (nI k))]) (Nat.zero_le _) () (⟨rfl, fun z a1 a2 a3 => by rw [kb_up_ne a1, kb_up_ne a1], by simp [va_up, upd], by simp [va_up, upd], fun j => by rw [if_neg (Nat.not_lt_zero _), kb_up_ne (by omega), kb_up_ne (by omega)], fun j => by rw [if_neg (Nat.not_lt_zero _), kb_up_ne (by omega), kb_up_ne (by omega)]⟩) ?_ ?_)
  · intro k a Xa Ya hk_k hk0_k hI_k ih_k
    obtain ⟨rfl, hI1⟩ := hI_k
    have hfs1 : Xa (148 + 5 * q) 6 = nI s0 := by rw [hI1.1 _ (by omega) (by omega) (by omega)]; exact hfs
    refine q_iload_n C dX0_become_18 rfl ?_
    refine q_aload_n C dX0_become_19 rfl ?_
    refine x_getI C (ci := 0) (k := 2) (C0 := RX0) (T := TX0) (NF := 8) (ref := RX0) (host := RX4) dX0_become_20 (fi_Bthr hi) rfl iX0_become_X0 (by decide) (List.mem_of_getElem? (i := 1) rfl) rfl ?_
    refine q_top (show Value.int _ = Value.int _ from congrArg Value.int (hI1.2.1)) ?_
    refine q_icmpgeN C (tgt := 46) dX0_become_23 (by decide) (by omega) (by omega) (fun c23 => ?_) (fun c23 => ?_)
    · exact absurd c23 (by omega)
    · refine q_aload_n C dX0_become_26 rfl ?_
      refine x_getR C (ci := 0) (k := 0) (C0 := RX0) (T := TX0) (NF := 8) (ref := RX0) (host := RX4) dX0_become_27 (fr_Bcol hi) rfl iX0_become_X0 (by decide) (List.mem_of_getElem? (i := 3) rfl) rfl ?_
      refine q_iload_n C dX0_become_30 rfl ?_
      refine q_aload_n C dX0_become_31 rfl ?_
      refine x_getIN C (ci := 2) (k := 6) (C0 := RX2) (T := TX2) (NF := 10) (ref := RX2) (host := RX4) dX0_become_32 (fi_Pfst hq) rfl iX0_become_X2 (by decide) (by decide +kernel) rfl ?_
      refine q_top (show Value.int _ = Value.int _ from congrArg Value.int (hfs1)) ?_
      refine q_iload_n C dX0_become_35 rfl ?_
      refine q_callSN (As := [_, _]) (nA := 2) (host := RX4) C dX0_become_36 (m_colourIn _ _ _ _ _) ggX0_become_X4_colourIn rfl (by decide +kernel) (List.mem_of_getElem? (i := 6) rfl) (List.mem_of_getElem? (i := 5) rfl) (by decide +kernel) rfl ⟨Nat.le_of_ble_eq_true rfl, Nat.le_of_ble_eq_true rfl⟩ (Nat.le_of_ble_eq_true rfl) ⟨Nat.le_of_ble_eq_true rfl, Nat.le_of_ble_eq_true rfl⟩ (fun v36 g36 h36 => ?_)
      obtain ⟨rfl, rfl⟩ := h36
      refine q_top (show Value.int _ = Value.int _ from congrArg Value.int (nv_colourIn hs0 (by omega))) ?_
      refine x_iastN C dX0_become_39 (ia_Bcol hi) (by decide) (by omega) ?_
      refine q_iinc1 C dX0_become_40 rfl (by decide) rfl ?_
      refine q_goto C (tgt := 18) dX0_become_43 (by decide) ?_
      exact q_mask [true, true, true] (ih_k () _ _ ⟨rfl, fun z a1 a2 a3 => by rw [kb_up_ne a2]; exact hI1.1 z a1 a2 a3, by rw [kb_up_ne (by omega)]; exact hI1.2.1, by rw [kb_up_ne (by omega)]; exact hI1.2.2.1, fun j => by
        rw [kb_up_self]
        by_cases e : j = k
        · subst e; simp only [upd, if_true]; rw [if_pos (Nat.lt_succ_self _)]
        · simp only [upd, if_neg e]; rw [hI1.2.2.2.1 j]
          by_cases e2 : j < k
          · rw [if_pos e2, if_pos (by omega)]
          · rw [if_neg e2, if_neg (by omega)], fun j => by rw [kb_up_ne (by omega)]; exact hI1.2.2.2.2 j⟩)
  · intro a Xa Ya hI_k
    obtain ⟨rfl, hI1⟩ := hI_k
    refine q_iload_n C dX0_become_18 rfl ?_
    refine q_aload_n C dX0_become_19 rfl ?_
    refine x_getI C (ci := 0) (k := 2) (C0 := RX0) (T := TX0) (NF := 8) (ref := RX0) (host := RX4) dX0_become_20 (fi_Bthr hi) rfl iX0_become_X0 (by decide) (List.mem_of_getElem? (i := 1) rfl) rfl ?_
    refine q_top (show Value.int _ = Value.int _ from congrArg Value.int (hI1.2.1)) ?_
    refine q_icmpgeN C (tgt := 46) dX0_become_23 (by decide) (by omega) (by omega) (fun c23 => ?_) (fun c23 => ?_)
    · refine q_iconst C (v := nI 0) dX0_become_46 (by decide) ?_
      refine q_istore_n C dX0_become_47 (by decide) rfl ?_
      refine q_mask [true, true, true] (q_for (σ := Unit) (k0 := 0) (R) (fun r _ X' Y' => Y = Y' ∧ kb_bcm i q n R s0 n r X X') (fun k _ => [some (.ref (E.2.2.2 (92 + 7 * i))), some (.ref (E.2.2.2 (148 + 5 * q))), some (.int (nI k))]) (Nat.zero_le _) () (⟨rfl, hI1⟩) ?_ ?_)
      · intro r a2 Xb Yb hk_r hk0_r hI_r ih_r
        obtain ⟨rfl, hI2⟩ := hI_r
        refine q_iload_n C dX0_become_48 rfl ?_
        refine q_aload_n C dX0_become_49 rfl ?_
        refine x_getI C (ci := 0) (k := 3) (C0 := RX0) (T := TX0) (NF := 8) (ref := RX0) (host := RX4) dX0_become_50 (fi_Brow hi) rfl iX0_become_X0 (by decide) (List.mem_of_getElem? (i := 2) rfl) rfl ?_
        refine q_top (show Value.int _ = Value.int _ from congrArg Value.int (hI2.2.2.1)) ?_
        refine q_icmpgeN C (tgt := 74) dX0_become_53 (by decide) (by omega) (by omega) (fun c53 => ?_) (fun c53 => ?_)
        · exact absurd c53 (by omega)
        · refine q_aload_n C dX0_become_56 rfl ?_
          refine x_getR C (ci := 0) (k := 1) (C0 := RX0) (T := TX0) (NF := 8) (ref := RX0) (host := RX4) dX0_become_57 (fr_Bkin hi) rfl iX0_become_X0 (by decide) (List.mem_of_getElem? (i := 4) rfl) rfl ?_
          refine q_iload_n C dX0_become_60 rfl ?_
          refine q_aload_n C dX0_become_61 rfl ?_
          refine x_getRN C (ci := 2) (k := 7) (C0 := RX2) (T := TX2) (NF := 10) (ref := RX2) (host := RX4) dX0_become_62 (fr_Pkin hq) rfl iX0_become_X2 (by decide) (by decide +kernel) rfl ?_
          refine q_iload_n C dX0_become_65 rfl ?_
          refine x_ialdN C dX0_become_66 (ia_Pkin hq) (by decide) (by omega) ?_
          refine x_iastN C dX0_become_67 (ia_Bkin hi) (by decide) (by omega) ?_
          refine q_iinc1 C dX0_become_68 rfl (by decide) rfl ?_
          refine q_goto C (tgt := 48) dX0_become_71 (by decide) ?_
          exact q_mask [true, true, true] (ih_r () _ _ ⟨rfl, fun z a1 a2 a3 => by rw [kb_up_ne a3]; exact hI2.1 z a1 a2 a3, by rw [kb_up_ne (by omega)]; exact hI2.2.1, by rw [kb_up_ne (by omega)]; exact hI2.2.2.1, fun j => by rw [kb_up_ne (by omega)]; exact hI2.2.2.2.1 j, fun j => by
            rw [kb_up_self]
            by_cases e : j = r
            · subst e; simp only [upd, if_true]; rw [if_pos (Nat.lt_succ_self _), hI2.1 _ (by omega) (by omega) (by omega)]
            · simp only [upd, if_neg e]; rw [hI2.2.2.2.2 j]
              by_cases e2 : j < r
              · rw [if_pos e2, if_pos (by omega)]
              · rw [if_neg e2, if_neg (by omega)]⟩)
      · intro a2 Xb Yb hI_r
        obtain ⟨rfl, hI2⟩ := hI_r
        refine q_iload_n C dX0_become_48 rfl ?_
        refine q_aload_n C dX0_become_49 rfl ?_
        refine x_getI C (ci := 0) (k := 3) (C0 := RX0) (T := TX0) (NF := 8) (ref := RX0) (host := RX4) dX0_become_50 (fi_Brow hi) rfl iX0_become_X0 (by decide) (List.mem_of_getElem? (i := 2) rfl) rfl ?_
        refine q_top (show Value.int _ = Value.int _ from congrArg Value.int (hI2.2.2.1)) ?_
        refine q_icmpgeN C (tgt := 74) dX0_become_53 (by decide) (by omega) (by omega) (fun c53 => ?_) (fun c53 => ?_)
        · exact q_vret C dX0_become_74 ⟨rfl, _, rfl, hI2⟩
        · exact absurd c53 (by omega)
    · exact absurd c23 (by omega)
/-- what begin has laid: a spots of 4, k places -/
def kb_bgn (q n h a k : Nat) (X X' : Nat → Nat → Int32) : Prop := (∀ z, z ≠ 148 + 5 * q → z ≠ 148 + 5 * q + 1 → z ≠ 148 + 5 * q + 2 → X' z = X z) ∧ (∀ j, X' (148 + 5 * q) j = if j = 2 then nI n else if j = 3 then nI h else X (148 + 5 * q) j) ∧ (∀ j, X' (148 + 5 * q + 1) j = if j < a then nI 4 else X (148 + 5 * q + 1) j) ∧ ∀ j, X' (148 + 5 * q + 2) j = if j < k then (if j < n then nI 4 else nI 0) else X (148 + 5 * q + 2) j
theorem iX2_begin_X2 : ∀ w ∈ wsX20, w ∈ wsX2_begin := fun _ h => List.mem_cons_of_mem _ (by first | exact h | exact List.mem_append_right _ h | exact List.mem_append_left _ (List.mem_append_right _ h) | exact List.mem_append_left _ (List.mem_append_left _ (List.mem_append_right _ h)) | exact List.mem_append_left _ (List.mem_append_left _ (List.mem_append_left _ (List.mem_append_right _ h))) | exact List.mem_append_left _ (List.mem_append_left _ (List.mem_append_left _ (List.mem_append_left _ (List.mem_append_right _ h)))) | exact List.mem_append_left _ (List.mem_append_left _ (List.mem_append_left _ (List.mem_append_left _ (List.mem_append_left _ (List.mem_append_right _ h))))))
set_option maxRecDepth 100000 in
set_option maxHeartbeats 4000000 in
/-- X2.begin -/
theorem m_begin (l : Launch) (E : kb_E) (X : Nat → Nat → Int32) (Y : Nat → Nat → Int64) (q n h : Nat) (hq : q < 8) (hn : n ≤ 6) : kb_Met l E 202 yX2_begin wsX2_begin ({ frames := 0, cells := 0, slots := 0, locals := 0 }) [.ref (E.2.2.2 (148 + 5 * q)), .int (nI n), .int (nI h)] (kb_ent E X Y) (fun v g' => v = none ∧ ∃ X', g' = kb_ent E X' Y ∧ kb_bgn q n h 48 6 X X') := by
  refine kb_enter (cc := cX2_begin) (maxL := 4) (ret := none) (by decide +kernel) rfl (by simp [Value.category]) (Nat.le_of_ble_eq_true rfl) ?_
  intro p e s m args below meth c C hini
  refine q_aload_n C dX2_begin_0 rfl ?_
  refine q_iload_n C dX2_begin_1 rfl ?_
  refine x_putI C (ci := 2) (k := 2) (C0 := RX2) (T := TX2) (NF := 10) (ref := RX2) (host := RX4) (ty := .int) dX2_begin_2 (fi_Pthr hq) rfl iX2_begin_X2 tyX2_ok nmX2 (by decide) (List.mem_of_getElem? (i := 1) rfl) rfl rfl (by decide +kernel) rfl rfl ?_
  refine q_aload_n C dX2_begin_5 rfl ?_
  refine q_iload_n C dX2_begin_6 rfl ?_
  refine x_putI C (ci := 2) (k := 3) (C0 := RX2) (T := TX2) (NF := 10) (ref := RX2) (host := RX4) (ty := .int) dX2_begin_7 (fi_Prow hq) rfl iX2_begin_X2 tyX2_ok nmX2 (by decide) (List.mem_of_getElem? (i := 2) rfl) rfl rfl (by decide +kernel) rfl rfl ?_
  refine q_iconst C (v := nI 0) dX2_begin_10 (by decide) ?_
  refine q_istore_n C dX2_begin_11 (by decide) rfl ?_
  refine q_mask [true, true, true, true] (q_for (σ := Unit) (k0 := 0) (48) (fun a _ X' Y' => Y = Y' ∧ kb_bgn q n h a 0 X X') (fun k _ => [some (.ref (E.2.2.2 (148 + 5 * q))), some (.int (nI n)), some (.int (nI h)), some (.int (nI k))]) (Nat.zero_le _) () (⟨rfl, fun z a1 a2 a3 => by rw [kb_up_ne a1, kb_up_ne a1], fun j => by
      rw [kb_up_self]
      by_cases e3 : j = 3
      · subst e3; simp [upd]
      · by_cases e2 : j = 2
        · subst e2; simp [upd, kb_up_self]
        · simp [upd, kb_up_self, e2, e3], fun j => by rw [if_neg (Nat.not_lt_zero _), kb_up_ne (by omega), kb_up_ne (by omega)], fun j => by rw [if_neg (Nat.not_lt_zero _), kb_up_ne (by omega), kb_up_ne (by omega)]⟩) ?_ ?_)
  · intro k a Xa Ya hk_k hk0_k hI_k ih_k
    obtain ⟨rfl, hI1⟩ := hI_k
    refine q_iload_n C dX2_begin_12 rfl ?_
    refine q_bipush C (v := nI 48) dX2_begin_13 (by decide) ?_
    refine q_icmpgeN C (tgt := 31) dX2_begin_15 (by decide) (by omega) (by omega) (fun c15 => ?_) (fun c15 => ?_)
    · exact absurd c15 (by omega)
    · refine q_aload_n C dX2_begin_18 rfl ?_
      refine x_getR C (ci := 2) (k := 0) (C0 := RX2) (T := TX2) (NF := 10) (ref := RX2) (host := RX4) dX2_begin_19 (fr_Ptol hq) rfl iX2_begin_X2 (by decide) (List.mem_of_getElem? (i := 3) rfl) rfl ?_
      refine q_iload_n C dX2_begin_22 rfl ?_
      refine q_iconst C (v := nI 4) dX2_begin_23 (by decide) ?_
      refine x_iastN C dX2_begin_24 (ia_Ptol hq) (by decide) (by omega) ?_
      refine q_iinc1 C dX2_begin_25 rfl (by decide) rfl ?_
      refine q_goto C (tgt := 12) dX2_begin_28 (by decide) ?_
      exact q_mask [true, true, true, true] (ih_k () _ _ ⟨rfl, fun z a1 a2 a3 => by rw [kb_up_ne a2]; exact hI1.1 z a1 a2 a3, fun j => by rw [kb_up_ne (by omega)]; exact hI1.2.1 j, fun j => by
        rw [kb_up_self]
        by_cases e : j = k
        · subst e; simp only [upd, if_true]; rw [if_pos (Nat.lt_succ_self _)]
        · simp only [upd, if_neg e]; rw [hI1.2.2.1 j]
          by_cases e2 : j < k
          · rw [if_pos e2, if_pos (by omega)]
          · rw [if_neg e2, if_neg (by omega)], fun j => by rw [kb_up_ne (by omega)]; exact hI1.2.2.2 j⟩)
  · intro a Xa Ya hI_k
    obtain ⟨rfl, hI1⟩ := hI_k
    refine q_iload_n C dX2_begin_12 rfl ?_
    refine q_bipush C (v := nI 48) dX2_begin_13 (by decide) ?_
    refine q_icmpgeN C (tgt := 31) dX2_begin_15 (by decide) (by omega) (by omega) (fun c15 => ?_) (fun c15 => ?_)
    · refine q_iconst C (v := nI 0) dX2_begin_31 (by decide) ?_
      refine q_istore_n C dX2_begin_32 (by decide) rfl ?_
      refine q_mask [true, true, true, true] (q_for (σ := Unit) (k0 := 0) (6) (fun r _ X' Y' => Y = Y' ∧ kb_bgn q n h 48 r X X') (fun k _ => [some (.ref (E.2.2.2 (148 + 5 * q))), some (.int (nI n)), some (.int (nI h)), some (.int (nI k))]) (Nat.zero_le _) () (⟨rfl, hI1⟩) ?_ ?_)
      · intro r a2 Xb Yb hk_r hk0_r hI_r ih_r
        obtain ⟨rfl, hI2⟩ := hI_r
        refine q_iload_n C dX2_begin_33 rfl ?_
        refine q_bipush C (v := nI 6) dX2_begin_34 (by decide) ?_
        refine q_icmpgeN C (tgt := 64) dX2_begin_36 (by decide) (by omega) (by omega) (fun c36 => ?_) (fun c36 => ?_)
        · exact absurd c36 (by omega)
        · refine q_aload_n C dX2_begin_39 rfl ?_
          refine x_getR C (ci := 2) (k := 1) (C0 := RX2) (T := TX2) (NF := 10) (ref := RX2) (host := RX4) dX2_begin_40 (fr_Pfir hq) rfl iX2_begin_X2 (by decide) (List.mem_of_getElem? (i := 4) rfl) rfl ?_
          refine q_iload_n C dX2_begin_43 rfl ?_
          refine q_cut 57 (P := fun x => x = (if r < n then nI 4 else nI 0)) (fun f57 hf57 => ?_) (fun J57 => ?_)
          · refine x_iastN C dX2_begin_57 (ia_Pfir hq) (by decide) (by omega) ?_
            refine q_iinc1 C dX2_begin_58 rfl (by decide) rfl ?_
            refine q_goto C (tgt := 33) dX2_begin_61 (by decide) ?_
            exact q_mask [true, true, true, true] (ih_r () _ _ ⟨rfl, fun z a1 a2 a3 => by rw [kb_up_ne a3]; exact hI2.1 z a1 a2 a3, fun j => by rw [kb_up_ne (by omega)]; exact hI2.2.1 j, fun j => by rw [kb_up_ne (by omega)]; exact hI2.2.2.1 j, fun j => by
              rw [kb_up_self]
              by_cases e : j = r
              · subst e; simp only [upd, if_true]; rw [if_pos (Nat.lt_succ_self _)]; exact hf57
              · simp only [upd, if_neg e]; rw [hI2.2.2.2 j]
                by_cases e2 : j < r
                · rw [if_pos e2, if_pos (show j < r + 1 by omega)]
                · rw [if_neg e2, if_neg (by omega)]⟩)
          refine q_iload_n C dX2_begin_44 rfl ?_
          refine q_aload_n C dX2_begin_45 rfl ?_
          refine x_getI C (ci := 2) (k := 2) (C0 := RX2) (T := TX2) (NF := 10) (ref := RX2) (host := RX4) dX2_begin_46 (fi_Pthr hq) rfl iX2_begin_X2 (by decide) (List.mem_of_getElem? (i := 1) rfl) rfl ?_
          refine q_top (show Value.int _ = Value.int (nI n) from congrArg Value.int ((hI2.2.1 2).trans (by simp))) ?_
          refine q_icmpgeN C (tgt := 56) dX2_begin_49 (by decide) (by omega) (by omega) (fun c49 => ?_) (fun c49 => ?_)
          · refine q_iconst C (v := nI 0) dX2_begin_56 (by decide) ?_
            exact J57 _ (by first | rw [if_pos (by omega)] | rw [if_neg (by omega)])
          · refine q_iconst C (v := nI 4) dX2_begin_52 (by decide) ?_
            refine q_goto C (tgt := 57) dX2_begin_53 (by decide) ?_
            exact J57 _ (by first | rw [if_pos (by omega)] | rw [if_neg (by omega)])
      · intro a2 Xb Yb hI_r
        obtain ⟨rfl, hI2⟩ := hI_r
        refine q_iload_n C dX2_begin_33 rfl ?_
        refine q_bipush C (v := nI 6) dX2_begin_34 (by decide) ?_
        refine q_icmpgeN C (tgt := 64) dX2_begin_36 (by decide) (by omega) (by omega) (fun c36 => ?_) (fun c36 => ?_)
        · exact q_vret C dX2_begin_64 ⟨rfl, _, rfl, hI2⟩
        · exact absurd c36 (by omega)
    · exact absurd c15 (by omega)

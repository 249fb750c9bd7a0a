/-! ===== Standings: spread ===== -/
/-- the words of set m as they are while those of set n are rewritten up to k by J: m may be n -/
theorem kb_alias {n m k : Nat} {Y Y1 : Nat → Nat → Int64} {J : Nat → Int64} (hs : kb_sy (n + 1) Y Y1) (h1 : ∀ j, j < k → Y1 (n + 1) j = J j) (h2 : ∀ j, k ≤ j → Y1 (n + 1) j = Y (n + 1) j) (j : Nat) : (k ≤ j → Y1 (m + 1) j = Y (m + 1) j) ∧ (Y1 (m + 1) j = Y (m + 1) j ∨ (m = n ∧ Y1 (m + 1) j = J j)) := by
  by_cases e : m = n
  · subst e
    refine ⟨fun h => h2 j h, ?_⟩
    rcases Nat.lt_or_ge j k with q | q
    · exact Or.inr ⟨rfl, h1 j q⟩
    · exact Or.inl (h2 j q)
  · have := hs (m + 1) (by omega)
    rw [this]
    exact ⟨fun _ => rfl, Or.inl rfl⟩
theorem kb_ss3_lt {w p : Nat} (hw : w < 64) (hp : p < 2) : kb_ss 3 w p < 64 := kb_ss_lt (n := 3) (by decide) hw (by omega)
theorem kb_ss3_ss {w p : Nat} (hw : w < 64) (hp : p < 2) : kb_ss 3 (kb_ss 3 w p) p = w := kb_ss_ss (n := 3) (by decide) hw (by omega)
theorem iX3_spreadBetween_X3 : ∀ w ∈ wsX30, w ∈ wsX3_spreadBetween := fun _ h => List.mem_cons_of_mem _ (by first | exact h | exact List.mem_append_right _ h | exact List.mem_append_left _ (List.mem_append_right _ h) | exact List.mem_append_left _ (List.mem_append_left _ (List.mem_append_right _ h)) | exact List.mem_append_left _ (List.mem_append_left _ (List.mem_append_left _ (List.mem_append_right _ h))) | exact List.mem_append_left _ (List.mem_append_left _ (List.mem_append_left _ (List.mem_append_left _ (List.mem_append_right _ h)))) | exact List.mem_append_left _ (List.mem_append_left _ (List.mem_append_left _ (List.mem_append_left _ (List.mem_append_left _ (List.mem_append_right _ h))))))
set_option maxRecDepth 100000 in
set_option maxHeartbeats 4000000 in
/-- X3.spreadBetween -/
theorem m_spreadBetween (l : Launch) (E : kb_E) (X : Nat → Nat → Int32) (Y : Nat → Nat → Int64) (n mm p0 : Nat) (hS : kb_SN n) (hM : kb_SN mm) (hp : p0 < 2) : kb_Met l E 202 yX3_spreadBetween wsX3_spreadBetween ({ frames := 1, cells := 0, slots := 0, locals := 22 }) [.ref (E.2.2.2 n), .ref (E.2.2.2 (mm + 1)), .int (nI (2 * (1 - p0)))] (kb_ent E X Y) (fun v g' => v = none ∧ ∃ Y', g' = kb_ent E X Y' ∧ kb_sy (n + 1) Y Y' ∧ ∀ j, j < 64 → Y' (n + 1) j = (Y (mm + 1) j ||| Y (mm + 1) (kb_ss 3 j p0))) := by
  refine kb_enter (cc := cX3_spreadBetween) (maxL := 4) (ret := none) (by decide +kernel) rfl (by simp [Value.category]) (Nat.le_of_ble_eq_true rfl) ?_
  intro p e s m args below meth c C hini
  refine q_iconst C (v := nI 0) dX3_spreadBetween_0 (by decide) ?_
  refine q_istore_n C dX3_spreadBetween_1 (by decide) rfl ?_
  refine q_mask [true, true, true, true] (q_for (σ := Unit) (k0 := 0) (64) (fun k _ X' Y' => X = X' ∧ kb_sy (n + 1) Y Y' ∧ (∀ j, j < k → Y' (n + 1) j = (Y (mm + 1) j ||| Y (mm + 1) (kb_ss 3 j p0))) ∧ ∀ j, k ≤ j → Y' (n + 1) j = Y (n + 1) j) (fun k _ => [some (.ref (E.2.2.2 (n))), some (.ref (E.2.2.2 (mm + 1))), some (.int (nI (2 * (1 - p0)))), some (.int (nI k))]) (Nat.zero_le _) () (⟨rfl, fun _ _ => rfl, fun j hj => absurd hj (Nat.not_lt_zero _), fun _ _ => rfl⟩) ?_ ?_)
  · intro w0 a X1 Y1 hk_w0 hk0_w0 hI_w0 ih_w0
    obtain ⟨rfl, hI⟩ := hI_w0
    refine q_iload_n C dX3_spreadBetween_2 rfl ?_
    refine q_bipush C (v := nI 64) dX3_spreadBetween_3 (by decide) ?_
    refine q_icmpgeN C (tgt := 31) dX3_spreadBetween_5 (by decide) (by omega) (by omega) (fun c5 => ?_) (fun c5 => ?_)
    · exact absurd c5 (by omega)
    · refine q_aload_n C dX3_spreadBetween_8 rfl ?_
      refine x_getR C (ci := 3) (k := 0) (C0 := RX3) (T := TX3) (NF := 1) (ref := RX3) (host := RX4) dX3_spreadBetween_9 (fr_Swords hS) rfl iX3_spreadBetween_X3 (by decide) (List.mem_of_getElem? (i := 1) rfl) rfl ?_
      refine q_iload_n C dX3_spreadBetween_12 rfl ?_
      refine q_aload_n C dX3_spreadBetween_13 rfl ?_
      refine q_iload_n C dX3_spreadBetween_14 rfl ?_
      refine x_laldN C dX3_spreadBetween_15 (la_Swords hM) (by decide) (by omega) ?_
      refine q_aload_n C dX3_spreadBetween_16 rfl ?_
      refine q_iload_n C dX3_spreadBetween_17 rfl ?_
      refine q_iload_n C dX3_spreadBetween_18 rfl ?_
      refine q_callSN (As := [_, _]) (nA := 2) (host := RX4) C dX3_spreadBetween_19 (m_exchanged _ _ _ _ _) ggX3_spreadBetween_X4_exchanged rfl (by decide +kernel) (List.mem_of_getElem? (i := 3) rfl) (List.mem_of_getElem? (i := 2) rfl) (by decide +kernel) rfl ⟨Nat.le_of_ble_eq_true rfl, Nat.le_of_ble_eq_true rfl⟩ (Nat.le_of_ble_eq_true rfl) ⟨Nat.le_of_ble_eq_true rfl, Nat.le_of_ble_eq_true rfl⟩ (fun v19 g19 h19 => ?_)
      obtain ⟨rfl, rfl⟩ := h19
      refine q_top (show Value.int _ = Value.int _ from congrArg Value.int (nv_exchangedW hk_w0 hp)) ?_
      refine x_laldN C dX3_spreadBetween_22 (la_Swords hM) (by decide) (kb_ss3_lt hk_w0 hp) ?_
      refine q_lor C dX3_spreadBetween_23 ?_
      refine x_lastN C dX3_spreadBetween_24 (la_Swords hS) (by decide) (by omega) ?_
      refine q_iinc1 C dX3_spreadBetween_25 rfl (by decide) rfl ?_
      refine q_goto C (tgt := 2) dX3_spreadBetween_28 (by decide) ?_
      exact q_mask [true, true, true, true] (ih_w0 () _ _ ⟨rfl, fun q hq => by rw [kb_up_ne hq]; exact hI.1 q hq, fun j hj => by
        rw [kb_up_self]
        by_cases e : j = w0
        · subst e; rw [vp_updL, if_pos rfl]
          have a1 := (kb_alias (m := mm) (J := fun j => (Y (mm + 1) j ||| Y (mm + 1) (kb_ss 3 j p0))) hI.1 hI.2.1 hI.2.2 j).1 (Nat.le_refl _)
          have a2 := (kb_alias (m := mm) (J := fun j => (Y (mm + 1) j ||| Y (mm + 1) (kb_ss 3 j p0))) hI.1 hI.2.1 hI.2.2 (kb_ss 3 j p0)).2
          rw [a1]
          rcases a2 with a2 | ⟨-, a2⟩
          · rw [a2]
          · rw [a2, kb_ss3_ss hk_w0 hp]
            apply kb_bit_ext
            intro i _
            simp only [kb_bit_or]
            cases kb_bit (Y (mm + 1) j) i <;> cases kb_bit (Y (mm + 1) (kb_ss 3 j p0)) i <;> rfl
        · rw [vp_updL, if_neg e]; exact hI.2.1 j (by omega), fun j hj => by
        rw [kb_up_self, vp_updL, if_neg (by omega)]; exact hI.2.2 j (by omega)⟩)
  · intro a X1 Y1 hI_w0
    obtain ⟨rfl, hI⟩ := hI_w0
    refine q_iload_n C dX3_spreadBetween_2 rfl ?_
    refine q_bipush C (v := nI 64) dX3_spreadBetween_3 (by decide) ?_
    refine q_icmpgeN C (tgt := 31) dX3_spreadBetween_5 (by decide) (by omega) (by omega) (fun c5 => ?_) (fun c5 => ?_)
    · exact q_vret C dX3_spreadBetween_31 ⟨rfl, _, rfl, hI.1, hI.2.1⟩
    · exact absurd c5 (by omega)
/-- bit i of word j after an exchange of places 2 and 3 is joined -/
def kb_xb (f : Nat → Int64) (j i : Nat) : Bool := kb_bit (f j) i || kb_bit (f (j - j % 4 + i / 16)) (16 * (j % 4) + i % 16)
theorem kb_msk {x : Int64} {i k : Nat} (hk : k < 4) (y : Nat) (hy : y < 4) (hi : i < 64) : kb_bit ((((x.toUInt64 >>> ((nI (16 * k)).toInt64.toUInt64 &&& Int64.toUInt64 63)).toInt64) &&& 65535) <<< ((nI (16 * y)).toInt64 &&& 63)) i = (decide (i / 16 = y) && kb_bit x (16 * k + i % 16)) := by
  rw [kb_bit_shl _ (by omega) hi, kb_bit_and, kb_bit_shr _ _ (by omega)]
  have m : ∀ i, i < 64 → kb_bit 65535 i = decide (i < 16) := by decide +kernel
  rw [m _ (by omega)]
  by_cases e : i / 16 = y
  · have e2 : i - 16 * y = i % 16 := by omega
    rw [e2]
    simp [e, show 16 * y ≤ i by omega, Nat.mod_lt]
  · by_cases e3 : 16 * y ≤ i
    · simp [e, show ¬ (i - 16 * y < 16) by omega]
    · simp [e, e3]
theorem kb_across {n m w : Nat} {Y Y1 : Nat → Nat → Int64} (hs : kb_sy (n + 1) Y Y1) (h1 : ∀ j, j < w → ∀ i, i < 64 → kb_bit (Y1 (n + 1) j) i = kb_xb (Y (m + 1)) j i) (h2 : ∀ j, w ≤ j → Y1 (n + 1) j = Y (n + 1) j) (_hw : w < 64) {i : Nat} (hi : i < 64) : (kb_bit (Y1 (m + 1) w) i || kb_bit (Y1 (m + 1) (w - w % 4 + i / 16)) (16 * (w % 4) + i % 16)) = kb_xb (Y (m + 1)) w i := by
  by_cases e : m = n
  · subst e
    rw [h2 w (Nat.le_refl _)]
    by_cases c1 : w - w % 4 + i / 16 < w
    · rw [h1 _ c1 _ (by omega)]
      unfold kb_xb
      have e1 : (w - w % 4 + i / 16) % 4 = i / 16 := by omega
      have e2 : (16 * (w % 4) + i % 16) / 16 = w % 4 := by omega
      have e3 : (16 * (w % 4) + i % 16) % 16 = i % 16 := by omega
      rw [e1, e2, e3, show w - w % 4 + i / 16 - i / 16 + w % 4 = w by omega, show 16 * (i / 16) + i % 16 = i by omega]
      cases kb_bit (Y (m + 1) w) i <;> cases kb_bit (Y (m + 1) (w - w % 4 + i / 16)) (16 * (w % 4) + i % 16) <;> rfl
    · rw [h2 _ (by omega)]
      rfl
  · rw [hs (m + 1) (by omega)]
    rfl
theorem iX3_spreadAcross_X3 : ∀ w ∈ wsX30, w ∈ wsX3_spreadAcross := fun _ h => List.mem_cons_of_mem _ (by first | exact h | exact List.mem_append_right _ h | exact List.mem_append_left _ (List.mem_append_right _ h) | exact List.mem_append_left _ (List.mem_append_left _ (List.mem_append_right _ h)) | exact List.mem_append_left _ (List.mem_append_left _ (List.mem_append_left _ (List.mem_append_right _ h))) | exact List.mem_append_left _ (List.mem_append_left _ (List.mem_append_left _ (List.mem_append_left _ (List.mem_append_right _ h)))) | exact List.mem_append_left _ (List.mem_append_left _ (List.mem_append_left _ (List.mem_append_left _ (List.mem_append_left _ (List.mem_append_right _ h))))))
set_option maxRecDepth 100000 in
set_option maxHeartbeats 4000000 in
/-- X3.spreadAcross -/
theorem m_spreadAcross (l : Launch) (E : kb_E) (X : Nat → Nat → Int32) (Y : Nat → Nat → Int64) (n mm : Nat) (hS : kb_SN n) (hM : kb_SN mm) : kb_Met l E 202 yX3_spreadAcross wsX3_spreadAcross ({ frames := 0, cells := 0, slots := 0, locals := 0 }) [.ref (E.2.2.2 n), .ref (E.2.2.2 (mm + 1))] (kb_ent E X Y) (fun v g' => v = none ∧ ∃ Y', g' = kb_ent E X Y' ∧ kb_sy (n + 1) Y Y' ∧ ∀ j, j < 64 → ∀ i, i < 64 → kb_bit (Y' (n + 1) j) i = kb_xb (Y (mm + 1)) j i) := by
  refine kb_enter (cc := cX3_spreadAcross) (maxL := 7) (ret := none) (by decide +kernel) rfl (by simp [Value.category]) (Nat.le_of_ble_eq_true rfl) ?_
  intro p e s m args below meth c C hini
  refine q_iconst C (v := nI 0) dX3_spreadAcross_0 (by decide) ?_
  refine q_istore_n C dX3_spreadAcross_1 (by decide) rfl ?_
  refine q_mask [true, true, true, false, false, false, false] (q_for (σ := Unit) (k0 := 0) (64) (fun k _ X' Y' => X = X' ∧ kb_sy (n + 1) Y Y' ∧ (∀ j, j < k → ∀ i, i < 64 → kb_bit (Y' (n + 1) j) i = kb_xb (Y (mm + 1)) j i) ∧ ∀ j, k ≤ j → Y' (n + 1) j = Y (n + 1) j) (fun k _ => [some (.ref (E.2.2.2 (n))), some (.ref (E.2.2.2 (mm + 1))), some (.int (nI k)), none, none, none, none]) (Nat.zero_le _) () (⟨rfl, fun _ _ => rfl, fun j hj => absurd hj (Nat.not_lt_zero _), fun _ _ => rfl⟩) ?_ ?_)
  · intro w0 a X1 Y1 hk_w0 hk0_w0 hI_w0 ih_w0
    obtain ⟨rfl, hI⟩ := hI_w0
    refine q_iload_n C dX3_spreadAcross_2 rfl ?_
    refine q_bipush C (v := nI 64) dX3_spreadAcross_3 (by decide) ?_
    refine q_icmpgeN C (tgt := 74) dX3_spreadAcross_5 (by decide) (by omega) (by omega) (fun c5 => ?_) (fun c5 => ?_)
    · exact absurd c5 (by omega)
    · refine q_iload_n C dX3_spreadAcross_8 rfl ?_
      refine q_iconst C (v := nI 3) dX3_spreadAcross_9 (by decide) ?_
      refine q_iand C dX3_spreadAcross_10 ?_
      refine q_top (show Value.int _ = Value.int _ from congrArg Value.int (nv_and3 (by omega))) ?_
      refine q_istore_n C dX3_spreadAcross_11 (by decide) rfl ?_
      refine q_aload_n C dX3_spreadAcross_12 rfl ?_
      refine q_iload_n C dX3_spreadAcross_13 rfl ?_
      refine x_laldN C dX3_spreadAcross_14 (la_Swords hM) (by decide) (by omega) ?_
      refine q_lstore C dX3_spreadAcross_15 (by decide) rfl ?_
      refine q_iconst C (v := nI 0) dX3_spreadAcross_17 (by decide) ?_
      refine q_istore C dX3_spreadAcross_18 (by decide) rfl ?_
      refine q_mask [true, true, true, true, true, false, true] (q_for (σ := Int64) (k0 := 0) (4) (fun y (jn : Int64) X' Y' => X = X' ∧ Y1 = Y' ∧ ∀ i, i < 64 → kb_bit jn i = (kb_bit (Y1 (mm + 1) w0) i || (decide (i / 16 < y) && kb_bit (Y1 (mm + 1) (w0 - w0 % 4 + i / 16)) (16 * (w0 % 4) + i % 16)))) (fun y (jn : Int64) => [some (.ref (E.2.2.2 (n))), some (.ref (E.2.2.2 (mm + 1))), some (.int (nI w0)), some (.int (nI (w0 % 4))), some (.long jn), none, some (.int (nI y))]) (Nat.zero_le _) _ (⟨rfl, rfl, fun i hi => by simp⟩) ?_ ?_)
      · intro y jn X2 Y2 hk_y hk0_y hI_y ih_y
        obtain ⟨rfl, rfl, hJ⟩ := hI_y
        refine q_iload C dX3_spreadAcross_20 rfl ?_
        refine q_iconst C (v := nI 4) dX3_spreadAcross_22 (by decide) ?_
        refine q_icmpgeN C (tgt := 60) dX3_spreadAcross_23 (by decide) (by omega) (by omega) (fun c23 => ?_) (fun c23 => ?_)
        · exact absurd c23 (by omega)
        · refine q_lload C dX3_spreadAcross_26 rfl ?_
          refine q_aload_n C dX3_spreadAcross_28 rfl ?_
          refine q_iload_n C dX3_spreadAcross_29 rfl ?_
          refine q_iload_n C dX3_spreadAcross_30 rfl ?_
          refine q_isubN C dX3_spreadAcross_31 (by omega) ?_
          refine q_iload C dX3_spreadAcross_32 rfl ?_
          refine q_iaddN C dX3_spreadAcross_34 ?_
          refine x_laldN C dX3_spreadAcross_35 (la_Swords hM) (by decide) (by omega) ?_
          refine q_bipush C (v := nI 16) dX3_spreadAcross_36 (by decide) ?_
          refine q_iload_n C dX3_spreadAcross_38 rfl ?_
          refine q_imulN C dX3_spreadAcross_39 ?_
          refine q_lushr C dX3_spreadAcross_40 ?_
          refine q_ldc2 C dX3_spreadAcross_41 (List.mem_of_getElem? (i := 1) rfl) ?_
          refine q_land C dX3_spreadAcross_44 ?_
          refine q_bipush C (v := nI 16) dX3_spreadAcross_45 (by decide) ?_
          refine q_iload C dX3_spreadAcross_47 rfl ?_
          refine q_imulN C dX3_spreadAcross_49 ?_
          refine q_lshl C dX3_spreadAcross_50 ?_
          refine q_lor C dX3_spreadAcross_51 ?_
          refine q_lstore C dX3_spreadAcross_52 (by decide) rfl ?_
          refine q_iinc1 C dX3_spreadAcross_54 rfl (by decide) rfl ?_
          refine q_goto C (tgt := 20) dX3_spreadAcross_57 (by decide) ?_
          exact q_mask [true, true, true, true, true, false, true] (ih_y _ _ _ ⟨rfl, rfl, fun i hi => by
            rw [kb_bit_or, hJ i hi, kb_msk (Nat.mod_lt _ (by decide)) _ hk_y hi]
            by_cases e1 : i / 16 < y
            · simp [e1, show i / 16 < y + 1 by omega, show ¬ i / 16 = y by omega]
            · by_cases e2 : i / 16 = y
              · subst e2; simp
              · simp [e1, e2, show ¬ i / 16 < y + 1 by omega]⟩)
      · intro jn X2 Y2 hI_y
        obtain ⟨rfl, rfl, hJ⟩ := hI_y
        refine q_iload C dX3_spreadAcross_20 rfl ?_
        refine q_iconst C (v := nI 4) dX3_spreadAcross_22 (by decide) ?_
        refine q_icmpgeN C (tgt := 60) dX3_spreadAcross_23 (by decide) (by omega) (by omega) (fun c23 => ?_) (fun c23 => ?_)
        · refine q_aload_n C dX3_spreadAcross_60 rfl ?_
          refine x_getR C (ci := 3) (k := 0) (C0 := RX3) (T := TX3) (NF := 1) (ref := RX3) (host := RX4) dX3_spreadAcross_61 (fr_Swords hS) rfl iX3_spreadAcross_X3 (by decide) (List.mem_of_getElem? (i := 2) rfl) rfl ?_
          refine q_iload_n C dX3_spreadAcross_64 rfl ?_
          refine q_lload C dX3_spreadAcross_65 rfl ?_
          refine x_lastN C dX3_spreadAcross_67 (la_Swords hS) (by decide) (by omega) ?_
          refine q_iinc1 C dX3_spreadAcross_68 rfl (by decide) rfl ?_
          refine q_goto C (tgt := 2) dX3_spreadAcross_71 (by decide) ?_
          exact q_mask [true, true, true, false, false, false, false] (ih_w0 () _ _ ⟨rfl, fun q hq => by rw [kb_up_ne hq]; exact hI.1 q hq, fun j hj i hi => by
            rw [kb_up_self]
            by_cases e : j = w0
            · subst e; rw [vp_updL, if_pos rfl, hJ i hi]
              have i4 : i / 16 < 4 := by omega
              rw [decide_eq_true i4, Bool.true_and]
              have a1 := kb_across hI.1 hI.2.1 hI.2.2 (m := mm) hk_w0 hi
              exact a1
            · rw [vp_updL, if_neg e]; exact hI.2.1 j (by omega) i hi, fun j hj => by
            rw [kb_up_self, vp_updL, if_neg (by omega)]; exact hI.2.2 j (by omega)⟩)
        · exact absurd c23 (by omega)
  · intro a X1 Y1 hI_w0
    obtain ⟨rfl, hI⟩ := hI_w0
    refine q_iload_n C dX3_spreadAcross_2 rfl ?_
    refine q_bipush C (v := nI 64) dX3_spreadAcross_3 (by decide) ?_
    refine q_icmpgeN C (tgt := 74) dX3_spreadAcross_5 (by decide) (by omega) (by omega) (fun c5 => ?_) (fun c5 => ?_)
    · exact q_vret C dX3_spreadAcross_74 ⟨rfl, _, rfl, hI.1, hI.2.1⟩
    · exact absurd c5 (by omega)

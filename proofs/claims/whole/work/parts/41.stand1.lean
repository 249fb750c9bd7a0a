/-! ===== Standings: fill, having, keep, keepEither, spread and its three, has, firstShared ===== -/
/-- all longs but those of cell a are as they were -/
def kb_sy (a : Nat) (Y Y' : Nat → Nat → Int64) : Prop := ∀ q, q ≠ a → Y' q = Y q
theorem iX3_fill_X3 : ∀ w ∈ wsX30, w ∈ wsX3_fill := fun _ h => List.mem_cons_of_mem _ (by first | exact h | exact List.mem_append_right _ h | exact List.mem_append_left _ (List.mem_append_right _ h) | exact List.mem_append_left _ (List.mem_append_left _ (List.mem_append_right _ h)) | exact List.mem_append_left _ (List.mem_append_left _ (List.mem_append_left _ (List.mem_append_right _ h))) | exact List.mem_append_left _ (List.mem_append_left _ (List.mem_append_left _ (List.mem_append_left _ (List.mem_append_right _ h)))) | exact List.mem_append_left _ (List.mem_append_left _ (List.mem_append_left _ (List.mem_append_left _ (List.mem_append_left _ (List.mem_append_right _ h))))))
set_option maxRecDepth 100000 in
set_option maxHeartbeats 4000000 in
/-- X3.fill -/
theorem m_fill (l : Launch) (E : kb_E) (X : Nat → Nat → Int32) (Y : Nat → Nat → Int64) (n : Nat) (hS : kb_SN n) : kb_Met l E 202 yX3_fill wsX3_fill ({ frames := 0, cells := 0, slots := 0, locals := 0 }) [.ref (E.2.2.2 n)] (kb_ent E X Y) (fun v g' => v = none ∧ ∃ Y', g' = kb_ent E X Y' ∧ kb_sy (n + 1) Y Y' ∧ ∀ j, j < 64 → Y' (n + 1) j = -1) := by
  refine kb_enter (cc := cX3_fill) (maxL := 2) (ret := none) (by decide +kernel) rfl (by simp [Value.category]) (Nat.le_of_ble_eq_true rfl) ?_
  intro p e s m args below meth c C hini
  refine q_iconst C (v := nI 0) dX3_fill_0 (by decide) ?_
  refine q_istore_n C dX3_fill_1 (by decide) rfl ?_
  refine q_mask [true, true] (q_for (σ := Unit) (k0 := 0) (64) (fun k _ X' Y' => X = X' ∧ kb_sy (n + 1) Y Y' ∧ ∀ j, j < k → Y' (n + 1) j = -1) (fun k _ => [some (.ref (E.2.2.2 n)), some (.int (nI k))]) (Nat.zero_le _) () (⟨rfl, fun _ _ => rfl, fun j hj => absurd hj (Nat.not_lt_zero _)⟩) ?_ ?_)
  · intro w0 a X1 Y1 hk_w0 hk0_w0 hI_w0 ih_w0
    obtain ⟨rfl, hI⟩ := hI_w0
    refine q_iload_n C dX3_fill_2 rfl ?_
    refine q_bipush C (v := nI 64) dX3_fill_3 (by decide) ?_
    refine q_icmpgeN C (tgt := 23) dX3_fill_5 (by decide) (by omega) (by omega) (fun c5 => ?_) (fun c5 => ?_)
    · exact absurd c5 (by omega)
    · refine q_aload_n C dX3_fill_8 rfl ?_
      refine x_getR C (ci := 3) (k := 0) (C0 := RX3) (T := TX3) (NF := 1) (ref := RX3) (host := RX4) dX3_fill_9 (fr_Swords hS) rfl iX3_fill_X3 (by decide) (List.mem_of_getElem? (i := 1) rfl) rfl ?_
      refine q_iload_n C dX3_fill_12 rfl ?_
      refine q_ldc2 C dX3_fill_13 (List.mem_of_getElem? (i := 2) rfl) ?_
      refine x_lastN C dX3_fill_16 (la_Swords hS) (by decide) (by omega) ?_
      refine q_iinc1 C dX3_fill_17 rfl (by decide) rfl ?_
      refine q_goto C (tgt := 2) dX3_fill_20 (by decide) ?_
      exact q_mask [true, true] (ih_w0 () _ _ ⟨rfl, fun q hq => by rw [kb_up_ne hq]; exact hI.1 q hq, fun j hj => by
        rw [kb_up_self]
        by_cases e : j = w0
        · subst e; rw [vp_updL, if_pos rfl]
        · rw [vp_updL, if_neg e]; exact hI.2 j (by omega)⟩)
  · intro a X1 Y1 hI_w0
    obtain ⟨rfl, hI⟩ := hI_w0
    refine q_iload_n C dX3_fill_2 rfl ?_
    refine q_bipush C (v := nI 64) dX3_fill_3 (by decide) ?_
    refine q_icmpgeN C (tgt := 23) dX3_fill_5 (by decide) (by omega) (by omega) (fun c5 => ?_) (fun c5 => ?_)
    · exact q_vret C dX3_fill_23 ⟨rfl, _, rfl, hI⟩
    · exact absurd c5 (by omega)
theorem nv_w {w p : Nat} (hw : w < 64) (hp : p < 3) : (nI w >>> (nI (2 * (2 - p)) &&& 31)) &&& nI 3 = nI (w / 4 ^ (2 - p) % 4) := by
  rw [nv_shr (by omega) (by omega), nv_and3 (by have := Nat.div_le_self w (4 ^ (2 - p)); omega)]
set_option maxRecDepth 100000 in
set_option maxHeartbeats 4000000 in
/-- X3.having -/
theorem m_having (l : Launch) (E : kb_E) (X : Nat → Nat → Int32) (Y : Nat → Nat → Int64) (w0 p0 c0 : Nat) (hw : w0 < 64) (hp : p0 < 6) (hc : c0 < 4) : kb_Met l E 202 yX3_having wsX3_having ({ frames := 0, cells := 0, slots := 0, locals := 0 }) [.int (nI w0), .int (nI p0), .int (nI c0)] (kb_ent E X Y) (fun v g' => v = some (.long (kb_hav w0 p0 c0)) ∧ g' = kb_ent E X Y) := by
  refine kb_enter (cc := cX3_having) (maxL := 3) (ret := (some .long)) (by decide +kernel) rfl (by simp [Value.category]) (Nat.le_of_ble_eq_true rfl) ?_
  intro p e s m args below meth c C hini
  rcases (show p0 = 3 ∨ p0 = 4 ∨ p0 = 5 ∨ p0 < 3 by omega) with rfl | rfl | rfl | hp3
  · refine q_iload_n C dX3_having_0 rfl ?_
    refine q_tableIn C (off := 27) (tgt := 28) dX3_having_1 (by decide) (by decide) (by decide) (by decide) ?_
    refine q_ldc2 C dX3_having_28 (List.mem_of_getElem? (i := 1) rfl) ?_
    refine q_bipush C (v := nI 16) dX3_having_31 (by decide) ?_
    refine q_iload_n C dX3_having_33 rfl ?_
    refine q_imulN C dX3_having_34 ?_
    refine q_lshl C dX3_having_35 ?_
    exact q_lret C dX3_having_36 ⟨by rfl, rfl⟩
  · refine q_iload_n C dX3_having_0 rfl ?_
    refine q_tableIn C (off := 36) (tgt := 37) dX3_having_1 (by decide) (by decide) (by decide) (by decide) ?_
    refine q_ldc2 C dX3_having_37 (List.mem_of_getElem? (i := 2) rfl) ?_
    refine q_iconst C (v := nI 4) dX3_having_40 (by decide) ?_
    refine q_iload_n C dX3_having_41 rfl ?_
    refine q_imulN C dX3_having_42 ?_
    refine q_lshl C dX3_having_43 ?_
    exact q_lret C dX3_having_44 ⟨by rfl, rfl⟩
  · refine q_iload_n C dX3_having_0 rfl ?_
    refine q_tableIn C (off := 44) (tgt := 45) dX3_having_1 (by decide) (by decide) (by decide) (by decide) ?_
    refine q_ldc2 C dX3_having_45 (List.mem_of_getElem? (i := 3) rfl) ?_
    refine q_iload_n C dX3_having_48 rfl ?_
    refine q_lshl C dX3_having_49 ?_
    exact q_lret C dX3_having_50 ⟨by rfl, rfl⟩
  · refine q_iload_n C dX3_having_0 rfl ?_
    refine q_tableOut C (tgt := 51) dX3_having_1 (Or.inl (by rw [nI_toInt (by omega)]; omega)) (by decide) ?_
    refine q_iload_n C dX3_having_51 rfl ?_
    refine q_iconst C (v := nI 2) dX3_having_52 (by decide) ?_
    refine q_iconst C (v := nI 2) dX3_having_53 (by decide) ?_
    refine q_iload_n C dX3_having_54 rfl ?_
    refine q_isubN C dX3_having_55 (by omega) ?_
    refine q_imulN C dX3_having_56 ?_
    refine q_ishr C dX3_having_57 ?_
    refine q_iconst C (v := nI 3) dX3_having_58 (by decide) ?_
    refine q_iand C dX3_having_59 ?_
    refine q_top (show Value.int _ = Value.int _ from congrArg Value.int (nv_w hw hp3)) ?_
    refine q_iload_n C dX3_having_60 rfl ?_
    refine q_icmpneN C (tgt := 70) dX3_having_61 (by decide) (by omega) (by omega) (fun c61 => ?_) (fun c61 => ?_)
    · refine q_lconst C (v := 0) dX3_having_70 rfl ?_
      exact q_lret C dX3_having_71 ⟨by rw [kb_hav, if_neg (by omega), if_neg (by omega), if_neg (by omega)]; first | rw [if_pos c61] | rw [if_neg c61], rfl⟩
    · refine q_ldc2 C dX3_having_64 (List.mem_of_getElem? (i := 4) rfl) ?_
      refine q_goto C (tgt := 71) dX3_having_67 (by decide) ?_
      exact q_lret C dX3_having_71 ⟨by rw [kb_hav, if_neg (by omega), if_neg (by omega), if_neg (by omega)]; first | rw [if_pos c61] | rw [if_neg c61], rfl⟩
theorem iX3_keep_X3 : ∀ w ∈ wsX30, w ∈ wsX3_keep := fun _ h => List.mem_cons_of_mem _ (by first | exact h | exact List.mem_append_right _ h | exact List.mem_append_left _ (List.mem_append_right _ h) | exact List.mem_append_left _ (List.mem_append_left _ (List.mem_append_right _ h)) | exact List.mem_append_left _ (List.mem_append_left _ (List.mem_append_left _ (List.mem_append_right _ h))) | exact List.mem_append_left _ (List.mem_append_left _ (List.mem_append_left _ (List.mem_append_left _ (List.mem_append_right _ h)))) | exact List.mem_append_left _ (List.mem_append_left _ (List.mem_append_left _ (List.mem_append_left _ (List.mem_append_left _ (List.mem_append_right _ h))))))
set_option maxRecDepth 100000 in
set_option maxHeartbeats 4000000 in
/-- X3.keep -/
theorem m_keep (l : Launch) (E : kb_E) (X : Nat → Nat → Int32) (Y : Nat → Nat → Int64) (n p0 c0 : Nat) (hS : kb_SN n) (hp : p0 < 6) (hc : c0 < 4) : kb_Met l E 202 yX3_keep wsX3_keep ({ frames := 1, cells := 0, slots := 0, locals := 22 }) [.ref (E.2.2.2 n), .int (nI p0), .int (nI c0)] (kb_ent E X Y) (fun v g' => v = none ∧ ∃ Y', g' = kb_ent E X Y' ∧ kb_sy (n + 1) Y Y' ∧ ∀ j, j < 64 → Y' (n + 1) j = Y (n + 1) j &&& kb_hav j p0 c0) := by
  refine kb_enter (cc := cX3_keep) (maxL := 4) (ret := none) (by decide +kernel) rfl (by simp [Value.category]) (Nat.le_of_ble_eq_true rfl) ?_
  intro p e s m args below meth c C hini
  refine q_iconst C (v := nI 0) dX3_keep_0 (by decide) ?_
  refine q_istore_n C dX3_keep_1 (by decide) rfl ?_
  refine q_mask [true, true, true, true] (q_for (σ := Unit) (k0 := 0) (64) (fun k _ X' Y' => X = X' ∧ kb_sy (n + 1) Y Y' ∧ (∀ j, j < k → Y' (n + 1) j = Y (n + 1) j &&& kb_hav j p0 c0) ∧ ∀ j, k ≤ j → Y' (n + 1) j = Y (n + 1) j) (fun k _ => [some (.ref (E.2.2.2 n)), some (.int (nI p0)), some (.int (nI c0)), some (.int (nI k))]) (Nat.zero_le _) () (⟨rfl, fun _ _ => rfl, fun j hj => absurd hj (Nat.not_lt_zero _), fun _ _ => rfl⟩) ?_ ?_)
  · intro w0 a X1 Y1 hk_w0 hk0_w0 hI_w0 ih_w0
    obtain ⟨rfl, hI⟩ := hI_w0
    refine q_iload_n C dX3_keep_2 rfl ?_
    refine q_bipush C (v := nI 64) dX3_keep_3 (by decide) ?_
    refine q_icmpgeN C (tgt := 29) dX3_keep_5 (by decide) (by omega) (by omega) (fun c5 => ?_) (fun c5 => ?_)
    · exact absurd c5 (by omega)
    · refine q_aload_n C dX3_keep_8 rfl ?_
      refine x_getR C (ci := 3) (k := 0) (C0 := RX3) (T := TX3) (NF := 1) (ref := RX3) (host := RX4) dX3_keep_9 (fr_Swords hS) rfl iX3_keep_X3 (by decide) (List.mem_of_getElem? (i := 1) rfl) rfl ?_
      refine q_iload_n C dX3_keep_12 rfl ?_
      refine q_dup2 C dX3_keep_13 rfl rfl ?_
      refine x_laldN C dX3_keep_14 (la_Swords hS) (by decide) (by omega) ?_
      refine q_iload_n C dX3_keep_15 rfl ?_
      refine q_iload_n C dX3_keep_16 rfl ?_
      refine q_iload_n C dX3_keep_17 rfl ?_
      refine q_callS (As := [_, _, _]) (nA := 3) C dX3_keep_18 (m_having _ _ _ _ w0 p0 c0 hk_w0 hp hc) gX3_keep_X3_having rfl (by decide +kernel) rfl ⟨Nat.le_of_ble_eq_true rfl, Nat.le_of_ble_eq_true rfl⟩ (Nat.le_of_ble_eq_true rfl) ⟨Nat.le_of_ble_eq_true rfl, Nat.le_of_ble_eq_true rfl⟩ (fun v18 g18 h18 => ?_)
      obtain ⟨rfl, rfl⟩ := h18
      refine q_land C dX3_keep_21 ?_
      refine x_lastN C dX3_keep_22 (la_Swords hS) (by decide) (by omega) ?_
      refine q_iinc1 C dX3_keep_23 rfl (by decide) rfl ?_
      refine q_goto C (tgt := 2) dX3_keep_26 (by decide) ?_
      exact q_mask [true, true, true, true] (ih_w0 () _ _ ⟨rfl, fun q hq => by rw [kb_up_ne hq]; exact hI.1 q hq, fun j hj => by
        rw [kb_up_self]
        by_cases e : j = w0
        · subst e; rw [vp_updL, if_pos rfl, hI.2.2 j (Nat.le_refl _)]
        · rw [vp_updL, if_neg e]; exact hI.2.1 j (by omega), fun j hj => by
        rw [kb_up_self, vp_updL, if_neg (by omega)]; exact hI.2.2 j (by omega)⟩)
  · intro a X1 Y1 hI_w0
    obtain ⟨rfl, hI⟩ := hI_w0
    refine q_iload_n C dX3_keep_2 rfl ?_
    refine q_bipush C (v := nI 64) dX3_keep_3 (by decide) ?_
    refine q_icmpgeN C (tgt := 29) dX3_keep_5 (by decide) (by omega) (by omega) (fun c5 => ?_) (fun c5 => ?_)
    · exact q_vret C dX3_keep_29 ⟨rfl, _, rfl, hI.1, hI.2.1⟩
    · exact absurd c5 (by omega)
theorem iX3_keepEither_X3 : ∀ w ∈ wsX30, w ∈ wsX3_keepEither := fun _ h => List.mem_cons_of_mem _ (by first | exact h | exact List.mem_append_right _ h | exact List.mem_append_left _ (List.mem_append_right _ h) | exact List.mem_append_left _ (List.mem_append_left _ (List.mem_append_right _ h)) | exact List.mem_append_left _ (List.mem_append_left _ (List.mem_append_left _ (List.mem_append_right _ h))) | exact List.mem_append_left _ (List.mem_append_left _ (List.mem_append_left _ (List.mem_append_left _ (List.mem_append_right _ h)))) | exact List.mem_append_left _ (List.mem_append_left _ (List.mem_append_left _ (List.mem_append_left _ (List.mem_append_left _ (List.mem_append_right _ h))))))
set_option maxRecDepth 100000 in
set_option maxHeartbeats 4000000 in
/-- X3.keepEither -/
theorem m_keepEither (l : Launch) (E : kb_E) (X : Nat → Nat → Int32) (Y : Nat → Nat → Int64) (n p0 c0 : Nat) (hS : kb_SN n) (hp : p0 < 5) (hc : c0 < 4) : kb_Met l E 202 yX3_keepEither wsX3_keepEither ({ frames := 1, cells := 0, slots := 0, locals := 22 }) [.ref (E.2.2.2 n), .int (nI p0), .int (nI c0)] (kb_ent E X Y) (fun v g' => v = none ∧ ∃ Y', g' = kb_ent E X Y' ∧ kb_sy (n + 1) Y Y' ∧ ∀ j, j < 64 → Y' (n + 1) j = Y (n + 1) j &&& (kb_hav j p0 c0 ||| kb_hav j (p0 + 1) c0)) := by
  refine kb_enter (cc := cX3_keepEither) (maxL := 4) (ret := none) (by decide +kernel) rfl (by simp [Value.category]) (Nat.le_of_ble_eq_true rfl) ?_
  intro p e s m args below meth c C hini
  refine q_iconst C (v := nI 0) dX3_keepEither_0 (by decide) ?_
  refine q_istore_n C dX3_keepEither_1 (by decide) rfl ?_
  refine q_mask [true, true, true, true] (q_for (σ := Unit) (k0 := 0) (64) (fun k _ X' Y' => X = X' ∧ kb_sy (n + 1) Y Y' ∧ (∀ j, j < k → Y' (n + 1) j = Y (n + 1) j &&& (kb_hav j p0 c0 ||| kb_hav j (p0 + 1) c0)) ∧ ∀ j, k ≤ j → Y' (n + 1) j = Y (n + 1) j) (fun k _ => [some (.ref (E.2.2.2 n)), some (.int (nI p0)), some (.int (nI c0)), some (.int (nI k))]) (Nat.zero_le _) () (⟨rfl, fun _ _ => rfl, fun j hj => absurd hj (Nat.not_lt_zero _), fun _ _ => rfl⟩) ?_ ?_)
  · intro w0 a X1 Y1 hk_w0 hk0_w0 hI_w0 ih_w0
    obtain ⟨rfl, hI⟩ := hI_w0
    refine q_iload_n C dX3_keepEither_2 rfl ?_
    refine q_bipush C (v := nI 64) dX3_keepEither_3 (by decide) ?_
    refine q_icmpgeN C (tgt := 38) dX3_keepEither_5 (by decide) (by omega) (by omega) (fun c5 => ?_) (fun c5 => ?_)
    · exact absurd c5 (by omega)
    · refine q_aload_n C dX3_keepEither_8 rfl ?_
      refine x_getR C (ci := 3) (k := 0) (C0 := RX3) (T := TX3) (NF := 1) (ref := RX3) (host := RX4) dX3_keepEither_9 (fr_Swords hS) rfl iX3_keepEither_X3 (by decide) (List.mem_of_getElem? (i := 1) rfl) rfl ?_
      refine q_iload_n C dX3_keepEither_12 rfl ?_
      refine q_dup2 C dX3_keepEither_13 rfl rfl ?_
      refine x_laldN C dX3_keepEither_14 (la_Swords hS) (by decide) (by omega) ?_
      refine q_iload_n C dX3_keepEither_15 rfl ?_
      refine q_iload_n C dX3_keepEither_16 rfl ?_
      refine q_iload_n C dX3_keepEither_17 rfl ?_
      refine q_callS (As := [_, _, _]) (nA := 3) C dX3_keepEither_18 (m_having _ _ _ _ w0 p0 c0 hk_w0 (by omega) hc) gX3_keepEither_X3_having rfl (by decide +kernel) rfl ⟨Nat.le_of_ble_eq_true rfl, Nat.le_of_ble_eq_true rfl⟩ (Nat.le_of_ble_eq_true rfl) ⟨Nat.le_of_ble_eq_true rfl, Nat.le_of_ble_eq_true rfl⟩ (fun v18 g18 h18 => ?_)
      obtain ⟨rfl, rfl⟩ := h18
      refine q_iload_n C dX3_keepEither_21 rfl ?_
      refine q_iload_n C dX3_keepEither_22 rfl ?_
      refine q_iconst C (v := nI 1) dX3_keepEither_23 (by decide) ?_
      refine q_iaddN C dX3_keepEither_24 ?_
      refine q_iload_n C dX3_keepEither_25 rfl ?_
      refine q_callS (As := [_, _, _]) (nA := 3) C dX3_keepEither_26 (m_having _ _ _ _ w0 (p0 + 1) c0 hk_w0 (by omega) hc) gX3_keepEither_X3_having rfl (by decide +kernel) rfl ⟨Nat.le_of_ble_eq_true rfl, Nat.le_of_ble_eq_true rfl⟩ (Nat.le_of_ble_eq_true rfl) ⟨Nat.le_of_ble_eq_true rfl, Nat.le_of_ble_eq_true rfl⟩ (fun v26 g26 h26 => ?_)
      obtain ⟨rfl, rfl⟩ := h26
      refine q_lor C dX3_keepEither_29 ?_
      refine q_land C dX3_keepEither_30 ?_
      refine x_lastN C dX3_keepEither_31 (la_Swords hS) (by decide) (by omega) ?_
      refine q_iinc1 C dX3_keepEither_32 rfl (by decide) rfl ?_
      refine q_goto C (tgt := 2) dX3_keepEither_35 (by decide) ?_
      exact q_mask [true, true, true, true] (ih_w0 () _ _ ⟨rfl, fun q hq => by rw [kb_up_ne hq]; exact hI.1 q hq, fun j hj => by
        rw [kb_up_self]
        by_cases e : j = w0
        · subst e; rw [vp_updL, if_pos rfl, hI.2.2 j (Nat.le_refl _)]
        · rw [vp_updL, if_neg e]; exact hI.2.1 j (by omega), fun j hj => by
        rw [kb_up_self, vp_updL, if_neg (by omega)]; exact hI.2.2 j (by omega)⟩)
  · intro a X1 Y1 hI_w0
    obtain ⟨rfl, hI⟩ := hI_w0
    refine q_iload_n C dX3_keepEither_2 rfl ?_
    refine q_bipush C (v := nI 64) dX3_keepEither_3 (by decide) ?_
    refine q_icmpgeN C (tgt := 38) dX3_keepEither_5 (by decide) (by omega) (by omega) (fun c5 => ?_) (fun c5 => ?_)
    · exact q_vret C dX3_keepEither_38 ⟨rfl, _, rfl, hI.1, hI.2.1⟩
    · exact absurd c5 (by omega)
theorem kb_tst {x : Int64} {i : Nat} (hi : i < 64) : ((x.toUInt64 >>> ((nI i).toInt64.toUInt64 &&& Int64.toUInt64 63)).toInt64 &&& 1) = 0 ↔ kb_bit x i = false := by
  obtain ⟨n, hn, rfl⟩ := wb_of x
  rw [wb_bit hn hi, kb_bit_lN hn]
  have e : n.testBit i = (n / 2 ^ i % 2 == 1) := by rw [Nat.testBit_eq_decide_div_mod_eq]; rfl
  rw [e]
  rcases Nat.mod_two_eq_zero_or_one (n / 2 ^ i) with q | q
  · rw [q]; exact ⟨fun _ => rfl, fun _ => rfl⟩
  · rw [q]
    constructor
    · intro h; exact absurd h (by decide)
    · intro h; exact absurd h (by decide)
theorem nv_and63 {s : Nat} (hs : s < 2 ^ 32) : nI s &&& nI 63 = nI (s % 64) := pk_andN hs 6 (by decide)
theorem nv_shr6 {s : Nat} (hs : s < 4096) : nI s >>> (nI 6 &&& 31) = nI (s / 64) := nv_shr (j := 3) (by omega) (by decide)
theorem iX3_has_X3 : ∀ w ∈ wsX30, w ∈ wsX3_has := fun _ h => List.mem_cons_of_mem _ (by first | exact h | exact List.mem_append_right _ h | exact List.mem_append_left _ (List.mem_append_right _ h) | exact List.mem_append_left _ (List.mem_append_left _ (List.mem_append_right _ h)) | exact List.mem_append_left _ (List.mem_append_left _ (List.mem_append_left _ (List.mem_append_right _ h))) | exact List.mem_append_left _ (List.mem_append_left _ (List.mem_append_left _ (List.mem_append_left _ (List.mem_append_right _ h)))) | exact List.mem_append_left _ (List.mem_append_left _ (List.mem_append_left _ (List.mem_append_left _ (List.mem_append_left _ (List.mem_append_right _ h))))))
set_option maxRecDepth 100000 in
set_option maxHeartbeats 4000000 in
/-- X3.has -/
theorem m_has (l : Launch) (E : kb_E) (X : Nat → Nat → Int32) (Y : Nat → Nat → Int64) (n st0 : Nat) (hS : kb_SN n) (hs : st0 < 4096) : kb_Met l E 202 yX3_has wsX3_has ({ frames := 0, cells := 0, slots := 0, locals := 0 }) [.ref (E.2.2.2 n), .int (nI st0)] (kb_ent E X Y) (fun v g' => ∃ f, v = some (.int f) ∧ kb_flag (kb_has (Y (n + 1)) st0 = true) f ∧ g' = kb_ent E X Y) := by
  refine kb_enter (cc := cX3_has) (maxL := 2) (ret := (some .boolean)) (by decide +kernel) rfl (by simp [Value.category]) (Nat.le_of_ble_eq_true rfl) ?_
  intro p e s m args below meth c C hini
  refine q_aload_n C dX3_has_0 rfl ?_
  refine x_getR C (ci := 3) (k := 0) (C0 := RX3) (T := TX3) (NF := 1) (ref := RX3) (host := RX4) dX3_has_1 (fr_Swords hS) rfl iX3_has_X3 (by decide) (List.mem_of_getElem? (i := 1) rfl) rfl ?_
  refine q_iload_n C dX3_has_4 rfl ?_
  refine q_bipush C (v := nI 6) dX3_has_5 (by decide) ?_
  refine q_ishr C dX3_has_7 ?_
  refine q_top (show Value.int _ = Value.int _ from congrArg Value.int (nv_shr6 hs)) ?_
  refine x_laldN C dX3_has_8 (la_Swords hS) (by decide) (by omega) ?_
  refine q_iload_n C dX3_has_9 rfl ?_
  refine q_bipush C (v := nI 63) dX3_has_10 (by decide) ?_
  refine q_iand C dX3_has_12 ?_
  refine q_top (show Value.int _ = Value.int _ from congrArg Value.int (nv_and63 (by omega))) ?_
  refine q_lushr C dX3_has_13 ?_
  refine q_lconst C (v := 1) dX3_has_14 rfl ?_
  refine q_land C dX3_has_15 ?_
  refine q_lconst C (v := 0) dX3_has_16 rfl ?_
  refine q_lcmp C dX3_has_17 ?_
  refine q_ifeq C (tgt := 25) dX3_has_18 (by decide) (fun c18 => ?_) (fun c18 => ?_)
  · have hb := (kb_tst (by omega)).mp ((lg_cmp_eq _ _).mp c18)
    refine q_iconst C (v := nI 0) dX3_has_25 (by decide) ?_
    exact q_zret C dX3_has_26 (by decide) ⟨_, rfl, by first | exact Or.inl ⟨rfl, hb⟩ | exact Or.inr ⟨rfl, fun h => by rw [show kb_has (Y (n + 1)) st0 = false from hb] at h; cases h⟩, rfl⟩
  · have hb : kb_has (Y (n + 1)) st0 = true := by
      cases q : kb_has (Y (n + 1)) st0 with
      | true => rfl
      | false => exact absurd ((lg_cmp_eq _ _).mpr ((kb_tst (by omega)).mpr q)) c18
    refine q_iconst C (v := nI 1) dX3_has_21 (by decide) ?_
    refine q_goto C (tgt := 26) dX3_has_22 (by decide) ?_
    exact q_zret C dX3_has_26 (by decide) ⟨_, rfl, by first | exact Or.inl ⟨rfl, hb⟩ | exact Or.inr ⟨rfl, fun h => by rw [show kb_has (Y (n + 1)) st0 = false from hb] at h; cases h⟩, rfl⟩

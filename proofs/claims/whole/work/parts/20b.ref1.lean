/-! ===== the reference: its small methods ===== -/
theorem iX5_thrown_X5 : ∀ w ∈ wsX50, w ∈ wsX5_thrown := fun _ h => List.mem_cons_of_mem _ (by first | exact h | exact List.mem_append_right _ h | exact List.mem_append_left _ (List.mem_append_right _ h) | exact List.mem_append_left _ (List.mem_append_left _ (List.mem_append_right _ h)) | exact List.mem_append_left _ (List.mem_append_left _ (List.mem_append_left _ (List.mem_append_right _ h))) | exact List.mem_append_left _ (List.mem_append_left _ (List.mem_append_left _ (List.mem_append_left _ (List.mem_append_right _ h)))) | exact List.mem_append_left _ (List.mem_append_left _ (List.mem_append_left _ (List.mem_append_left _ (List.mem_append_left _ (List.mem_append_right _ h))))))
set_option maxRecDepth 100000 in
set_option maxHeartbeats 4000000 in
/-- X5.thrown -/
theorem m_thrown (l : Launch) (E : kb_E) (X : Nat → Nat → Int32) (Y : Nat → Nat → Int64) : kb_Met l E 202 yX5_thrown wsX5_thrown ({ frames := 0, cells := 0, slots := 0, locals := 0 }) [.ref (E.2.2.2 188)] (kb_ent E X Y) (fun v g' => v = some (.int (X 188 0)) ∧ g' = kb_ent E X Y) := by
  refine kb_enter (cc := cX5_thrown) (maxL := 1) (ret := (some .int)) (by decide +kernel) rfl (by simp [Value.category]) (Nat.le_of_ble_eq_true rfl) ?_
  intro p e s m args below meth c C hini
  refine q_aload_n C dX5_thrown_0 rfl ?_
  refine x_getI C (ci := 5) (k := 0) (C0 := RX5) (T := TX5) (NF := 15) (ref := RX5) (host := RX4) dX5_thrown_1 fi_Mthw rfl iX5_thrown_X5 (by decide) (List.mem_of_getElem? (i := 1) rfl) rfl ?_
  exact q_iret C dX5_thrown_4 ⟨rfl, rfl⟩
theorem iX5_right_X5 : ∀ w ∈ wsX50, w ∈ wsX5_right := fun _ h => List.mem_cons_of_mem _ (by first | exact h | exact List.mem_append_right _ h | exact List.mem_append_left _ (List.mem_append_right _ h) | exact List.mem_append_left _ (List.mem_append_left _ (List.mem_append_right _ h)) | exact List.mem_append_left _ (List.mem_append_left _ (List.mem_append_left _ (List.mem_append_right _ h))) | exact List.mem_append_left _ (List.mem_append_left _ (List.mem_append_left _ (List.mem_append_left _ (List.mem_append_right _ h)))) | exact List.mem_append_left _ (List.mem_append_left _ (List.mem_append_left _ (List.mem_append_left _ (List.mem_append_left _ (List.mem_append_right _ h))))))
set_option maxRecDepth 100000 in
set_option maxHeartbeats 4000000 in
/-- X5.right -/
theorem m_right (l : Launch) (E : kb_E) (X : Nat → Nat → Int32) (Y : Nat → Nat → Int64) (cd : Prop) (f w : Int32) (h0 : X 188 0 = 0) (hw : ¬ w = 0) (hf : kb_flag cd f) : kb_Met l E 202 yX5_right wsX5_right ({ frames := 0, cells := 0, slots := 0, locals := 0 }) [.ref (E.2.2.2 188), .int f, .int w] (kb_ent E X Y) (fun v g' => (cd ∧ v = some (.int (nI 1)) ∧ g' = kb_ent E X Y) ∨ (¬ cd ∧ v = some (.int (nI 0)) ∧ g' = kb_ent E (kb_thr X w) Y)) := by
  refine kb_enter (cc := cX5_right) (maxL := 3) (ret := (some .boolean)) (by decide +kernel) rfl (by simp [Value.category]) (Nat.le_of_ble_eq_true rfl) ?_
  intro p e s m args below meth c C hini
  rcases hf with ⟨rfl, hcd⟩ | ⟨rfl, hcd⟩
  · refine q_aload_n C dX5_right_0 rfl ?_
    refine x_getI C (ci := 5) (k := 0) (C0 := RX5) (T := TX5) (NF := 15) (ref := RX5) (host := RX4) dX5_right_1 fi_Mthw rfl iX5_right_X5 (by decide) (List.mem_of_getElem? (i := 1) rfl) rfl ?_
    refine q_ifne C (tgt := 16) dX5_right_4 (by decide) (fun c4 => ?_) (fun c4 => ?_)
    · exact absurd h0 c4
    · refine q_iload_n C dX5_right_7 rfl ?_
      refine q_ifne C (tgt := 16) dX5_right_8 (by decide) (fun c8 => ?_) (fun c8 => ?_)
      · refine q_aload_n C dX5_right_16 rfl ?_
        refine x_getI C (ci := 5) (k := 0) (C0 := RX5) (T := TX5) (NF := 15) (ref := RX5) (host := RX4) dX5_right_17 fi_Mthw rfl iX5_right_X5 (by decide) (List.mem_of_getElem? (i := 1) rfl) rfl ?_
        refine q_ifne C (tgt := 27) dX5_right_20 (by decide) (fun c20 => ?_) (fun c20 => ?_)
        · exact absurd h0 c20
        · refine q_iconst C (v := nI 1) dX5_right_23 (by decide) ?_
          refine q_goto C (tgt := 28) dX5_right_24 (by decide) ?_
          exact q_zret C dX5_right_28 (by decide) (Or.inl ⟨hcd, rfl, rfl⟩)
      · exact absurd c8 (by decide)
  · refine q_aload_n C dX5_right_0 rfl ?_
    refine x_getI C (ci := 5) (k := 0) (C0 := RX5) (T := TX5) (NF := 15) (ref := RX5) (host := RX4) dX5_right_1 fi_Mthw rfl iX5_right_X5 (by decide) (List.mem_of_getElem? (i := 1) rfl) rfl ?_
    refine q_ifne C (tgt := 16) dX5_right_4 (by decide) (fun c4 => ?_) (fun c4 => ?_)
    · exact absurd h0 c4
    · refine q_iload_n C dX5_right_7 rfl ?_
      refine q_ifne C (tgt := 16) dX5_right_8 (by decide) (fun c8 => ?_) (fun c8 => ?_)
      · exact absurd rfl c8
      · refine q_aload_n C dX5_right_11 rfl ?_
        refine q_iload_n C dX5_right_12 rfl ?_
        refine x_putI C (ci := 5) (k := 0) (C0 := RX5) (T := TX5) (NF := 15) (ref := RX5) (host := RX4) (ty := .int) dX5_right_13 fi_Mthw rfl iX5_right_X5 tyX5_ok nmX5 (by decide) (List.mem_of_getElem? (i := 1) rfl) rfl rfl (by decide +kernel) rfl rfl ?_
        refine q_aload_n C dX5_right_16 rfl ?_
        refine x_getI C (ci := 5) (k := 0) (C0 := RX5) (T := TX5) (NF := 15) (ref := RX5) (host := RX4) dX5_right_17 fi_Mthw rfl iX5_right_X5 (by decide) (List.mem_of_getElem? (i := 1) rfl) rfl ?_
        refine q_ifne C (tgt := 27) dX5_right_20 (by decide) (fun c20 => ?_) (fun c20 => ?_)
        · refine q_iconst C (v := nI 0) dX5_right_27 (by decide) ?_
          exact q_zret C dX5_right_28 (by decide) (Or.inr ⟨hcd, rfl, rfl⟩)
        · exact absurd (kb_thr_at.symm.trans c20) hw
def kb_mknots (a b : Int32) : Int32 := if b - b / nI 2 * nI 2 = 0 then a / nI 2 else (a - nI 1) / nI 2
set_option maxRecDepth 100000 in
set_option maxHeartbeats 4000000 in
/-- X5.knots -/
theorem m_mknots (l : Launch) (E : kb_E) (g : Nat → va_E) (a b : Int32) : kb_Met l E 202 yX5_knots wsX5_knots ({ frames := 0, cells := 0, slots := 0, locals := 0 }) [.int a, .int b] g (fun v g' => v = some (.int (kb_mknots a b)) ∧ g' = g) := by
  refine kb_enter (cc := cX5_knots) (maxL := 2) (ret := (some .int)) (by decide +kernel) rfl (by simp [Value.category]) (Nat.le_of_ble_eq_true rfl) ?_
  intro p e s m args below meth c C hini
  refine q_iload_n C dX5_knots_0 rfl ?_
  refine q_iconst C (v := nI 2) dX5_knots_1 (by decide) ?_
  refine q_irem C dX5_knots_2 (by decide) ?_
  refine q_ifne C (tgt := 12) dX5_knots_3 (by decide) (fun c3 => ?_) (fun c3 => ?_)
  · refine q_iload_n C dX5_knots_12 rfl ?_
    refine q_iconst C (v := nI 1) dX5_knots_13 (by decide) ?_
    refine q_isub C dX5_knots_14 ?_
    refine q_iconst C (v := nI 2) dX5_knots_15 (by decide) ?_
    refine q_idiv C dX5_knots_16 (by decide) ?_
    exact q_iret C dX5_knots_17 ⟨by first | rw [kb_mknots, if_pos c3] | rw [kb_mknots, if_neg c3], rfl⟩
  · refine q_iload_n C dX5_knots_6 rfl ?_
    refine q_iconst C (v := nI 2) dX5_knots_7 (by decide) ?_
    refine q_idiv C dX5_knots_8 (by decide) ?_
    refine q_goto C (tgt := 17) dX5_knots_9 (by decide) ?_
    exact q_iret C dX5_knots_17 ⟨by first | rw [kb_mknots, if_pos c3] | rw [kb_mknots, if_neg c3], rfl⟩
def kb_mleft (a b : Int32) : Int32 := nI 2 * b + (a - a / nI 2 * nI 2)
set_option maxRecDepth 100000 in
set_option maxHeartbeats 4000000 in
/-- X5.left -/
theorem m_mleft (l : Launch) (E : kb_E) (g : Nat → va_E) (a b : Int32) : kb_Met l E 202 yX5_left wsX5_left ({ frames := 0, cells := 0, slots := 0, locals := 0 }) [.int a, .int b] g (fun v g' => v = some (.int (kb_mleft a b)) ∧ g' = g) := by
  refine kb_enter (cc := cX5_left) (maxL := 2) (ret := (some .int)) (by decide +kernel) rfl (by simp [Value.category]) (Nat.le_of_ble_eq_true rfl) ?_
  intro p e s m args below meth c C hini
  refine q_iconst C (v := nI 2) dX5_left_0 (by decide) ?_
  refine q_iload_n C dX5_left_1 rfl ?_
  refine q_imul C dX5_left_2 ?_
  refine q_iload_n C dX5_left_3 rfl ?_
  refine q_iconst C (v := nI 2) dX5_left_4 (by decide) ?_
  refine q_irem C dX5_left_5 (by decide) ?_
  refine q_iadd C dX5_left_6 ?_
  exact q_iret C dX5_left_7 ⟨rfl, rfl⟩
def kb_okB (X : Nat → Nat → Int32) (b : Int32) : Prop := ¬ b < 0 ∧ ¬ X 188 1 ≤ b
theorem iX5_isBand_X5 : ∀ w ∈ wsX50, w ∈ wsX5_isBand := fun _ h => List.mem_cons_of_mem _ (by first | exact h | exact List.mem_append_right _ h | exact List.mem_append_left _ (List.mem_append_right _ h) | exact List.mem_append_left _ (List.mem_append_left _ (List.mem_append_right _ h)) | exact List.mem_append_left _ (List.mem_append_left _ (List.mem_append_left _ (List.mem_append_right _ h))) | exact List.mem_append_left _ (List.mem_append_left _ (List.mem_append_left _ (List.mem_append_left _ (List.mem_append_right _ h)))) | exact List.mem_append_left _ (List.mem_append_left _ (List.mem_append_left _ (List.mem_append_left _ (List.mem_append_left _ (List.mem_append_right _ h))))))
set_option maxRecDepth 100000 in
set_option maxHeartbeats 4000000 in
/-- X5.isBand -/
theorem m_isBand (l : Launch) (E : kb_E) (X : Nat → Nat → Int32) (Y : Nat → Nat → Int64) (b : Int32) : kb_Met l E 202 yX5_isBand wsX5_isBand ({ frames := 1, cells := 0, slots := 0, locals := 22 }) [.ref (E.2.2.2 188), .int b] (kb_ent E X Y) (fun v g' => (kb_okB X b ∧ v = some (.int (nI 1)) ∧ g' = kb_ent E (kb_thr X (nI 0)) Y) ∨ (¬ kb_okB X b ∧ v = some (.int (nI 0)) ∧ g' = kb_ent E (kb_thr X (nI 1)) Y)) := by
  refine kb_enter (cc := cX5_isBand) (maxL := 2) (ret := (some .boolean)) (by decide +kernel) rfl (by simp [Value.category]) (Nat.le_of_ble_eq_true rfl) ?_
  intro p e s m args below meth c C hini
  refine q_aload_n C dX5_isBand_0 rfl ?_
  refine q_iconst C (v := nI 0) dX5_isBand_1 (by decide) ?_
  refine x_putI C (ci := 5) (k := 0) (C0 := RX5) (T := TX5) (NF := 15) (ref := RX5) (host := RX4) (ty := .int) dX5_isBand_2 fi_Mthw rfl iX5_isBand_X5 tyX5_ok nmX5 (by decide) (List.mem_of_getElem? (i := 1) rfl) rfl rfl (by decide +kernel) rfl rfl ?_
  refine q_aload_n C dX5_isBand_5 rfl ?_
  refine q_cut 23 (P := kb_flag (kb_okB X b)) (fun f23 hf23 => ?_) (fun J23 => ?_)
  · refine q_iconst C (v := nI 1) dX5_isBand_23 (by decide) ?_
    refine x_callV (As := [_, _]) (nA := 2) (T := TX5) (NF := 15) C dX5_isBand_24 ob_M rfl (m_right _ _ _ _ (kb_okB X b) _ _ (by simp [va_up, upd]; rfl) (by decide) hf23) gX5_isBand_X5_right rfl (by decide +kernel) rfl ⟨Nat.le_of_ble_eq_true rfl, Nat.le_of_ble_eq_true rfl⟩ (Nat.le_of_ble_eq_true rfl) ⟨Nat.le_of_ble_eq_true rfl, Nat.le_of_ble_eq_true rfl⟩ (fun v24 g24 h24 => ?_)
    rcases h24 with ⟨hc, rfl, rfl⟩ | ⟨hc, rfl, rfl⟩
    · exact q_zret C dX5_isBand_27 (by decide) (Or.inl ⟨hc, rfl, rfl⟩)
    · exact q_zret C dX5_isBand_27 (by decide) (Or.inr ⟨hc, rfl, by rw [show (va_up X 188 (upd (X 188) 0 (nI 0))) = kb_thr X (nI 0) from rfl, kb_thr_thr]⟩)
  refine q_iload_n C dX5_isBand_6 rfl ?_
  refine q_iflt C (tgt := 22) dX5_isBand_7 (by decide) (fun c7 => ?_) (fun c7 => ?_)
  · refine q_iconst C (v := nI 0) dX5_isBand_22 (by decide) ?_
    exact J23 _ (by first | exact Or.inl ⟨rfl, c7, c15⟩ | exact Or.inr ⟨rfl, fun h => h.1 c7⟩ | exact Or.inr ⟨rfl, fun h => h.2 c15⟩)
  · refine q_iload_n C dX5_isBand_10 rfl ?_
    refine q_aload_n C dX5_isBand_11 rfl ?_
    refine x_getI C (ci := 5) (k := 1) (C0 := RX5) (T := TX5) (NF := 15) (ref := RX5) (host := RX4) dX5_isBand_12 fi_Mbc rfl iX5_isBand_X5 (by decide) (List.mem_of_getElem? (i := 2) rfl) rfl ?_
    refine q_icmpge C (tgt := 22) dX5_isBand_15 (by decide) (fun c15 => ?_) (fun c15 => ?_)
    · refine q_iconst C (v := nI 0) dX5_isBand_22 (by decide) ?_
      exact J23 _ (by first | exact Or.inl ⟨rfl, c7, c15⟩ | exact Or.inr ⟨rfl, fun h => h.1 c7⟩ | exact Or.inr ⟨rfl, fun h => h.2 c15⟩)
    · refine q_iconst C (v := nI 1) dX5_isBand_18 (by decide) ?_
      refine q_goto C (tgt := 23) dX5_isBand_19 (by decide) ?_
      exact J23 _ (by first | exact Or.inl ⟨rfl, c7, c15⟩ | exact Or.inr ⟨rfl, fun h => h.1 c7⟩ | exact Or.inr ⟨rfl, fun h => h.2 c15⟩)
def kb_okP (X : Nat → Nat → Int32) (b : Int32) : Prop := ¬ b < 0 ∧ ¬ X 188 2 ≤ b
theorem iX5_isPicture_X5 : ∀ w ∈ wsX50, w ∈ wsX5_isPicture := fun _ h => List.mem_cons_of_mem _ (by first | exact h | exact List.mem_append_right _ h | exact List.mem_append_left _ (List.mem_append_right _ h) | exact List.mem_append_left _ (List.mem_append_left _ (List.mem_append_right _ h)) | exact List.mem_append_left _ (List.mem_append_left _ (List.mem_append_left _ (List.mem_append_right _ h))) | exact List.mem_append_left _ (List.mem_append_left _ (List.mem_append_left _ (List.mem_append_left _ (List.mem_append_right _ h)))) | exact List.mem_append_left _ (List.mem_append_left _ (List.mem_append_left _ (List.mem_append_left _ (List.mem_append_left _ (List.mem_append_right _ h))))))
set_option maxRecDepth 100000 in
set_option maxHeartbeats 4000000 in
/-- X5.isPicture -/
theorem m_isPicture (l : Launch) (E : kb_E) (X : Nat → Nat → Int32) (Y : Nat → Nat → Int64) (b : Int32) : kb_Met l E 202 yX5_isPicture wsX5_isPicture ({ frames := 1, cells := 0, slots := 0, locals := 22 }) [.ref (E.2.2.2 188), .int b] (kb_ent E X Y) (fun v g' => (kb_okP X b ∧ v = some (.int (nI 1)) ∧ g' = kb_ent E (kb_thr X (nI 0)) Y) ∨ (¬ kb_okP X b ∧ v = some (.int (nI 0)) ∧ g' = kb_ent E (kb_thr X (nI 1)) Y)) := by
  refine kb_enter (cc := cX5_isPicture) (maxL := 2) (ret := (some .boolean)) (by decide +kernel) rfl (by simp [Value.category]) (Nat.le_of_ble_eq_true rfl) ?_
  intro p e s m args below meth c C hini
  refine q_aload_n C dX5_isPicture_0 rfl ?_
  refine q_iconst C (v := nI 0) dX5_isPicture_1 (by decide) ?_
  refine x_putI C (ci := 5) (k := 0) (C0 := RX5) (T := TX5) (NF := 15) (ref := RX5) (host := RX4) (ty := .int) dX5_isPicture_2 fi_Mthw rfl iX5_isPicture_X5 tyX5_ok nmX5 (by decide) (List.mem_of_getElem? (i := 1) rfl) rfl rfl (by decide +kernel) rfl rfl ?_
  refine q_aload_n C dX5_isPicture_5 rfl ?_
  refine q_cut 23 (P := kb_flag (kb_okP X b)) (fun f23 hf23 => ?_) (fun J23 => ?_)
  · refine q_iconst C (v := nI 1) dX5_isPicture_23 (by decide) ?_
    refine x_callV (As := [_, _]) (nA := 2) (T := TX5) (NF := 15) C dX5_isPicture_24 ob_M rfl (m_right _ _ _ _ (kb_okP X b) _ _ (by simp [va_up, upd]; rfl) (by decide) hf23) gX5_isPicture_X5_right rfl (by decide +kernel) rfl ⟨Nat.le_of_ble_eq_true rfl, Nat.le_of_ble_eq_true rfl⟩ (Nat.le_of_ble_eq_true rfl) ⟨Nat.le_of_ble_eq_true rfl, Nat.le_of_ble_eq_true rfl⟩ (fun v24 g24 h24 => ?_)
    rcases h24 with ⟨hc, rfl, rfl⟩ | ⟨hc, rfl, rfl⟩
    · exact q_zret C dX5_isPicture_27 (by decide) (Or.inl ⟨hc, rfl, rfl⟩)
    · exact q_zret C dX5_isPicture_27 (by decide) (Or.inr ⟨hc, rfl, by rw [show (va_up X 188 (upd (X 188) 0 (nI 0))) = kb_thr X (nI 0) from rfl, kb_thr_thr]⟩)
  refine q_iload_n C dX5_isPicture_6 rfl ?_
  refine q_iflt C (tgt := 22) dX5_isPicture_7 (by decide) (fun c7 => ?_) (fun c7 => ?_)
  · refine q_iconst C (v := nI 0) dX5_isPicture_22 (by decide) ?_
    exact J23 _ (by first | exact Or.inl ⟨rfl, c7, c15⟩ | exact Or.inr ⟨rfl, fun h => h.1 c7⟩ | exact Or.inr ⟨rfl, fun h => h.2 c15⟩)
  · refine q_iload_n C dX5_isPicture_10 rfl ?_
    refine q_aload_n C dX5_isPicture_11 rfl ?_
    refine x_getI C (ci := 5) (k := 2) (C0 := RX5) (T := TX5) (NF := 15) (ref := RX5) (host := RX4) dX5_isPicture_12 fi_Mpc rfl iX5_isPicture_X5 (by decide) (List.mem_of_getElem? (i := 2) rfl) rfl ?_
    refine q_icmpge C (tgt := 22) dX5_isPicture_15 (by decide) (fun c15 => ?_) (fun c15 => ?_)
    · refine q_iconst C (v := nI 0) dX5_isPicture_22 (by decide) ?_
      exact J23 _ (by first | exact Or.inl ⟨rfl, c7, c15⟩ | exact Or.inr ⟨rfl, fun h => h.1 c7⟩ | exact Or.inr ⟨rfl, fun h => h.2 c15⟩)
    · refine q_iconst C (v := nI 1) dX5_isPicture_18 (by decide) ?_
      refine q_goto C (tgt := 23) dX5_isPicture_19 (by decide) ?_
      exact J23 _ (by first | exact Or.inl ⟨rfl, c7, c15⟩ | exact Or.inr ⟨rfl, fun h => h.1 c7⟩ | exact Or.inr ⟨rfl, fun h => h.2 c15⟩)
def kb_digit (n s p : Int32) : Int32 := (s >>> ((nI 2 * ((n - nI 1) - p)) &&& 31)) &&& nI 3
set_option maxRecDepth 100000 in
set_option maxHeartbeats 4000000 in
/-- X5.digit -/
theorem m_digit (l : Launch) (E : kb_E) (g : Nat → va_E) (n st p0 : Int32) : kb_Met l E 202 yX5_digit wsX5_digit ({ frames := 0, cells := 0, slots := 0, locals := 0 }) [.int n, .int st, .int p0] g (fun v g' => v = some (.int (kb_digit n st p0)) ∧ g' = g) := by
  refine kb_enter (cc := cX5_digit) (maxL := 3) (ret := (some .int)) (by decide +kernel) rfl (by simp [Value.category]) (Nat.le_of_ble_eq_true rfl) ?_
  intro p e s m args below meth c C hini
  refine q_iload_n C dX5_digit_0 rfl ?_
  refine q_iconst C (v := nI 2) dX5_digit_1 (by decide) ?_
  refine q_iload_n C dX5_digit_2 rfl ?_
  refine q_iconst C (v := nI 1) dX5_digit_3 (by decide) ?_
  refine q_isub C dX5_digit_4 ?_
  refine q_iload_n C dX5_digit_5 rfl ?_
  refine q_isub C dX5_digit_6 ?_
  refine q_imul C dX5_digit_7 ?_
  refine q_ishr C dX5_digit_8 ?_
  refine q_iconst C (v := nI 3) dX5_digit_9 (by decide) ?_
  refine q_iand C dX5_digit_10 ?_
  exact q_iret C dX5_digit_11 ⟨rfl, rfl⟩

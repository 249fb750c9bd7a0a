/-! ===== constructors without loops ===== -/
theorem kb_eS {E X Y} {n : Nat} (h : kb_SN n) : kb_ent E X Y n = .inr (3, [.ref (E.2.2.2 (n + 1))]) := by
  obtain ⟨h1, h2, h3⟩ := h
  rw [kb_ent, if_pos (by omega), if_neg (by omega), if_neg (by omega), if_neg (by omega), if_neg (by omega), if_neg (by omega), if_neg (by omega), if_pos h3]
theorem iX3_init_X3 : ∀ w ∈ wsX30, w ∈ wsX3_init := fun _ h => List.mem_cons_of_mem _ (by first | exact h | exact List.mem_append_right _ h | exact List.mem_append_left _ (List.mem_append_right _ h) | exact List.mem_append_left _ (List.mem_append_left _ (List.mem_append_right _ h)) | exact List.mem_append_left _ (List.mem_append_left _ (List.mem_append_left _ (List.mem_append_right _ h))) | exact List.mem_append_left _ (List.mem_append_left _ (List.mem_append_left _ (List.mem_append_left _ (List.mem_append_right _ h)))) | exact List.mem_append_left _ (List.mem_append_left _ (List.mem_append_left _ (List.mem_append_left _ (List.mem_append_left _ (List.mem_append_right _ h))))))
set_option maxRecDepth 100000 in
set_option maxHeartbeats 4000000 in
theorem k_X3 (l : Launch) (E : kb_E) (g : Nat → va_E) (n0 : Nat) (hS : kb_SN n0) (hg : g (n0) = .inr (3, [.null])) : kb_Mk l E (n0 + 1) (n0 + 2) yX3_init wsX3_init ({ frames := 1, cells := 1, slots := 64, locals := 14 }) (n0) g (fun E' g' => g' = kb_fl (n0) g E') := by
  have hb := hS.2.1
  refine kb_enterK (cc := cX3_init) (maxL := 1) (by decide +kernel) rfl (by decide) rfl ?_
  intro p e s m args below meth c C hini hao
  refine q_aload_n C dX3_init_0 rfl ?_
  refine q_obj C dX3_init_1 (List.mem_of_getElem? (i := 1) rfl) (List.mem_of_getElem? (i := 2) rfl) (List.mem_of_getElem? (i := 3) rfl) (Nat.le_of_ble_eq_true rfl) (Nat.le_of_ble_eq_true rfl) ?_
  refine q_aload_n C dX3_init_4 rfl ?_
  refine q_bipush C (v := nI 64) dX3_init_5 (by decide) ?_
  refine q_newa (N1 := n0 + 2) C (t0 := 1) (ty := .long) (a0 := (64, .inr (.inl (fun _ => 0)))) dX3_init_7 (List.mem_of_getElem? (i := 4) rfl) rfl (fun _ h => h) rfl (fun _ => rfl) (by decide) (by decide) ⟨Nat.le_of_ble_eq_true rfl, Nat.le_of_ble_eq_true rfl⟩ rfl (fun E1 hE1 => ?_)
  have C1 := C.ext hE1 (by omega)
  rw [← hE1.ad (k := n0) (Or.inl (by omega))]
  refine q_putF C1 (ci := 3) (k := 0) (C0 := RX3) (T := TX3) (NF := 1) (ref := RX3) (ty := tyX3 0) hini dX3_init_9 (by omega) ((kb_up_ne (by omega)).trans hg) rfl iX3_init_X3 tyX3_ok nmX3 (by decide) (List.mem_of_getElem? (i := 5) rfl) rfl rfl rfl (tyX3_ok 0 (by decide)) rfl rfl (Nat.le_of_ble_eq_true rfl) ?_
  refine q_eqv (kb_fl (n0) g E1) (fun n hn => Or.inl ?_) ?_
  · by_cases hl : n < n0
    · rw [kb_fl_lt hl, kb_up_ne (by omega), kb_up_ne (by omega)]
    · rw [kb_fl_ge (by omega)]
      rcases (show n = n0 ∨ n = n0 + 1 by omega) with rfl | rfl
      · rw [kb_up_self]
        exact (kb_eS (E := E1) (X := kb_Z0) (Y := kb_Y0) hS).symm
      · rw [kb_up_ne (by omega), kb_up_self]
        exact ((la_Swords hS).2 E1 kb_Z0 kb_Y0).symm
  · exact q_kret C1 dX3_init_12 hE1 rfl
theorem iX0_init_X0 : ∀ w ∈ wsX00, w ∈ wsX0_init := fun _ h => List.mem_cons_of_mem _ (by first | exact h | exact List.mem_append_right _ h | exact List.mem_append_left _ (List.mem_append_right _ h) | exact List.mem_append_left _ (List.mem_append_left _ (List.mem_append_right _ h)) | exact List.mem_append_left _ (List.mem_append_left _ (List.mem_append_left _ (List.mem_append_right _ h))) | exact List.mem_append_left _ (List.mem_append_left _ (List.mem_append_left _ (List.mem_append_left _ (List.mem_append_right _ h)))) | exact List.mem_append_left _ (List.mem_append_left _ (List.mem_append_left _ (List.mem_append_left _ (List.mem_append_left _ (List.mem_append_right _ h))))))
set_option maxRecDepth 100000 in
set_option maxHeartbeats 4000000 in
theorem k_X0 (l : Launch) (E : kb_E) (g : Nat → va_E) (i : Nat) (hi : i < 8) (hg : g (92 + 7 * i) = .inr (0, [.null, .null, .int 0, .int 0, .null, .null, .null, .null])) : kb_Mk l E (92 + 7 * i + 1) (92 + 7 * i + 7) yX0_init wsX0_init ({ frames := 1, cells := 6, slots := 88, locals := 14 }) (92 + 7 * i) g (fun E' g' => g' = kb_fl (92 + 7 * i) g E') := by
  refine kb_enterK (cc := cX0_init) (maxL := 1) (by decide +kernel) rfl (by decide) rfl ?_
  intro p e s m args below meth c C hini hao
  refine q_aload_n C dX0_init_0 rfl ?_
  refine q_obj C dX0_init_1 (List.mem_of_getElem? (i := 1) rfl) (List.mem_of_getElem? (i := 2) rfl) (List.mem_of_getElem? (i := 3) rfl) (Nat.le_of_ble_eq_true rfl) (Nat.le_of_ble_eq_true rfl) ?_
  refine q_aload_n C dX0_init_4 rfl ?_
  refine q_bipush C (v := nI 6) dX0_init_5 (by decide) ?_
  refine q_newa (N1 := 92 + 7 * i + 2) C (t0 := 0) (ty := .int) (a0 := (6, .inl (fun _ => 0))) dX0_init_7 (List.mem_of_getElem? (i := 4) rfl) rfl (fun _ h => h) rfl (fun _ => rfl) (by decide) (by decide) ⟨Nat.le_of_ble_eq_true rfl, Nat.le_of_ble_eq_true rfl⟩ rfl (fun E1 hE1 => ?_)
  have C1 := C.ext hE1 (by omega)
  rw [← hE1.ad (k := 92 + 7 * i) (Or.inl (by omega))]
  refine q_putF C1 (ci := 0) (k := 0) (C0 := RX0) (T := TX0) (NF := 8) (ref := RX0) (ty := tyX0 0) hini dX0_init_9 (by omega) ((kb_up_ne (by omega)).trans hg) rfl iX0_init_X0 tyX0_ok nmX0 (by decide) (List.mem_of_getElem? (i := 5) rfl) rfl rfl rfl (tyX0_ok 0 (by decide)) rfl rfl (Nat.le_of_ble_eq_true rfl) ?_
  refine q_aload_n C1 dX0_init_12 rfl ?_
  refine q_bipush C1 (v := nI 16) dX0_init_13 (by decide) ?_
  refine q_newa (N1 := 92 + 7 * i + 3) C1 (t0 := 0) (ty := .int) (a0 := (16, .inl (fun _ => 0))) dX0_init_15 (List.mem_of_getElem? (i := 4) rfl) rfl (fun _ h => h) rfl (fun _ => rfl) (by decide) (by decide) ⟨Nat.le_of_ble_eq_true rfl, Nat.le_of_ble_eq_true rfl⟩ rfl (fun E2 hE2 => ?_)
  have C2 := C1.ext hE2 (by omega)
  rw [← hE2.ad (k := 92 + 7 * i) (Or.inl (by omega))]
  rw [← hE2.ad (k := 92 + 7 * i + 1) (Or.inl (by omega))]
  rw [← hE2.cy]
  refine q_putF C2 (ci := 0) (k := 1) (C0 := RX0) (T := TX0) (NF := 8) (ref := RX0) (ty := tyX0 1) hini dX0_init_17 (by omega) ((kb_up_ne (by omega)).trans kb_up_self) rfl iX0_init_X0 tyX0_ok nmX0 (by decide) (List.mem_of_getElem? (i := 6) rfl) rfl rfl rfl (tyX0_ok 1 (by decide)) rfl rfl (Nat.le_of_ble_eq_true rfl) ?_
  refine q_aload_n C2 dX0_init_20 rfl ?_
  refine q_iconst C2 (v := 0) dX0_init_21 (by decide) ?_
  refine q_put C2 (ci := 0) (k := 2) (C0 := RX0) (T := TX0) (NF := 8) (ref := RX0) (host := RX4) (ty := tyX0 2) dX0_init_22 (by omega) kb_up_self rfl iX0_init_X0 tyX0_ok nmX0 (by decide) (List.mem_of_getElem? (i := 7) rfl) rfl rfl (tyX0_ok 2 (by decide)) (by decide) (by decide) (Nat.le_of_ble_eq_true rfl) ?_
  refine q_aload_n C2 dX0_init_25 rfl ?_
  refine q_iconst C2 (v := 0) dX0_init_26 (by decide) ?_
  refine q_put C2 (ci := 0) (k := 3) (C0 := RX0) (T := TX0) (NF := 8) (ref := RX0) (host := RX4) (ty := tyX0 3) dX0_init_27 (by omega) kb_up_self rfl iX0_init_X0 tyX0_ok nmX0 (by decide) (List.mem_of_getElem? (i := 8) rfl) rfl rfl (tyX0_ok 3 (by decide)) (by decide) (by decide) (Nat.le_of_ble_eq_true rfl) ?_
  refine q_aload_n C2 dX0_init_30 rfl ?_
  refine q_bipush C2 (v := nI 6) dX0_init_31 (by decide) ?_
  refine q_newa (N1 := 92 + 7 * i + 4) C2 (t0 := 0) (ty := .int) (a0 := (6, .inl (fun _ => 0))) dX0_init_33 (List.mem_of_getElem? (i := 4) rfl) rfl (fun _ h => h) rfl (fun _ => rfl) (by decide) (by decide) ⟨Nat.le_of_ble_eq_true rfl, Nat.le_of_ble_eq_true rfl⟩ rfl (fun E3 hE3 => ?_)
  have C3 := C2.ext hE3 (by omega)
  rw [← hE3.ad (k := 92 + 7 * i) (Or.inl (by omega))]
  rw [← hE3.ad (k := 92 + 7 * i + 1) (Or.inl (by omega))]
  rw [← hE3.ad (k := 92 + 7 * i + 2) (Or.inl (by omega))]
  rw [← hE3.cy]
  refine q_putF C3 (ci := 0) (k := 4) (C0 := RX0) (T := TX0) (NF := 8) (ref := RX0) (ty := tyX0 4) hini dX0_init_35 (by omega) ((kb_up_ne (by omega)).trans kb_up_self) rfl iX0_init_X0 tyX0_ok nmX0 (by decide) (List.mem_of_getElem? (i := 9) rfl) rfl rfl rfl (tyX0_ok 4 (by decide)) rfl rfl (Nat.le_of_ble_eq_true rfl) ?_
  refine q_aload_n C3 dX0_init_38 rfl ?_
  refine q_bipush C3 (v := nI 6) dX0_init_39 (by decide) ?_
  refine q_newa (N1 := 92 + 7 * i + 5) C3 (t0 := 0) (ty := .int) (a0 := (6, .inl (fun _ => 0))) dX0_init_41 (List.mem_of_getElem? (i := 4) rfl) rfl (fun _ h => h) rfl (fun _ => rfl) (by decide) (by decide) ⟨Nat.le_of_ble_eq_true rfl, Nat.le_of_ble_eq_true rfl⟩ rfl (fun E4 hE4 => ?_)
  have C4 := C3.ext hE4 (by omega)
  rw [← hE4.ad (k := 92 + 7 * i) (Or.inl (by omega))]
  rw [← hE4.ad (k := 92 + 7 * i + 1) (Or.inl (by omega))]
  rw [← hE4.ad (k := 92 + 7 * i + 2) (Or.inl (by omega))]
  rw [← hE4.ad (k := 92 + 7 * i + 3) (Or.inl (by omega))]
  rw [← hE4.cy]
  refine q_putF C4 (ci := 0) (k := 5) (C0 := RX0) (T := TX0) (NF := 8) (ref := RX0) (ty := tyX0 5) hini dX0_init_43 (by omega) ((kb_up_ne (by omega)).trans kb_up_self) rfl iX0_init_X0 tyX0_ok nmX0 (by decide) (List.mem_of_getElem? (i := 10) rfl) rfl rfl rfl (tyX0_ok 5 (by decide)) rfl rfl (Nat.le_of_ble_eq_true rfl) ?_
  refine q_aload_n C4 dX0_init_46 rfl ?_
  refine q_bipush C4 (v := nI 48) dX0_init_47 (by decide) ?_
  refine q_newa (N1 := 92 + 7 * i + 6) C4 (t0 := 0) (ty := .int) (a0 := (48, .inl (fun _ => 0))) dX0_init_49 (List.mem_of_getElem? (i := 4) rfl) rfl (fun _ h => h) rfl (fun _ => rfl) (by decide) (by decide) ⟨Nat.le_of_ble_eq_true rfl, Nat.le_of_ble_eq_true rfl⟩ rfl (fun E5 hE5 => ?_)
  have C5 := C4.ext hE5 (by omega)
  rw [← hE5.ad (k := 92 + 7 * i) (Or.inl (by omega))]
  rw [← hE5.ad (k := 92 + 7 * i + 1) (Or.inl (by omega))]
  rw [← hE5.ad (k := 92 + 7 * i + 2) (Or.inl (by omega))]
  rw [← hE5.ad (k := 92 + 7 * i + 3) (Or.inl (by omega))]
  rw [← hE5.ad (k := 92 + 7 * i + 4) (Or.inl (by omega))]
  rw [← hE5.cy]
  refine q_putF C5 (ci := 0) (k := 6) (C0 := RX0) (T := TX0) (NF := 8) (ref := RX0) (ty := tyX0 6) hini dX0_init_51 (by omega) ((kb_up_ne (by omega)).trans kb_up_self) rfl iX0_init_X0 tyX0_ok nmX0 (by decide) (List.mem_of_getElem? (i := 11) rfl) rfl rfl rfl (tyX0_ok 6 (by decide)) rfl rfl (Nat.le_of_ble_eq_true rfl) ?_
  refine q_aload_n C5 dX0_init_54 rfl ?_
  refine q_bipush C5 (v := nI 6) dX0_init_55 (by decide) ?_
  refine q_newa (N1 := 92 + 7 * i + 7) C5 (t0 := 0) (ty := .int) (a0 := (6, .inl (fun _ => 0))) dX0_init_57 (List.mem_of_getElem? (i := 4) rfl) rfl (fun _ h => h) rfl (fun _ => rfl) (by decide) (by decide) ⟨Nat.le_of_ble_eq_true rfl, Nat.le_of_ble_eq_true rfl⟩ rfl (fun E6 hE6 => ?_)
  have C6 := C5.ext hE6 (by omega)
  rw [← hE6.ad (k := 92 + 7 * i) (Or.inl (by omega))]
  rw [← hE6.ad (k := 92 + 7 * i + 1) (Or.inl (by omega))]
  rw [← hE6.ad (k := 92 + 7 * i + 2) (Or.inl (by omega))]
  rw [← hE6.ad (k := 92 + 7 * i + 3) (Or.inl (by omega))]
  rw [← hE6.ad (k := 92 + 7 * i + 4) (Or.inl (by omega))]
  rw [← hE6.ad (k := 92 + 7 * i + 5) (Or.inl (by omega))]
  rw [← hE6.cy]
  refine q_putF C6 (ci := 0) (k := 7) (C0 := RX0) (T := TX0) (NF := 8) (ref := RX0) (ty := tyX0 7) hini dX0_init_59 (by omega) ((kb_up_ne (by omega)).trans kb_up_self) rfl iX0_init_X0 tyX0_ok nmX0 (by decide) (List.mem_of_getElem? (i := 12) rfl) rfl rfl rfl (tyX0_ok 7 (by decide)) rfl rfl (Nat.le_of_ble_eq_true rfl) ?_
  refine q_eqv (kb_fl (92 + 7 * i) g E6) (fun n hn => Or.inl ?_) ?_
  · by_cases hl : n < 92 + 7 * i
    · rw [kb_fl_lt hl, kb_up_ne (by omega), kb_up_ne (by omega), kb_up_ne (by omega), kb_up_ne (by omega), kb_up_ne (by omega), kb_up_ne (by omega), kb_up_ne (by omega), kb_up_ne (by omega), kb_up_ne (by omega), kb_up_ne (by omega), kb_up_ne (by omega), kb_up_ne (by omega), kb_up_ne (by omega), kb_up_ne (by omega)]
    · rw [kb_fl_ge (by omega)]
      rcases (show n = 92 + 7 * i ∨ n = 92 + 7 * i + 1 ∨ n = 92 + 7 * i + 2 ∨ n = 92 + 7 * i + 3 ∨ n = 92 + 7 * i + 4 ∨ n = 92 + 7 * i + 5 ∨ n = 92 + 7 * i + 6 by omega) with rfl | rfl | rfl | rfl | rfl | rfl | rfl
      · rw [kb_up_self]
        exact (kb_eB (E := E6) (X := kb_Z0) (Y := kb_Y0) hi).symm
      · rw [kb_up_ne (by omega), kb_up_ne (by omega), kb_up_ne (by omega), kb_up_ne (by omega), kb_up_ne (by omega), kb_up_ne (by omega), kb_up_ne (by omega), kb_up_ne (by omega), kb_up_ne (by omega), kb_up_ne (by omega), kb_up_ne (by omega), kb_up_ne (by omega), kb_up_ne (by omega), kb_up_self]
        exact ((ia_Bcol hi).2 E6 kb_Z0 kb_Y0).symm
      · rw [kb_up_ne (by omega), kb_up_ne (by omega), kb_up_ne (by omega), kb_up_ne (by omega), kb_up_ne (by omega), kb_up_ne (by omega), kb_up_ne (by omega), kb_up_ne (by omega), kb_up_ne (by omega), kb_up_ne (by omega), kb_up_ne (by omega), kb_up_self]
        exact ((ia_Bkin hi).2 E6 kb_Z0 kb_Y0).symm
      · rw [kb_up_ne (by omega), kb_up_ne (by omega), kb_up_ne (by omega), kb_up_ne (by omega), kb_up_ne (by omega), kb_up_ne (by omega), kb_up_ne (by omega), kb_up_self]
        exact ((ia_Bsta hi).2 E6 kb_Z0 kb_Y0).symm
      · rw [kb_up_ne (by omega), kb_up_ne (by omega), kb_up_ne (by omega), kb_up_ne (by omega), kb_up_ne (by omega), kb_up_self]
        exact ((ia_Bspe hi).2 E6 kb_Z0 kb_Y0).symm
      · rw [kb_up_ne (by omega), kb_up_ne (by omega), kb_up_ne (by omega), kb_up_self]
        exact ((ia_Bsho hi).2 E6 kb_Z0 kb_Y0).symm
      · rw [kb_up_ne (by omega), kb_up_self]
        exact ((ia_Brep hi).2 E6 kb_Z0 kb_Y0).symm
  · exact q_kret C6 dX0_init_62 (((((hE1.trans hE2 (by omega) (by omega)).trans hE3 (by omega) (by omega)).trans hE4 (by omega) (by omega)).trans hE5 (by omega) (by omega)).trans hE6 (by omega) (by omega)) rfl
theorem iX2_init_X2 : ∀ w ∈ wsX20, w ∈ wsX2_init := fun _ h => List.mem_cons_of_mem _ (by first | exact h | exact List.mem_append_right _ h | exact List.mem_append_left _ (List.mem_append_right _ h) | exact List.mem_append_left _ (List.mem_append_left _ (List.mem_append_right _ h)) | exact List.mem_append_left _ (List.mem_append_left _ (List.mem_append_left _ (List.mem_append_right _ h))) | exact List.mem_append_left _ (List.mem_append_left _ (List.mem_append_left _ (List.mem_append_left _ (List.mem_append_right _ h)))) | exact List.mem_append_left _ (List.mem_append_left _ (List.mem_append_left _ (List.mem_append_left _ (List.mem_append_left _ (List.mem_append_right _ h))))))
set_option maxRecDepth 100000 in
set_option maxHeartbeats 4000000 in
theorem k_X2 (l : Launch) (E : kb_E) (g : Nat → va_E) (i : Nat) (hi : i < 8) (hg : g (148 + 5 * i) = .inr (2, [.null, .null, .int 0, .int 0, .int 0, .int 0, .int 0, .null, .null, .int 0])) : kb_Mk l E (148 + 5 * i + 1) (148 + 5 * i + 5) yX2_init wsX2_init ({ frames := 1, cells := 4, slots := 110, locals := 14 }) (148 + 5 * i) g (fun E' g' => g' = kb_fl (148 + 5 * i) g E') := by
  refine kb_enterK (cc := cX2_init) (maxL := 1) (by decide +kernel) rfl (by decide) rfl ?_
  intro p e s m args below meth c C hini hao
  refine q_aload_n C dX2_init_0 rfl ?_
  refine q_obj C dX2_init_1 (List.mem_of_getElem? (i := 1) rfl) (List.mem_of_getElem? (i := 2) rfl) (List.mem_of_getElem? (i := 3) rfl) (Nat.le_of_ble_eq_true rfl) (Nat.le_of_ble_eq_true rfl) ?_
  refine q_aload_n C dX2_init_4 rfl ?_
  refine q_bipush C (v := nI 48) dX2_init_5 (by decide) ?_
  refine q_newa (N1 := 148 + 5 * i + 2) C (t0 := 0) (ty := .int) (a0 := (48, .inl (fun _ => 0))) dX2_init_7 (List.mem_of_getElem? (i := 4) rfl) rfl (fun _ h => h) rfl (fun _ => rfl) (by decide) (by decide) ⟨Nat.le_of_ble_eq_true rfl, Nat.le_of_ble_eq_true rfl⟩ rfl (fun E1 hE1 => ?_)
  have C1 := C.ext hE1 (by omega)
  rw [← hE1.ad (k := 148 + 5 * i) (Or.inl (by omega))]
  refine q_putF C1 (ci := 2) (k := 0) (C0 := RX2) (T := TX2) (NF := 10) (ref := RX2) (ty := tyX2 0) hini dX2_init_9 (by omega) ((kb_up_ne (by omega)).trans hg) rfl iX2_init_X2 tyX2_ok nmX2 (by decide) (List.mem_of_getElem? (i := 5) rfl) rfl rfl rfl (tyX2_ok 0 (by decide)) rfl rfl (Nat.le_of_ble_eq_true rfl) ?_
  refine q_aload_n C1 dX2_init_12 rfl ?_
  refine q_bipush C1 (v := nI 6) dX2_init_13 (by decide) ?_
  refine q_newa (N1 := 148 + 5 * i + 3) C1 (t0 := 0) (ty := .int) (a0 := (6, .inl (fun _ => 0))) dX2_init_15 (List.mem_of_getElem? (i := 4) rfl) rfl (fun _ h => h) rfl (fun _ => rfl) (by decide) (by decide) ⟨Nat.le_of_ble_eq_true rfl, Nat.le_of_ble_eq_true rfl⟩ rfl (fun E2 hE2 => ?_)
  have C2 := C1.ext hE2 (by omega)
  rw [← hE2.ad (k := 148 + 5 * i) (Or.inl (by omega))]
  rw [← hE2.ad (k := 148 + 5 * i + 1) (Or.inl (by omega))]
  rw [← hE2.cy]
  refine q_putF C2 (ci := 2) (k := 1) (C0 := RX2) (T := TX2) (NF := 10) (ref := RX2) (ty := tyX2 1) hini dX2_init_17 (by omega) ((kb_up_ne (by omega)).trans kb_up_self) rfl iX2_init_X2 tyX2_ok nmX2 (by decide) (List.mem_of_getElem? (i := 6) rfl) rfl rfl rfl (tyX2_ok 1 (by decide)) rfl rfl (Nat.le_of_ble_eq_true rfl) ?_
  refine q_aload_n C2 dX2_init_20 rfl ?_
  refine q_iconst C2 (v := 0) dX2_init_21 (by decide) ?_
  refine q_put C2 (ci := 2) (k := 2) (C0 := RX2) (T := TX2) (NF := 10) (ref := RX2) (host := RX4) (ty := tyX2 2) dX2_init_22 (by omega) kb_up_self rfl iX2_init_X2 tyX2_ok nmX2 (by decide) (List.mem_of_getElem? (i := 7) rfl) rfl rfl (tyX2_ok 2 (by decide)) (by decide) (by decide) (Nat.le_of_ble_eq_true rfl) ?_
  refine q_aload_n C2 dX2_init_25 rfl ?_
  refine q_iconst C2 (v := 0) dX2_init_26 (by decide) ?_
  refine q_put C2 (ci := 2) (k := 3) (C0 := RX2) (T := TX2) (NF := 10) (ref := RX2) (host := RX4) (ty := tyX2 3) dX2_init_27 (by omega) kb_up_self rfl iX2_init_X2 tyX2_ok nmX2 (by decide) (List.mem_of_getElem? (i := 8) rfl) rfl rfl (tyX2_ok 3 (by decide)) (by decide) (by decide) (Nat.le_of_ble_eq_true rfl) ?_
  refine q_aload_n C2 dX2_init_30 rfl ?_
  refine q_iconst C2 (v := 0) dX2_init_31 (by decide) ?_
  refine q_put C2 (ci := 2) (k := 4) (C0 := RX2) (T := TX2) (NF := 10) (ref := RX2) (host := RX4) (ty := tyX2 4) dX2_init_32 (by omega) kb_up_self rfl iX2_init_X2 tyX2_ok nmX2 (by decide) (List.mem_of_getElem? (i := 9) rfl) rfl rfl (tyX2_ok 4 (by decide)) (by decide) (by decide) (Nat.le_of_ble_eq_true rfl) ?_
  refine q_aload_n C2 dX2_init_35 rfl ?_
  refine q_iconst C2 (v := 0) dX2_init_36 (by decide) ?_
  refine q_put C2 (ci := 2) (k := 5) (C0 := RX2) (T := TX2) (NF := 10) (ref := RX2) (host := RX4) (ty := tyX2 5) dX2_init_37 (by omega) kb_up_self rfl iX2_init_X2 tyX2_ok nmX2 (by decide) (List.mem_of_getElem? (i := 10) rfl) rfl rfl (tyX2_ok 5 (by decide)) (by decide) (by decide) (Nat.le_of_ble_eq_true rfl) ?_
  refine q_aload_n C2 dX2_init_40 rfl ?_
  refine q_iconst C2 (v := 0) dX2_init_41 (by decide) ?_
  refine q_put C2 (ci := 2) (k := 6) (C0 := RX2) (T := TX2) (NF := 10) (ref := RX2) (host := RX4) (ty := tyX2 6) dX2_init_42 (by omega) kb_up_self rfl iX2_init_X2 tyX2_ok nmX2 (by decide) (List.mem_of_getElem? (i := 11) rfl) rfl rfl (tyX2_ok 6 (by decide)) (by decide) (by decide) (Nat.le_of_ble_eq_true rfl) ?_
  refine q_aload_n C2 dX2_init_45 rfl ?_
  refine q_bipush C2 (v := nI 16) dX2_init_46 (by decide) ?_
  refine q_newa (N1 := 148 + 5 * i + 4) C2 (t0 := 0) (ty := .int) (a0 := (16, .inl (fun _ => 0))) dX2_init_48 (List.mem_of_getElem? (i := 4) rfl) rfl (fun _ h => h) rfl (fun _ => rfl) (by decide) (by decide) ⟨Nat.le_of_ble_eq_true rfl, Nat.le_of_ble_eq_true rfl⟩ rfl (fun E3 hE3 => ?_)
  have C3 := C2.ext hE3 (by omega)
  rw [← hE3.ad (k := 148 + 5 * i) (Or.inl (by omega))]
  rw [← hE3.ad (k := 148 + 5 * i + 1) (Or.inl (by omega))]
  rw [← hE3.ad (k := 148 + 5 * i + 2) (Or.inl (by omega))]
  rw [← hE3.cy]
  refine q_putF C3 (ci := 2) (k := 7) (C0 := RX2) (T := TX2) (NF := 10) (ref := RX2) (ty := tyX2 7) hini dX2_init_50 (by omega) ((kb_up_ne (by omega)).trans kb_up_self) rfl iX2_init_X2 tyX2_ok nmX2 (by decide) (List.mem_of_getElem? (i := 12) rfl) rfl rfl rfl (tyX2_ok 7 (by decide)) rfl rfl (Nat.le_of_ble_eq_true rfl) ?_
  refine q_aload_n C3 dX2_init_53 rfl ?_
  refine q_bipush C3 (v := nI 40) dX2_init_54 (by decide) ?_
  refine q_newa (N1 := 148 + 5 * i + 5) C3 (t0 := 0) (ty := .int) (a0 := (40, .inl (fun _ => 0))) dX2_init_56 (List.mem_of_getElem? (i := 4) rfl) rfl (fun _ h => h) rfl (fun _ => rfl) (by decide) (by decide) ⟨Nat.le_of_ble_eq_true rfl, Nat.le_of_ble_eq_true rfl⟩ rfl (fun E4 hE4 => ?_)
  have C4 := C3.ext hE4 (by omega)
  rw [← hE4.ad (k := 148 + 5 * i) (Or.inl (by omega))]
  rw [← hE4.ad (k := 148 + 5 * i + 1) (Or.inl (by omega))]
  rw [← hE4.ad (k := 148 + 5 * i + 2) (Or.inl (by omega))]
  rw [← hE4.ad (k := 148 + 5 * i + 3) (Or.inl (by omega))]
  rw [← hE4.cy]
  refine q_putF C4 (ci := 2) (k := 8) (C0 := RX2) (T := TX2) (NF := 10) (ref := RX2) (ty := tyX2 8) hini dX2_init_58 (by omega) ((kb_up_ne (by omega)).trans kb_up_self) rfl iX2_init_X2 tyX2_ok nmX2 (by decide) (List.mem_of_getElem? (i := 13) rfl) rfl rfl rfl (tyX2_ok 8 (by decide)) rfl rfl (Nat.le_of_ble_eq_true rfl) ?_
  refine q_aload_n C4 dX2_init_61 rfl ?_
  refine q_iconst C4 (v := 0) dX2_init_62 (by decide) ?_
  refine q_put C4 (ci := 2) (k := 9) (C0 := RX2) (T := TX2) (NF := 10) (ref := RX2) (host := RX4) (ty := tyX2 9) dX2_init_63 (by omega) kb_up_self rfl iX2_init_X2 tyX2_ok nmX2 (by decide) (List.mem_of_getElem? (i := 14) rfl) rfl rfl (tyX2_ok 9 (by decide)) (by decide) (by decide) (Nat.le_of_ble_eq_true rfl) ?_
  refine q_eqv (kb_fl (148 + 5 * i) g E4) (fun n hn => Or.inl ?_) ?_
  · by_cases hl : n < 148 + 5 * i
    · rw [kb_fl_lt hl, kb_up_ne (by omega), kb_up_ne (by omega), kb_up_ne (by omega), kb_up_ne (by omega), kb_up_ne (by omega), kb_up_ne (by omega), kb_up_ne (by omega), kb_up_ne (by omega), kb_up_ne (by omega), kb_up_ne (by omega), kb_up_ne (by omega), kb_up_ne (by omega), kb_up_ne (by omega), kb_up_ne (by omega)]
    · rw [kb_fl_ge (by omega)]
      rcases (show n = 148 + 5 * i ∨ n = 148 + 5 * i + 1 ∨ n = 148 + 5 * i + 2 ∨ n = 148 + 5 * i + 3 ∨ n = 148 + 5 * i + 4 by omega) with rfl | rfl | rfl | rfl | rfl
      · rw [kb_up_self]
        exact (kb_eP (E := E4) (X := kb_Z0) (Y := kb_Y0) hi).symm
      · rw [kb_up_ne (by omega), kb_up_ne (by omega), kb_up_ne (by omega), kb_up_ne (by omega), kb_up_ne (by omega), kb_up_ne (by omega), kb_up_ne (by omega), kb_up_ne (by omega), kb_up_ne (by omega), kb_up_ne (by omega), kb_up_ne (by omega), kb_up_ne (by omega), kb_up_ne (by omega), kb_up_self]
        exact ((ia_Ptol hi).2 E4 kb_Z0 kb_Y0).symm
      · rw [kb_up_ne (by omega), kb_up_ne (by omega), kb_up_ne (by omega), kb_up_ne (by omega), kb_up_ne (by omega), kb_up_ne (by omega), kb_up_ne (by omega), kb_up_ne (by omega), kb_up_ne (by omega), kb_up_ne (by omega), kb_up_ne (by omega), kb_up_self]
        exact ((ia_Pfir hi).2 E4 kb_Z0 kb_Y0).symm
      · rw [kb_up_ne (by omega), kb_up_ne (by omega), kb_up_ne (by omega), kb_up_ne (by omega), kb_up_self]
        exact ((ia_Pkin hi).2 E4 kb_Z0 kb_Y0).symm
      · rw [kb_up_ne (by omega), kb_up_ne (by omega), kb_up_self]
        exact ((ia_Psus hi).2 E4 kb_Z0 kb_Y0).symm
  · exact q_kret C4 dX2_init_66 (((hE1.trans hE2 (by omega) (by omega)).trans hE3 (by omega) (by omega)).trans hE4 (by omega) (by omega)) rfl
theorem iX5_init_X5 : ∀ w ∈ wsX50, w ∈ wsX5_init := fun _ h => List.mem_cons_of_mem _ (by first | exact h | exact List.mem_append_right _ h | exact List.mem_append_left _ (List.mem_append_right _ h) | exact List.mem_append_left _ (List.mem_append_left _ (List.mem_append_right _ h)) | exact List.mem_append_left _ (List.mem_append_left _ (List.mem_append_left _ (List.mem_append_right _ h))) | exact List.mem_append_left _ (List.mem_append_left _ (List.mem_append_left _ (List.mem_append_left _ (List.mem_append_right _ h)))) | exact List.mem_append_left _ (List.mem_append_left _ (List.mem_append_left _ (List.mem_append_left _ (List.mem_append_left _ (List.mem_append_right _ h))))))
set_option maxRecDepth 100000 in
set_option maxHeartbeats 4000000 in
theorem k_X5 (l : Launch) (E : kb_E) (g : Nat → va_E)  (hg : g (188) = .inr (5, [.int 0, .int 0, .int 0, .null, .null, .null, .null, .null, .null, .null, .null, .null, .null, .null, .null])) : kb_Mk l E (189) (201) yX5_init wsX5_init ({ frames := 1, cells := 12, slots := 70546, locals := 14 }) (188) g (fun E' g' => g' = kb_fl (188) g E') := by
  refine kb_enterK (cc := cX5_init) (maxL := 1) (by decide +kernel) rfl (by decide) rfl ?_
  intro p e s m args below meth c C hini hao
  refine q_aload_n C dX5_init_0 rfl ?_
  refine q_obj C dX5_init_1 (List.mem_of_getElem? (i := 1) rfl) (List.mem_of_getElem? (i := 2) rfl) (List.mem_of_getElem? (i := 3) rfl) (Nat.le_of_ble_eq_true rfl) (Nat.le_of_ble_eq_true rfl) ?_
  refine q_aload_n C dX5_init_4 rfl ?_
  refine q_bipush C (v := nI 8) dX5_init_5 (by decide) ?_
  refine q_newa (N1 := 190) C (t0 := 0) (ty := .int) (a0 := (8, .inl (fun _ => 0))) dX5_init_7 (List.mem_of_getElem? (i := 4) rfl) rfl (fun _ h => h) rfl (fun _ => rfl) (by decide) (by decide) ⟨Nat.le_of_ble_eq_true rfl, Nat.le_of_ble_eq_true rfl⟩ rfl (fun E1 hE1 => ?_)
  have C1 := C.ext hE1 (by omega)
  rw [← hE1.ad (k := 188) (Or.inl (by omega))]
  refine q_putF C1 (ci := 5) (k := 3) (C0 := RX5) (T := TX5) (NF := 15) (ref := RX5) (ty := tyX5 3) hini dX5_init_9 (by omega) ((kb_up_ne (by omega)).trans hg) rfl iX5_init_X5 tyX5_ok nmX5 (by decide) (List.mem_of_getElem? (i := 5) rfl) rfl rfl rfl (tyX5_ok 3 (by decide)) rfl rfl (Nat.le_of_ble_eq_true rfl) ?_
  refine q_aload_n C1 dX5_init_12 rfl ?_
  refine q_bipush C1 (v := nI 8) dX5_init_13 (by decide) ?_
  refine q_newa (N1 := 191) C1 (t0 := 0) (ty := .int) (a0 := (8, .inl (fun _ => 0))) dX5_init_15 (List.mem_of_getElem? (i := 4) rfl) rfl (fun _ h => h) rfl (fun _ => rfl) (by decide) (by decide) ⟨Nat.le_of_ble_eq_true rfl, Nat.le_of_ble_eq_true rfl⟩ rfl (fun E2 hE2 => ?_)
  have C2 := C1.ext hE2 (by omega)
  rw [← hE2.ad (k := 188) (Or.inl (by omega))]
  rw [← hE2.ad (k := 189) (Or.inl (by omega))]
  rw [← hE2.cy]
  refine q_putF C2 (ci := 5) (k := 4) (C0 := RX5) (T := TX5) (NF := 15) (ref := RX5) (ty := tyX5 4) hini dX5_init_17 (by omega) ((kb_up_ne (by omega)).trans kb_up_self) rfl iX5_init_X5 tyX5_ok nmX5 (by decide) (List.mem_of_getElem? (i := 6) rfl) rfl rfl rfl (tyX5_ok 4 (by decide)) rfl rfl (Nat.le_of_ble_eq_true rfl) ?_
  refine q_aload_n C2 dX5_init_20 rfl ?_
  refine q_bipush C2 (v := nI 48) dX5_init_21 (by decide) ?_
  refine q_newa (N1 := 192) C2 (t0 := 0) (ty := .int) (a0 := (48, .inl (fun _ => 0))) dX5_init_23 (List.mem_of_getElem? (i := 4) rfl) rfl (fun _ h => h) rfl (fun _ => rfl) (by decide) (by decide) ⟨Nat.le_of_ble_eq_true rfl, Nat.le_of_ble_eq_true rfl⟩ rfl (fun E3 hE3 => ?_)
  have C3 := C2.ext hE3 (by omega)
  rw [← hE3.ad (k := 188) (Or.inl (by omega))]
  rw [← hE3.ad (k := 189) (Or.inl (by omega))]
  rw [← hE3.ad (k := 190) (Or.inl (by omega))]
  rw [← hE3.cy]
  refine q_putF C3 (ci := 5) (k := 5) (C0 := RX5) (T := TX5) (NF := 15) (ref := RX5) (ty := tyX5 5) hini dX5_init_25 (by omega) ((kb_up_ne (by omega)).trans kb_up_self) rfl iX5_init_X5 tyX5_ok nmX5 (by decide) (List.mem_of_getElem? (i := 7) rfl) rfl rfl rfl (tyX5_ok 5 (by decide)) rfl rfl (Nat.le_of_ble_eq_true rfl) ?_
  refine q_aload_n C3 dX5_init_28 rfl ?_
  refine q_sipush C3 (v := nI 384) dX5_init_29 (by decide) ?_
  refine q_newa (N1 := 193) C3 (t0 := 0) (ty := .int) (a0 := (384, .inl (fun _ => 0))) dX5_init_32 (List.mem_of_getElem? (i := 4) rfl) rfl (fun _ h => h) rfl (fun _ => rfl) (by decide) (by decide) ⟨Nat.le_of_ble_eq_true rfl, Nat.le_of_ble_eq_true rfl⟩ rfl (fun E4 hE4 => ?_)
  have C4 := C3.ext hE4 (by omega)
  rw [← hE4.ad (k := 188) (Or.inl (by omega))]
  rw [← hE4.ad (k := 189) (Or.inl (by omega))]
  rw [← hE4.ad (k := 190) (Or.inl (by omega))]
  rw [← hE4.ad (k := 191) (Or.inl (by omega))]
  rw [← hE4.cy]
  refine q_putF C4 (ci := 5) (k := 6) (C0 := RX5) (T := TX5) (NF := 15) (ref := RX5) (ty := tyX5 6) hini dX5_init_34 (by omega) ((kb_up_ne (by omega)).trans kb_up_self) rfl iX5_init_X5 tyX5_ok nmX5 (by decide) (List.mem_of_getElem? (i := 8) rfl) rfl rfl rfl (tyX5_ok 6 (by decide)) rfl rfl (Nat.le_of_ble_eq_true rfl) ?_
  refine q_aload_n C4 dX5_init_37 rfl ?_
  refine q_bipush C4 (v := nI 8) dX5_init_38 (by decide) ?_
  refine q_newa (N1 := 194) C4 (t0 := 0) (ty := .int) (a0 := (8, .inl (fun _ => 0))) dX5_init_40 (List.mem_of_getElem? (i := 4) rfl) rfl (fun _ h => h) rfl (fun _ => rfl) (by decide) (by decide) ⟨Nat.le_of_ble_eq_true rfl, Nat.le_of_ble_eq_true rfl⟩ rfl (fun E5 hE5 => ?_)
  have C5 := C4.ext hE5 (by omega)
  rw [← hE5.ad (k := 188) (Or.inl (by omega))]
  rw [← hE5.ad (k := 189) (Or.inl (by omega))]
  rw [← hE5.ad (k := 190) (Or.inl (by omega))]
  rw [← hE5.ad (k := 191) (Or.inl (by omega))]
  rw [← hE5.ad (k := 192) (Or.inl (by omega))]
  rw [← hE5.cy]
  refine q_putF C5 (ci := 5) (k := 7) (C0 := RX5) (T := TX5) (NF := 15) (ref := RX5) (ty := tyX5 7) hini dX5_init_42 (by omega) ((kb_up_ne (by omega)).trans kb_up_self) rfl iX5_init_X5 tyX5_ok nmX5 (by decide) (List.mem_of_getElem? (i := 9) rfl) rfl rfl rfl (tyX5_ok 7 (by decide)) rfl rfl (Nat.le_of_ble_eq_true rfl) ?_
  refine q_aload_n C5 dX5_init_45 rfl ?_
  refine q_bipush C5 (v := nI 8) dX5_init_46 (by decide) ?_
  refine q_newa (N1 := 195) C5 (t0 := 0) (ty := .int) (a0 := (8, .inl (fun _ => 0))) dX5_init_48 (List.mem_of_getElem? (i := 4) rfl) rfl (fun _ h => h) rfl (fun _ => rfl) (by decide) (by decide) ⟨Nat.le_of_ble_eq_true rfl, Nat.le_of_ble_eq_true rfl⟩ rfl (fun E6 hE6 => ?_)
  have C6 := C5.ext hE6 (by omega)
  rw [← hE6.ad (k := 188) (Or.inl (by omega))]
  rw [← hE6.ad (k := 189) (Or.inl (by omega))]
  rw [← hE6.ad (k := 190) (Or.inl (by omega))]
  rw [← hE6.ad (k := 191) (Or.inl (by omega))]
  rw [← hE6.ad (k := 192) (Or.inl (by omega))]
  rw [← hE6.ad (k := 193) (Or.inl (by omega))]
  rw [← hE6.cy]
  refine q_putF C6 (ci := 5) (k := 8) (C0 := RX5) (T := TX5) (NF := 15) (ref := RX5) (ty := tyX5 8) hini dX5_init_50 (by omega) ((kb_up_ne (by omega)).trans kb_up_self) rfl iX5_init_X5 tyX5_ok nmX5 (by decide) (List.mem_of_getElem? (i := 10) rfl) rfl rfl rfl (tyX5_ok 8 (by decide)) rfl rfl (Nat.le_of_ble_eq_true rfl) ?_
  refine q_aload_n C6 dX5_init_53 rfl ?_
  refine q_sipush C6 (v := nI 384) dX5_init_54 (by decide) ?_
  refine q_newa (N1 := 196) C6 (t0 := 0) (ty := .int) (a0 := (384, .inl (fun _ => 0))) dX5_init_57 (List.mem_of_getElem? (i := 4) rfl) rfl (fun _ h => h) rfl (fun _ => rfl) (by decide) (by decide) ⟨Nat.le_of_ble_eq_true rfl, Nat.le_of_ble_eq_true rfl⟩ rfl (fun E7 hE7 => ?_)
  have C7 := C6.ext hE7 (by omega)
  rw [← hE7.ad (k := 188) (Or.inl (by omega))]
  rw [← hE7.ad (k := 189) (Or.inl (by omega))]
  rw [← hE7.ad (k := 190) (Or.inl (by omega))]
  rw [← hE7.ad (k := 191) (Or.inl (by omega))]
  rw [← hE7.ad (k := 192) (Or.inl (by omega))]
  rw [← hE7.ad (k := 193) (Or.inl (by omega))]
  rw [← hE7.ad (k := 194) (Or.inl (by omega))]
  rw [← hE7.cy]
  refine q_putF C7 (ci := 5) (k := 9) (C0 := RX5) (T := TX5) (NF := 15) (ref := RX5) (ty := tyX5 9) hini dX5_init_59 (by omega) ((kb_up_ne (by omega)).trans kb_up_self) rfl iX5_init_X5 tyX5_ok nmX5 (by decide) (List.mem_of_getElem? (i := 11) rfl) rfl rfl rfl (tyX5_ok 9 (by decide)) rfl rfl (Nat.le_of_ble_eq_true rfl) ?_
  refine q_aload_n C7 dX5_init_62 rfl ?_
  refine q_bipush C7 (v := nI 48) dX5_init_63 (by decide) ?_
  refine q_newa (N1 := 197) C7 (t0 := 0) (ty := .int) (a0 := (48, .inl (fun _ => 0))) dX5_init_65 (List.mem_of_getElem? (i := 4) rfl) rfl (fun _ h => h) rfl (fun _ => rfl) (by decide) (by decide) ⟨Nat.le_of_ble_eq_true rfl, Nat.le_of_ble_eq_true rfl⟩ rfl (fun E8 hE8 => ?_)
  have C8 := C7.ext hE8 (by omega)
  rw [← hE8.ad (k := 188) (Or.inl (by omega))]
  rw [← hE8.ad (k := 189) (Or.inl (by omega))]
  rw [← hE8.ad (k := 190) (Or.inl (by omega))]
  rw [← hE8.ad (k := 191) (Or.inl (by omega))]
  rw [← hE8.ad (k := 192) (Or.inl (by omega))]
  rw [← hE8.ad (k := 193) (Or.inl (by omega))]
  rw [← hE8.ad (k := 194) (Or.inl (by omega))]
  rw [← hE8.ad (k := 195) (Or.inl (by omega))]
  rw [← hE8.cy]
  refine q_putF C8 (ci := 5) (k := 10) (C0 := RX5) (T := TX5) (NF := 15) (ref := RX5) (ty := tyX5 10) hini dX5_init_67 (by omega) ((kb_up_ne (by omega)).trans kb_up_self) rfl iX5_init_X5 tyX5_ok nmX5 (by decide) (List.mem_of_getElem? (i := 12) rfl) rfl rfl rfl (tyX5_ok 10 (by decide)) rfl rfl (Nat.le_of_ble_eq_true rfl) ?_
  refine q_aload_n C8 dX5_init_70 rfl ?_
  refine q_bipush C8 (v := nI 6) dX5_init_71 (by decide) ?_
  refine q_newa (N1 := 198) C8 (t0 := 0) (ty := .int) (a0 := (6, .inl (fun _ => 0))) dX5_init_73 (List.mem_of_getElem? (i := 4) rfl) rfl (fun _ h => h) rfl (fun _ => rfl) (by decide) (by decide) ⟨Nat.le_of_ble_eq_true rfl, Nat.le_of_ble_eq_true rfl⟩ rfl (fun E9 hE9 => ?_)
  have C9 := C8.ext hE9 (by omega)
  rw [← hE9.ad (k := 188) (Or.inl (by omega))]
  rw [← hE9.ad (k := 189) (Or.inl (by omega))]
  rw [← hE9.ad (k := 190) (Or.inl (by omega))]
  rw [← hE9.ad (k := 191) (Or.inl (by omega))]
  rw [← hE9.ad (k := 192) (Or.inl (by omega))]
  rw [← hE9.ad (k := 193) (Or.inl (by omega))]
  rw [← hE9.ad (k := 194) (Or.inl (by omega))]
  rw [← hE9.ad (k := 195) (Or.inl (by omega))]
  rw [← hE9.ad (k := 196) (Or.inl (by omega))]
  rw [← hE9.cy]
  refine q_putF C9 (ci := 5) (k := 11) (C0 := RX5) (T := TX5) (NF := 15) (ref := RX5) (ty := tyX5 11) hini dX5_init_75 (by omega) ((kb_up_ne (by omega)).trans kb_up_self) rfl iX5_init_X5 tyX5_ok nmX5 (by decide) (List.mem_of_getElem? (i := 13) rfl) rfl rfl rfl (tyX5_ok 11 (by decide)) rfl rfl (Nat.le_of_ble_eq_true rfl) ?_
  refine q_aload_n C9 dX5_init_78 rfl ?_
  refine q_bipush C9 (v := nI 6) dX5_init_79 (by decide) ?_
  refine q_newa (N1 := 199) C9 (t0 := 0) (ty := .int) (a0 := (6, .inl (fun _ => 0))) dX5_init_81 (List.mem_of_getElem? (i := 4) rfl) rfl (fun _ h => h) rfl (fun _ => rfl) (by decide) (by decide) ⟨Nat.le_of_ble_eq_true rfl, Nat.le_of_ble_eq_true rfl⟩ rfl (fun E10 hE10 => ?_)
  have C10 := C9.ext hE10 (by omega)
  rw [← hE10.ad (k := 188) (Or.inl (by omega))]
  rw [← hE10.ad (k := 189) (Or.inl (by omega))]
  rw [← hE10.ad (k := 190) (Or.inl (by omega))]
  rw [← hE10.ad (k := 191) (Or.inl (by omega))]
  rw [← hE10.ad (k := 192) (Or.inl (by omega))]
  rw [← hE10.ad (k := 193) (Or.inl (by omega))]
  rw [← hE10.ad (k := 194) (Or.inl (by omega))]
  rw [← hE10.ad (k := 195) (Or.inl (by omega))]
  rw [← hE10.ad (k := 196) (Or.inl (by omega))]
  rw [← hE10.ad (k := 197) (Or.inl (by omega))]
  rw [← hE10.cy]
  refine q_putF C10 (ci := 5) (k := 12) (C0 := RX5) (T := TX5) (NF := 15) (ref := RX5) (ty := tyX5 12) hini dX5_init_83 (by omega) ((kb_up_ne (by omega)).trans kb_up_self) rfl iX5_init_X5 tyX5_ok nmX5 (by decide) (List.mem_of_getElem? (i := 14) rfl) rfl rfl rfl (tyX5_ok 12 (by decide)) rfl rfl (Nat.le_of_ble_eq_true rfl) ?_
  refine q_aload_n C10 dX5_init_86 rfl ?_
  refine q_bipush C10 (v := nI 6) dX5_init_87 (by decide) ?_
  refine q_newa (N1 := 200) C10 (t0 := 0) (ty := .int) (a0 := (6, .inl (fun _ => 0))) dX5_init_89 (List.mem_of_getElem? (i := 4) rfl) rfl (fun _ h => h) rfl (fun _ => rfl) (by decide) (by decide) ⟨Nat.le_of_ble_eq_true rfl, Nat.le_of_ble_eq_true rfl⟩ rfl (fun E11 hE11 => ?_)
  have C11 := C10.ext hE11 (by omega)
  rw [← hE11.ad (k := 188) (Or.inl (by omega))]
  rw [← hE11.ad (k := 189) (Or.inl (by omega))]
  rw [← hE11.ad (k := 190) (Or.inl (by omega))]
  rw [← hE11.ad (k := 191) (Or.inl (by omega))]
  rw [← hE11.ad (k := 192) (Or.inl (by omega))]
  rw [← hE11.ad (k := 193) (Or.inl (by omega))]
  rw [← hE11.ad (k := 194) (Or.inl (by omega))]
  rw [← hE11.ad (k := 195) (Or.inl (by omega))]
  rw [← hE11.ad (k := 196) (Or.inl (by omega))]
  rw [← hE11.ad (k := 197) (Or.inl (by omega))]
  rw [← hE11.ad (k := 198) (Or.inl (by omega))]
  rw [← hE11.cy]
  refine q_putF C11 (ci := 5) (k := 13) (C0 := RX5) (T := TX5) (NF := 15) (ref := RX5) (ty := tyX5 13) hini dX5_init_91 (by omega) ((kb_up_ne (by omega)).trans kb_up_self) rfl iX5_init_X5 tyX5_ok nmX5 (by decide) (List.mem_of_getElem? (i := 15) rfl) rfl rfl rfl (tyX5_ok 13 (by decide)) rfl rfl (Nat.le_of_ble_eq_true rfl) ?_
  refine q_aload_n C11 dX5_init_94 rfl ?_
  refine q_ldc C11 dX5_init_95 (List.mem_of_getElem? (i := 16) rfl) ?_
  refine q_top (show Value.int _ = Value.int (nI 69632) from congrArg Value.int (by decide)) ?_
  refine q_newa (N1 := 201) C11 (t0 := 2) (ty := .boolean) (a0 := (69632, .inl (fun _ => 0))) dX5_init_97 (List.mem_of_getElem? (i := 17) rfl) rfl (fun _ h => h) rfl (fun _ => rfl) (by decide) (by decide) ⟨Nat.le_of_ble_eq_true rfl, Nat.le_of_ble_eq_true rfl⟩ rfl (fun E12 hE12 => ?_)
  have C12 := C11.ext hE12 (by omega)
  rw [← hE12.ad (k := 188) (Or.inl (by omega))]
  rw [← hE12.ad (k := 189) (Or.inl (by omega))]
  rw [← hE12.ad (k := 190) (Or.inl (by omega))]
  rw [← hE12.ad (k := 191) (Or.inl (by omega))]
  rw [← hE12.ad (k := 192) (Or.inl (by omega))]
  rw [← hE12.ad (k := 193) (Or.inl (by omega))]
  rw [← hE12.ad (k := 194) (Or.inl (by omega))]
  rw [← hE12.ad (k := 195) (Or.inl (by omega))]
  rw [← hE12.ad (k := 196) (Or.inl (by omega))]
  rw [← hE12.ad (k := 197) (Or.inl (by omega))]
  rw [← hE12.ad (k := 198) (Or.inl (by omega))]
  rw [← hE12.ad (k := 199) (Or.inl (by omega))]
  rw [← hE12.cy]
  refine q_putF C12 (ci := 5) (k := 14) (C0 := RX5) (T := TX5) (NF := 15) (ref := RX5) (ty := tyX5 14) hini dX5_init_99 (by omega) ((kb_up_ne (by omega)).trans kb_up_self) rfl iX5_init_X5 tyX5_ok nmX5 (by decide) (List.mem_of_getElem? (i := 18) rfl) rfl rfl rfl (tyX5_ok 14 (by decide)) rfl rfl (Nat.le_of_ble_eq_true rfl) ?_
  refine q_eqv (kb_fl (188) g E12) (fun n hn => Or.inl ?_) ?_
  · by_cases hl : n < 188
    · rw [kb_fl_lt hl, kb_up_ne (by omega), kb_up_ne (by omega), kb_up_ne (by omega), kb_up_ne (by omega), kb_up_ne (by omega), kb_up_ne (by omega), kb_up_ne (by omega), kb_up_ne (by omega), kb_up_ne (by omega), kb_up_ne (by omega), kb_up_ne (by omega), kb_up_ne (by omega), kb_up_ne (by omega), kb_up_ne (by omega), kb_up_ne (by omega), kb_up_ne (by omega), kb_up_ne (by omega), kb_up_ne (by omega), kb_up_ne (by omega), kb_up_ne (by omega), kb_up_ne (by omega), kb_up_ne (by omega), kb_up_ne (by omega), kb_up_ne (by omega)]
    · rw [kb_fl_ge (by omega)]
      rcases (show n = 188 ∨ n = 189 ∨ n = 190 ∨ n = 191 ∨ n = 192 ∨ n = 193 ∨ n = 194 ∨ n = 195 ∨ n = 196 ∨ n = 197 ∨ n = 198 ∨ n = 199 ∨ n = 200 by omega) with rfl | rfl | rfl | rfl | rfl | rfl | rfl | rfl | rfl | rfl | rfl | rfl | rfl
      · rw [kb_up_self]
        exact (rfl).symm
      · rw [kb_up_ne (by omega), kb_up_ne (by omega), kb_up_ne (by omega), kb_up_ne (by omega), kb_up_ne (by omega), kb_up_ne (by omega), kb_up_ne (by omega), kb_up_ne (by omega), kb_up_ne (by omega), kb_up_ne (by omega), kb_up_ne (by omega), kb_up_ne (by omega), kb_up_ne (by omega), kb_up_ne (by omega), kb_up_ne (by omega), kb_up_ne (by omega), kb_up_ne (by omega), kb_up_ne (by omega), kb_up_ne (by omega), kb_up_ne (by omega), kb_up_ne (by omega), kb_up_ne (by omega), kb_up_ne (by omega), kb_up_self]
        exact (rfl).symm
      · rw [kb_up_ne (by omega), kb_up_ne (by omega), kb_up_ne (by omega), kb_up_ne (by omega), kb_up_ne (by omega), kb_up_ne (by omega), kb_up_ne (by omega), kb_up_ne (by omega), kb_up_ne (by omega), kb_up_ne (by omega), kb_up_ne (by omega), kb_up_ne (by omega), kb_up_ne (by omega), kb_up_ne (by omega), kb_up_ne (by omega), kb_up_ne (by omega), kb_up_ne (by omega), kb_up_ne (by omega), kb_up_ne (by omega), kb_up_ne (by omega), kb_up_ne (by omega), kb_up_self]
        exact (rfl).symm
      · rw [kb_up_ne (by omega), kb_up_ne (by omega), kb_up_ne (by omega), kb_up_ne (by omega), kb_up_ne (by omega), kb_up_ne (by omega), kb_up_ne (by omega), kb_up_ne (by omega), kb_up_ne (by omega), kb_up_ne (by omega), kb_up_ne (by omega), kb_up_ne (by omega), kb_up_ne (by omega), kb_up_ne (by omega), kb_up_ne (by omega), kb_up_ne (by omega), kb_up_ne (by omega), kb_up_ne (by omega), kb_up_ne (by omega), kb_up_self]
        exact (rfl).symm
      · rw [kb_up_ne (by omega), kb_up_ne (by omega), kb_up_ne (by omega), kb_up_ne (by omega), kb_up_ne (by omega), kb_up_ne (by omega), kb_up_ne (by omega), kb_up_ne (by omega), kb_up_ne (by omega), kb_up_ne (by omega), kb_up_ne (by omega), kb_up_ne (by omega), kb_up_ne (by omega), kb_up_ne (by omega), kb_up_ne (by omega), kb_up_ne (by omega), kb_up_ne (by omega), kb_up_self]
        exact (rfl).symm
      · rw [kb_up_ne (by omega), kb_up_ne (by omega), kb_up_ne (by omega), kb_up_ne (by omega), kb_up_ne (by omega), kb_up_ne (by omega), kb_up_ne (by omega), kb_up_ne (by omega), kb_up_ne (by omega), kb_up_ne (by omega), kb_up_ne (by omega), kb_up_ne (by omega), kb_up_ne (by omega), kb_up_ne (by omega), kb_up_ne (by omega), kb_up_self]
        exact (rfl).symm
      · rw [kb_up_ne (by omega), kb_up_ne (by omega), kb_up_ne (by omega), kb_up_ne (by omega), kb_up_ne (by omega), kb_up_ne (by omega), kb_up_ne (by omega), kb_up_ne (by omega), kb_up_ne (by omega), kb_up_ne (by omega), kb_up_ne (by omega), kb_up_ne (by omega), kb_up_ne (by omega), kb_up_self]
        exact (rfl).symm
      · rw [kb_up_ne (by omega), kb_up_ne (by omega), kb_up_ne (by omega), kb_up_ne (by omega), kb_up_ne (by omega), kb_up_ne (by omega), kb_up_ne (by omega), kb_up_ne (by omega), kb_up_ne (by omega), kb_up_ne (by omega), kb_up_ne (by omega), kb_up_self]
        exact (rfl).symm
      · rw [kb_up_ne (by omega), kb_up_ne (by omega), kb_up_ne (by omega), kb_up_ne (by omega), kb_up_ne (by omega), kb_up_ne (by omega), kb_up_ne (by omega), kb_up_ne (by omega), kb_up_ne (by omega), kb_up_self]
        exact (rfl).symm
      · rw [kb_up_ne (by omega), kb_up_ne (by omega), kb_up_ne (by omega), kb_up_ne (by omega), kb_up_ne (by omega), kb_up_ne (by omega), kb_up_ne (by omega), kb_up_self]
        exact (rfl).symm
      · rw [kb_up_ne (by omega), kb_up_ne (by omega), kb_up_ne (by omega), kb_up_ne (by omega), kb_up_ne (by omega), kb_up_self]
        exact (rfl).symm
      · rw [kb_up_ne (by omega), kb_up_ne (by omega), kb_up_ne (by omega), kb_up_self]
        exact (rfl).symm
      · rw [kb_up_ne (by omega), kb_up_self]
        exact (rfl).symm
  · exact q_kret C12 dX5_init_102 (((((((((((hE1.trans hE2 (by omega) (by omega)).trans hE3 (by omega) (by omega)).trans hE4 (by omega) (by omega)).trans hE5 (by omega) (by omega)).trans hE6 (by omega) (by omega)).trans hE7 (by omega) (by omega)).trans hE8 (by omega) (by omega)).trans hE9 (by omega) (by omega)).trans hE10 (by omega) (by omega)).trans hE11 (by omega) (by omega)).trans hE12 (by omega) (by omega)) rfl

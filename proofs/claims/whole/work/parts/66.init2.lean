/-! ===== constructors with loops: Loom, KnotBand ===== -/
/-- the world while the loom is made: i sets lie ahead -/
def kb_stL (i : Nat) (g : Nat → va_E) (E : kb_E) (n : Nat) : va_E := if n < 3 then g n else if n = 7 then .inl (E.2.2.1 5, 41, .inr (.inr (.inr (.inr (fun k => if k < i then some (E.2.2.2 (10 + 2 * k)) else none))))) else kb_ent E kb_Z0 kb_Y0 n
theorem iX1_init_X1 : ∀ w ∈ wsX10, w ∈ wsX1_init := fun _ h => List.mem_cons_of_mem _ (by first | exact h | exact List.mem_append_right _ h | exact List.mem_append_left _ (List.mem_append_right _ h) | exact List.mem_append_left _ (List.mem_append_left _ (List.mem_append_right _ h)) | exact List.mem_append_left _ (List.mem_append_left _ (List.mem_append_left _ (List.mem_append_right _ h))) | exact List.mem_append_left _ (List.mem_append_left _ (List.mem_append_left _ (List.mem_append_left _ (List.mem_append_right _ h)))) | exact List.mem_append_left _ (List.mem_append_left _ (List.mem_append_left _ (List.mem_append_left _ (List.mem_append_left _ (List.mem_append_right _ h))))))
theorem iX1_init_X3 : ∀ w ∈ wsX30, w ∈ wsX1_init := fun _ h => List.mem_cons_of_mem _ (by first | exact h | exact List.mem_append_right _ h | exact List.mem_append_left _ (List.mem_append_right _ h) | exact List.mem_append_left _ (List.mem_append_left _ (List.mem_append_right _ h)) | exact List.mem_append_left _ (List.mem_append_left _ (List.mem_append_left _ (List.mem_append_right _ h))) | exact List.mem_append_left _ (List.mem_append_left _ (List.mem_append_left _ (List.mem_append_left _ (List.mem_append_right _ h)))) | exact List.mem_append_left _ (List.mem_append_left _ (List.mem_append_left _ (List.mem_append_left _ (List.mem_append_left _ (List.mem_append_right _ h))))))
set_option maxRecDepth 100000 in
set_option maxHeartbeats 4000000 in
theorem k_X1 (l : Launch) (E : kb_E) (g : Nat → va_E) (hg : g 3 = .inr (1, [.null, .null, .null, .int 0, .null, .null])) : kb_Mk l E 4 92 yX1_init wsX1_init ({ frames := 2, cells := 88, slots := 2891, locals := 34 }) 3 g (fun E' g' => g' = kb_fl 3 g E') := by
  refine kb_enterK (cc := cX1_init) (maxL := 2) (by decide +kernel) rfl (by decide) rfl ?_
  intro p e s m args below meth c C hini hao
  have key : ∀ (k i : Nat) (E' : kb_E), i + k = 41 → kb_ext 4 (10 + 2 * i) E E' → kb_G p l e ({ frames := 2, cells := 88, slots := 2891, locals := 34 }) s m args below meth c E' (kb_A E 4 s.heap.size) (10 + 2 * i) 2 (kb_stL i g E') (6 + 2 * i) (226 + 65 * i) (MQ below (kb_Qk E 4 92 s.heap.size (fun E' g' => g' = kb_fl 3 g E')) args s 88 2891 (kb_A E 4 s.heap.size)) 55 [some (.ref (E'.2.2.2 3)), some (.int (nI i))] [] := by
    intro k
    induction k with
    | zero =>
      intro i E' hi hE'
      have C' := C.ext hE' (by omega)
      refine q_iload_n C' dX1_init_55 rfl ?_
      refine q_bipush C' (v := nI 40) dX1_init_56 (by decide) ?_
      refine q_icmpgtN C' (tgt := 80) dX1_init_58 (by decide) (by omega) (by omega) (fun c58 => ?_) (fun c58 => ?_)
      · refine q_eqv (kb_fl 3 g E') (fun n hn => ?_) ?_
        · by_cases hl : n < 3
          · rw [show kb_stL i g E' n = g n from if_pos hl, kb_fl_lt hl]
            exact kb_eqv.rf _
          · rw [kb_fl_ge (by omega)]
            by_cases h7 : n = 7
            · subst h7
              exact Or.inr ⟨_, _, _, _, (if_neg (by omega)).trans (if_pos rfl), rfl, fun k hk => if_pos (by omega)⟩
            · exact Or.inl ((if_neg hl).trans (if_neg h7))
        · have e92 : 10 + 2 * i = 92 := by omega
          rw [e92] at hE'
          rw [e92]
          exact q_widen (k := 88) (n := 2891) (by omega) (by omega) (q_kret C' dX1_init_80 hE' rfl)
      · exact absurd c58 (by omega)
    | succ k ih =>
      intro i E' hi hE'
      have C' := C.ext hE' (by omega)
      refine q_iload_n C' dX1_init_55 rfl ?_
      refine q_bipush C' (v := nI 40) dX1_init_56 (by decide) ?_
      refine q_icmpgtN C' (tgt := 80) dX1_init_58 (by decide) (by omega) (by omega) (fun c58 => ?_) (fun c58 => ?_)
      · exact absurd c58 (by omega)
      · refine q_aload_n C' dX1_init_61 rfl ?_
        refine q_get C' (ci := 1) (k := 4) (C0 := RX1) (T := TX1) (NF := 6) (ref := RX1) dX1_init_62 (by omega) (show kb_stL i g E' 3 = _ from rfl) rfl iX1_init_X1 (by decide) (List.mem_of_getElem? (i := 10) rfl) rfl rfl ?_
        refine q_iload_n C' dX1_init_65 rfl ?_
        refine q_new (N1 := 10 + 2 * i + 1) C' (ci := 3) (C0 := RX3) (T := TX3) (ty := tyX3) (NF := 1) (fs := [.null]) dX1_init_66 iX1_init_X3 tyX3_ok (List.mem_of_getElem? (i := 9) rfl) (List.mem_of_getElem? (i := 11) rfl) (List.mem_of_getElem? (i := 12) rfl) rfl (fun j hj => by cases Nat.lt_one_iff.mp hj; rfl) ⟨by show 6 + 2 * i + 1 ≤ 88; omega, by show 226 + 65 * i + 1 ≤ 2891; omega⟩ rfl (fun E1 hE1 => ?_)
        have C1 := C'.ext hE1 (by omega)
        rw [← hE1.ad (k := 3) (Or.inl (by omega))]
        rw [← hE1.ad (k := 7) (Or.inl (by omega))]
        refine q_dup C1 dX1_init_69 rfl ?_
        refine q_callIN (host := RX4) C1 hao dX1_init_70 (k_X3 l E1 _ (10 + 2 * i) (kb_SNa (by omega)) kb_up_self) ggX1_init_X3_init rfl (by decide +kernel) (List.mem_of_getElem? (i := 12) rfl) (List.mem_of_getElem? (i := 14) rfl) rfl (by decide +kernel) ⟨Nat.le_of_ble_eq_true rfl, Nat.le_of_ble_eq_true rfl⟩ (Nat.le_of_ble_eq_true rfl) ⟨by show 6 + 2 * i + 1 + 1 ≤ 88; omega, by show 226 + 65 * i + 1 + 64 ≤ 2891; omega⟩ (fun E2 g2 hE2 hg2 => ?_)
        subst hg2
        have C2 := C1.ext hE2 (by omega)
        rw [← hE2.ad (k := 3) (Or.inl (by omega))]
        rw [← hE2.ad (k := 7) (Or.inl (by omega))]
        rw [← hE2.ad (k := 10 + 2 * i) (Or.inl (by omega))]
        have hcy : E2.2.2.1 = E'.2.2.1 := hE2.cy.trans hE1.cy
        have had : ∀ k, k < 10 + 2 * i → E2.2.2.2 k = E'.2.2.2 k := fun k hk => (hE2.ad (Or.inl (by omega))).trans (hE1.ad (Or.inl hk))
        have hg7 : kb_fl (10 + 2 * i) (va_up (kb_stL i g E') (10 + 2 * i) (.inr (3, [.null]))) E2 7 = .inl (E2.2.2.1 5, 41, .inr (.inr (.inr (.inr (fun k => if k < i then some (E'.2.2.2 (10 + 2 * k)) else none))))) := by
          rw [hcy, kb_fl_lt (by omega), kb_up_ne (by omega)]
          rfl
        refine q_aast C2 (n := 7) (n1 := 10 + 2 * i) (t0 := 5) (ci := 3) (C0 := RX3) (T := TX3) (NF := 1) (i := i) (len := 41) dX1_init_73 (by omega) hg7 rfl (by omega) ((kb_fl_ge (Nat.le_refl _)).trans (kb_eS (kb_SNa (by omega)))) rfl (by decide) (by omega) ?_
        refine q_iinc1 C2 dX1_init_74 rfl (by decide) rfl ?_
        refine q_goto C2 (tgt := 55) dX1_init_77 (by decide) ?_
        refine q_eqv (kb_stL (i + 1) g E2) (fun n hn => ?_) ?_
        · by_cases h7 : n = 7
          · subst h7
            rw [kb_up_self]
            refine Or.inr ⟨_, _, _, _, rfl, (if_neg (by omega)).trans (if_pos rfl), fun k hk => ?_⟩
            by_cases e : k = i
            · subst e
              rw [kb_up_self, if_pos (by omega)]
            · rw [kb_up_ne e]
              by_cases e2 : k < i
              · rw [if_pos e2, if_pos (by omega), had _ (by omega)]
              · rw [if_neg e2, if_neg (by omega)]
          · rw [kb_up_ne h7]
            by_cases hl : n < 10 + 2 * i
            · rw [kb_fl_lt hl, kb_up_ne (by omega)]
              by_cases h3 : n < 3
              · rw [show kb_stL i g E' n = g n from if_pos h3, show kb_stL (i + 1) g E2 n = g n from if_pos h3]
                exact kb_eqv.rf _
              · rw [show kb_stL i g E' n = kb_ent E' kb_Z0 kb_Y0 n from (if_neg h3).trans (if_neg h7), show kb_stL (i + 1) g E2 n = kb_ent E2 kb_Z0 kb_Y0 n from (if_neg h3).trans (if_neg h7)]
                exact kb_ent_eqv hcy had (by omega) (by omega) (by omega) (by omega) (by omega) (by omega) (by omega) (by omega) (by omega)
            · rw [kb_fl_ge (by omega), show kb_stL (i + 1) g E2 n = kb_ent E2 kb_Z0 kb_Y0 n from (if_neg (by omega)).trans (if_neg h7)]
              exact kb_eqv.rf _
        · have h9 := ih (i + 1) E2 (by omega) (by rw [show 10 + 2 * (i + 1) = 10 + 2 * i + 2 by omega]; exact (hE'.trans hE1 (by omega) (by omega)).trans hE2 (by omega) (by omega))
          rw [show 10 + 2 * (i + 1) = 10 + 2 * i + 2 by omega] at h9
          exact q_widen (by show 6 + 2 * i + 1 + 1 ≤ 6 + 2 * (i + 1); omega) (by show 226 + 65 * i + 1 + 64 ≤ 226 + 65 * (i + 1); omega) h9
  refine q_aload_n C dX1_init_0 rfl ?_
  refine q_obj C dX1_init_1 (List.mem_of_getElem? (i := 1) rfl) (List.mem_of_getElem? (i := 2) rfl) (List.mem_of_getElem? (i := 3) rfl) (Nat.le_of_ble_eq_true rfl) (Nat.le_of_ble_eq_true rfl) ?_
  refine q_aload_n C dX1_init_4 rfl ?_
  refine q_bipush C (v := nI 40) dX1_init_5 (by decide) ?_
  refine q_newa (N1 := 5) C (t0 := 0) (ty := .int) (a0 := (40, .inl (fun _ => 0))) dX1_init_7 (List.mem_of_getElem? (i := 4) rfl) rfl (fun _ h => h) rfl (fun _ => rfl) (by decide) (by decide) ⟨Nat.le_of_ble_eq_true rfl, Nat.le_of_ble_eq_true rfl⟩ rfl (fun E1 hE1 => ?_)
  have C1 := C.ext hE1 (by omega)
  rw [← hE1.ad (k := 3) (Or.inl (by omega))]
  refine q_putF C1 (ci := 1) (k := 0) (C0 := RX1) (T := TX1) (NF := 6) (ref := RX1) (ty := tyX1 0) hini dX1_init_9 (by omega) ((kb_up_ne (by omega)).trans hg) rfl iX1_init_X1 tyX1_ok nmX1 (by decide) (List.mem_of_getElem? (i := 5) rfl) rfl rfl rfl (tyX1_ok 0 (by decide)) rfl rfl (Nat.le_of_ble_eq_true rfl) ?_
  refine q_aload_n C1 dX1_init_12 rfl ?_
  refine q_bipush C1 (v := nI 40) dX1_init_13 (by decide) ?_
  refine q_newa (N1 := 6) C1 (t0 := 0) (ty := .int) (a0 := (40, .inl (fun _ => 0))) dX1_init_15 (List.mem_of_getElem? (i := 4) rfl) rfl (fun _ h => h) rfl (fun _ => rfl) (by decide) (by decide) ⟨Nat.le_of_ble_eq_true rfl, Nat.le_of_ble_eq_true rfl⟩ rfl (fun E2 hE2 => ?_)
  have C2 := C1.ext hE2 (by omega)
  rw [← hE2.ad (k := 3) (Or.inl (by omega))]
  rw [← hE2.ad (k := 4) (Or.inl (by omega))]
  rw [← hE2.cy]
  refine q_putF C2 (ci := 1) (k := 1) (C0 := RX1) (T := TX1) (NF := 6) (ref := RX1) (ty := tyX1 1) hini dX1_init_17 (by omega) ((kb_up_ne (by omega)).trans kb_up_self) rfl iX1_init_X1 tyX1_ok nmX1 (by decide) (List.mem_of_getElem? (i := 6) rfl) rfl rfl rfl (tyX1_ok 1 (by decide)) rfl rfl (Nat.le_of_ble_eq_true rfl) ?_
  refine q_aload_n C2 dX1_init_20 rfl ?_
  refine q_bipush C2 (v := nI 40) dX1_init_21 (by decide) ?_
  refine q_newa (N1 := 7) C2 (t0 := 0) (ty := .int) (a0 := (40, .inl (fun _ => 0))) dX1_init_23 (List.mem_of_getElem? (i := 4) rfl) rfl (fun _ h => h) rfl (fun _ => rfl) (by decide) (by decide) ⟨Nat.le_of_ble_eq_true rfl, Nat.le_of_ble_eq_true rfl⟩ rfl (fun E3 hE3 => ?_)
  have C3 := C2.ext hE3 (by omega)
  rw [← hE3.ad (k := 3) (Or.inl (by omega))]
  rw [← hE3.ad (k := 4) (Or.inl (by omega))]
  rw [← hE3.ad (k := 5) (Or.inl (by omega))]
  rw [← hE3.cy]
  refine q_putF C3 (ci := 1) (k := 2) (C0 := RX1) (T := TX1) (NF := 6) (ref := RX1) (ty := tyX1 2) hini dX1_init_25 (by omega) ((kb_up_ne (by omega)).trans kb_up_self) rfl iX1_init_X1 tyX1_ok nmX1 (by decide) (List.mem_of_getElem? (i := 7) rfl) rfl rfl rfl (tyX1_ok 2 (by decide)) rfl rfl (Nat.le_of_ble_eq_true rfl) ?_
  refine q_aload_n C3 dX1_init_28 rfl ?_
  refine q_iconst C3 (v := 0) dX1_init_29 (by decide) ?_
  refine q_put C3 (ci := 1) (k := 3) (C0 := RX1) (T := TX1) (NF := 6) (ref := RX1) (host := RX4) (ty := tyX1 3) dX1_init_30 (by omega) kb_up_self rfl iX1_init_X1 tyX1_ok nmX1 (by decide) (List.mem_of_getElem? (i := 8) rfl) rfl rfl (tyX1_ok 3 (by decide)) (by decide) (by decide) (Nat.le_of_ble_eq_true rfl) ?_
  refine q_aload_n C3 dX1_init_33 rfl ?_
  refine q_bipush C3 (v := nI 41) dX1_init_34 (by decide) ?_
  refine q_newq (N1 := 8) C3 (t0 := 5) (C0 := RX3) dX1_init_36 (List.mem_of_getElem? (i := 9) rfl) hao.2.2 rfl (by decide) (by decide) ⟨Nat.le_of_ble_eq_true rfl, Nat.le_of_ble_eq_true rfl⟩ rfl (fun E4 hE4 => ?_)
  have C4 := C3.ext hE4 (by omega)
  rw [← hE4.ad (k := 3) (Or.inl (by omega))]
  rw [← hE4.ad (k := 4) (Or.inl (by omega))]
  rw [← hE4.ad (k := 5) (Or.inl (by omega))]
  rw [← hE4.ad (k := 6) (Or.inl (by omega))]
  rw [← hE4.cy]
  refine q_putF C4 (ci := 1) (k := 4) (C0 := RX1) (T := TX1) (NF := 6) (ref := RX1) (ty := tyX1 4) hini dX1_init_39 (by omega) ((kb_up_ne (by omega)).trans kb_up_self) rfl iX1_init_X1 tyX1_ok nmX1 (by decide) (List.mem_of_getElem? (i := 10) rfl) rfl rfl rfl (tyX1_ok 4 (by decide)) rfl rfl (Nat.le_of_ble_eq_true rfl) ?_
  refine q_aload_n C4 dX1_init_42 rfl ?_
  refine q_new (N1 := 9) C4 (ci := 3) (C0 := RX3) (T := TX3) (ty := tyX3) (NF := 1) (fs := [.null]) dX1_init_43 iX1_init_X3 tyX3_ok (List.mem_of_getElem? (i := 9) rfl) (List.mem_of_getElem? (i := 11) rfl) (List.mem_of_getElem? (i := 12) rfl) rfl (fun j hj => by cases Nat.lt_one_iff.mp hj; rfl) ⟨Nat.le_of_ble_eq_true rfl, Nat.le_of_ble_eq_true rfl⟩ rfl (fun E5 hE5 => ?_)
  have C5 := C4.ext hE5 (by omega)
  rw [← hE5.ad (k := 3) (Or.inl (by omega))]
  rw [← hE5.ad (k := 4) (Or.inl (by omega))]
  rw [← hE5.ad (k := 5) (Or.inl (by omega))]
  rw [← hE5.ad (k := 6) (Or.inl (by omega))]
  rw [← hE5.ad (k := 7) (Or.inl (by omega))]
  rw [← hE5.cy]
  refine q_dup C5 dX1_init_46 rfl ?_
  refine q_callIN (host := RX4) C5 hao dX1_init_47 (k_X3 l E5 _ 8 kb_SN8 kb_up_self) ggX1_init_X3_init rfl (by decide +kernel) (List.mem_of_getElem? (i := 12) rfl) (List.mem_of_getElem? (i := 14) rfl) rfl (by decide +kernel) ⟨Nat.le_of_ble_eq_true rfl, Nat.le_of_ble_eq_true rfl⟩ (Nat.le_of_ble_eq_true rfl) ⟨Nat.le_of_ble_eq_true rfl, Nat.le_of_ble_eq_true rfl⟩ (fun E6 g6 hE6 hg6 => ?_)
  subst hg6
  have C6 := C5.ext hE6 (by omega)
  rw [← hE6.ad (k := 3) (Or.inl (by omega))]
  rw [← hE6.ad (k := 4) (Or.inl (by omega))]
  rw [← hE6.ad (k := 5) (Or.inl (by omega))]
  rw [← hE6.ad (k := 6) (Or.inl (by omega))]
  rw [← hE6.ad (k := 7) (Or.inl (by omega))]
  rw [← hE6.ad (k := 8) (Or.inl (by omega))]
  rw [← hE6.cy]
  refine q_putF C6 (ci := 1) (k := 5) (C0 := RX1) (T := TX1) (NF := 6) (ref := RX1) (ty := tyX1 5) hini dX1_init_50 (by omega) ((kb_fl_lt (by omega)).trans ((kb_up_ne (by omega)).trans kb_up_self)) rfl iX1_init_X1 tyX1_ok nmX1 (by decide) (List.mem_of_getElem? (i := 13) rfl) rfl rfl rfl (tyX1_ok 5 (by decide)) rfl rfl (Nat.le_of_ble_eq_true rfl) ?_
  refine q_iconst C6 (v := nI 0) dX1_init_53 (by decide) ?_
  refine q_istore_n C6 dX1_init_54 (by decide) rfl ?_
  refine q_eqv (kb_stL 0 g E6) (fun n hn => ?_) ?_
  · by_cases hl : n < 3
    · rw [show kb_stL 0 g E6 n = g n from if_pos hl, kb_up_ne (by omega), kb_fl_lt (by omega), kb_up_ne (by omega), kb_up_ne (by omega), kb_up_ne (by omega), kb_up_ne (by omega), kb_up_ne (by omega), kb_up_ne (by omega), kb_up_ne (by omega), kb_up_ne (by omega), kb_up_ne (by omega), kb_up_ne (by omega)]
      exact kb_eqv.rf _
    · rcases (show n = 3 ∨ n = 4 ∨ n = 5 ∨ n = 6 ∨ n = 7 ∨ n = 8 ∨ n = 9 by omega) with rfl | rfl | rfl | rfl | rfl | rfl | rfl
      · rw [kb_up_self]
        exact Or.inl rfl
      · rw [kb_up_ne (by omega), kb_fl_lt (by omega), kb_up_ne (by omega), kb_up_ne (by omega), kb_up_ne (by omega), kb_up_ne (by omega), kb_up_ne (by omega), kb_up_ne (by omega), kb_up_ne (by omega), kb_up_ne (by omega), kb_up_ne (by omega), kb_up_self]
        exact Or.inl rfl
      · rw [kb_up_ne (by omega), kb_fl_lt (by omega), kb_up_ne (by omega), kb_up_ne (by omega), kb_up_ne (by omega), kb_up_ne (by omega), kb_up_ne (by omega), kb_up_ne (by omega), kb_up_ne (by omega), kb_up_self]
        exact Or.inl rfl
      · rw [kb_up_ne (by omega), kb_fl_lt (by omega), kb_up_ne (by omega), kb_up_ne (by omega), kb_up_ne (by omega), kb_up_ne (by omega), kb_up_ne (by omega), kb_up_self]
        exact Or.inl rfl
      · rw [kb_up_ne (by omega), kb_fl_lt (by omega), kb_up_ne (by omega), kb_up_ne (by omega), kb_up_self]
        exact Or.inr ⟨_, _, _, _, rfl, rfl, fun k _ => (if_neg (Nat.not_lt_zero k)).symm⟩
      · rw [kb_up_ne (by omega), kb_fl_ge (by omega)]
        exact Or.inl rfl
      · rw [kb_up_ne (by omega), kb_fl_ge (by omega)]
        exact Or.inl rfl
  exact q_widen (k := 6 + 2 * 0) (n := 226 + 65 * 0) (Nat.le_of_ble_eq_true rfl) (Nat.le_of_ble_eq_true rfl) (key 41 0 E6 rfl (((((hE1.trans hE2 (by omega) (by omega)).trans hE3 (by omega) (by omega)).trans hE4 (by omega) (by omega)).trans hE5 (by omega) (by omega)).trans hE6 (by omega) (by omega)))

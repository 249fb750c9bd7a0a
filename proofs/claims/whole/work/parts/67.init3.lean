/-! ===== KnotBand's constructor ===== -/
/-- the world while i bands are made, and while i pictures are -/
def kb_stB (i : Nat) (E : kb_E) (n : Nat) : va_E := if n = 1 then .inl (E.2.2.1 3, 8, .inr (.inr (.inr (.inr (fun k => if k < i then some (E.2.2.2 (92 + 7 * k)) else none))))) else if n = 2 then .inl (E.2.2.1 4, 8, .inr (.inr (.inr (.inr (fun _ => none))))) else kb_ent E kb_Z0 kb_Y0 n
def kb_stP (i : Nat) (E : kb_E) (n : Nat) : va_E := if n = 2 then .inl (E.2.2.1 4, 8, .inr (.inr (.inr (.inr (fun k => if k < i then some (E.2.2.2 (148 + 5 * k)) else none))))) else kb_ent E kb_Z0 kb_Y0 n
theorem iX4_init_X0 : ∀ w ∈ wsX00, w ∈ wsX4_init := fun _ h => List.mem_cons_of_mem _ (by first | exact h | exact List.mem_append_right _ h | exact List.mem_append_left _ (List.mem_append_right _ h) | exact List.mem_append_left _ (List.mem_append_left _ (List.mem_append_right _ h)) | exact List.mem_append_left _ (List.mem_append_left _ (List.mem_append_left _ (List.mem_append_right _ h))) | exact List.mem_append_left _ (List.mem_append_left _ (List.mem_append_left _ (List.mem_append_left _ (List.mem_append_right _ h)))) | exact List.mem_append_left _ (List.mem_append_left _ (List.mem_append_left _ (List.mem_append_left _ (List.mem_append_left _ (List.mem_append_right _ h))))))
theorem iX4_init_X1 : ∀ w ∈ wsX10, w ∈ wsX4_init := fun _ h => List.mem_cons_of_mem _ (by first | exact h | exact List.mem_append_right _ h | exact List.mem_append_left _ (List.mem_append_right _ h) | exact List.mem_append_left _ (List.mem_append_left _ (List.mem_append_right _ h)) | exact List.mem_append_left _ (List.mem_append_left _ (List.mem_append_left _ (List.mem_append_right _ h))) | exact List.mem_append_left _ (List.mem_append_left _ (List.mem_append_left _ (List.mem_append_left _ (List.mem_append_right _ h)))) | exact List.mem_append_left _ (List.mem_append_left _ (List.mem_append_left _ (List.mem_append_left _ (List.mem_append_left _ (List.mem_append_right _ h))))))
theorem iX4_init_X2 : ∀ w ∈ wsX20, w ∈ wsX4_init := fun _ h => List.mem_cons_of_mem _ (by first | exact h | exact List.mem_append_right _ h | exact List.mem_append_left _ (List.mem_append_right _ h) | exact List.mem_append_left _ (List.mem_append_left _ (List.mem_append_right _ h)) | exact List.mem_append_left _ (List.mem_append_left _ (List.mem_append_left _ (List.mem_append_right _ h))) | exact List.mem_append_left _ (List.mem_append_left _ (List.mem_append_left _ (List.mem_append_left _ (List.mem_append_right _ h)))) | exact List.mem_append_left _ (List.mem_append_left _ (List.mem_append_left _ (List.mem_append_left _ (List.mem_append_left _ (List.mem_append_right _ h))))))
theorem iX4_init_X4 : ∀ w ∈ wsX40, w ∈ wsX4_init := fun _ h => List.mem_cons_of_mem _ (by first | exact h | exact List.mem_append_right _ h | exact List.mem_append_left _ (List.mem_append_right _ h) | exact List.mem_append_left _ (List.mem_append_left _ (List.mem_append_right _ h)) | exact List.mem_append_left _ (List.mem_append_left _ (List.mem_append_left _ (List.mem_append_right _ h))) | exact List.mem_append_left _ (List.mem_append_left _ (List.mem_append_left _ (List.mem_append_left _ (List.mem_append_right _ h)))) | exact List.mem_append_left _ (List.mem_append_left _ (List.mem_append_left _ (List.mem_append_left _ (List.mem_append_left _ (List.mem_append_right _ h))))))
set_option maxRecDepth 100000 in
set_option maxHeartbeats 4000000 in
theorem k_X4 (l : Launch) (E : kb_E) (g : Nat → va_E) (hg : g 0 = .inr (4, [.null, .null, .null, .int 0, .int 0])) : kb_Mk l E 1 188 yX4_init wsX4_init ({ frames := 3, cells := 187, slots := 4641, locals := 55 }) 0 g (fun E' g' => g' = kb_fl 0 g E') := by
  refine kb_enterK (cc := cX4_init) (maxL := 2) (by decide +kernel) rfl (by decide) rfl ?_
  intro p e s m args below meth c C hini hao
  have key2 : ∀ (k i : Nat) (E' : kb_E), i + k = 8 → kb_ext 1 (148 + 5 * i) E E' → kb_G p l e ({ frames := 3, cells := 187, slots := 4641, locals := 55 }) s m args below meth c E' (kb_A E 1 s.heap.size) (148 + 5 * i) 2 (kb_stP i E') (147 + 5 * i) (3681 + 120 * i) (MQ below (kb_Qk E 1 188 s.heap.size (fun E' g' => g' = kb_fl 0 g E')) args s 187 4641 (kb_A E 1 s.heap.size)) 72 [some (.ref (E'.2.2.2 0)), some (.int (nI i))] [] := by
    intro k
    induction k with
    | zero =>
      intro i E' hi hE'
      have C' := C.ext hE' (by omega)
      refine q_iload_n C' dX4_init_72 rfl ?_
      refine q_bipush C' (v := nI 8) dX4_init_73 (by decide) ?_
      refine q_icmpgeN C' (tgt := 97) dX4_init_75 (by decide) (by omega) (by omega) (fun cc => ?_) (fun cc => ?_)
      · refine q_eqv (kb_fl 0 g E') (fun n hn => ?_) ?_
        · rw [kb_fl_ge (Nat.zero_le _)]
          by_cases h2 : n = 2
          · subst h2
            exact Or.inr ⟨_, _, _, _, rfl, rfl, fun k hk => if_pos (by omega)⟩
          · exact Or.inl (if_neg h2)
        · have e9 : 148 + 5 * i = 188 := by omega
          rw [e9] at hE'
          rw [e9]
          exact q_widen (k := 187) (n := 4641) (by omega) (by omega) (q_kret C' dX4_init_97 hE' rfl)
      · exact absurd cc (by omega)
    | succ k ih =>
      intro i E' hi hE'
      have C' := C.ext hE' (by omega)
      refine q_iload_n C' dX4_init_72 rfl ?_
      refine q_bipush C' (v := nI 8) dX4_init_73 (by decide) ?_
      refine q_icmpgeN C' (tgt := 97) dX4_init_75 (by decide) (by omega) (by omega) (fun cc => ?_) (fun cc => ?_)
      · exact absurd cc (by omega)
      · refine q_aload_n C' dX4_init_78 rfl ?_
        refine q_get C' (ci := 4) (k := 1) (C0 := RX4) (T := TX4) (NF := 5) (ref := RX4) dX4_init_79 (by omega) (show kb_stP i E' 0 = _ from rfl) rfl iX4_init_X4 (by decide) (List.mem_of_getElem? (i := 7) rfl) rfl rfl ?_
        refine q_iload_n C' dX4_init_82 rfl ?_
        refine q_new (N1 := 148 + 5 * i + 1) C' (ci := 2) (C0 := RX2) (T := TX2) (ty := tyX2) (NF := 10) (fs := [.null, .null, .int 0, .int 0, .int 0, .int 0, .int 0, .null, .null, .int 0]) dX4_init_83 iX4_init_X2 tyX2_ok (List.mem_of_getElem? (i := 6) rfl) (List.mem_of_getElem? (i := 16) rfl) (List.mem_of_getElem? (i := 17) rfl) rfl (fun j hj => by rcases (show j = 0 ∨ j = 1 ∨ j = 2 ∨ j = 3 ∨ j = 4 ∨ j = 5 ∨ j = 6 ∨ j = 7 ∨ j = 8 ∨ j = 9 by omega) with rfl | rfl | rfl | rfl | rfl | rfl | rfl | rfl | rfl | rfl <;> rfl) ⟨by show 147 + 5 * i + 1 ≤ 187; omega, by show 3681 + 120 * i + 10 ≤ 4641; omega⟩ rfl (fun E1 hE1 => ?_)
        have C1 := C'.ext hE1 (by omega)
        rw [← hE1.ad (k := 0) (Or.inl (by omega))]
        rw [← hE1.ad (k := 2) (Or.inl (by omega))]
        refine q_dup C1 dX4_init_86 rfl ?_
        refine q_callIN (host := RX4) C1 hao dX4_init_87 (k_X2 l E1 _ i (by omega) kb_up_self) ggX4_init_X2_init rfl (by decide +kernel) (List.mem_of_getElem? (i := 17) rfl) (List.mem_of_getElem? (i := 48) rfl) rfl (by decide +kernel) ⟨Nat.le_of_ble_eq_true rfl, Nat.le_of_ble_eq_true rfl⟩ (Nat.le_of_ble_eq_true rfl) ⟨by show 147 + 5 * i + 1 + 4 ≤ 187; omega, by show 3681 + 120 * i + 10 + 110 ≤ 4641; omega⟩ (fun E2 g2 hE2 hg2 => ?_)
        subst hg2
        have C2 := C1.ext hE2 (by omega)
        rw [← hE2.ad (k := 0) (Or.inl (by omega))]
        rw [← hE2.ad (k := 2) (Or.inl (by omega))]
        rw [← hE2.ad (k := 148 + 5 * i) (Or.inl (by omega))]
        have hcy : E2.2.2.1 = E'.2.2.1 := hE2.cy.trans hE1.cy
        have had : ∀ k, k < 148 + 5 * i → E2.2.2.2 k = E'.2.2.2 k := fun k hk => (hE2.ad (Or.inl (by omega))).trans (hE1.ad (Or.inl hk))
        have hga : kb_fl (148 + 5 * i) (va_up (kb_stP i E') (148 + 5 * i) (.inr (2, [.null, .null, .int 0, .int 0, .int 0, .int 0, .int 0, .null, .null, .int 0]))) E2 2 = .inl (E2.2.2.1 4, 8, .inr (.inr (.inr (.inr (fun k => if k < i then some (E'.2.2.2 (148 + 5 * k)) else none))))) := by
          rw [hcy, kb_fl_lt (by omega), kb_up_ne (by omega)]
          rfl
        refine q_aast C2 (n := 2) (n1 := 148 + 5 * i) (t0 := 4) (ci := 2) (C0 := RX2) (T := TX2) (NF := 10) (i := i) (len := 8) dX4_init_90 (by omega) hga rfl (by omega) ((kb_fl_ge (Nat.le_refl _)).trans (kb_eP (by omega))) rfl (by decide) (by omega) ?_
        refine q_iinc1 C2 dX4_init_91 rfl (by decide) rfl ?_
        refine q_goto C2 (tgt := 72) dX4_init_94 (by decide) ?_
        refine q_eqv (kb_stP (i + 1) E2) (fun n hn => ?_) ?_
        · by_cases ha : n = 2
          · subst ha
            rw [kb_up_self]
            refine Or.inr ⟨_, _, _, _, rfl, rfl, fun k hk => ?_⟩
            by_cases e : k = i
            · subst e
              rw [kb_up_self, if_pos (by omega)]
            · rw [kb_up_ne e]
              by_cases e2 : k < i
              · rw [if_pos e2, if_pos (by omega), had _ (by omega)]
              · rw [if_neg e2, if_neg (by omega)]
          · rw [kb_up_ne ha]
            by_cases hl : n < 148 + 5 * i
            · rw [kb_fl_lt hl, kb_up_ne (by omega), show kb_stP i E' n = kb_ent E' kb_Z0 kb_Y0 n from if_neg ha, show kb_stP (i + 1) E2 n = kb_ent E2 kb_Z0 kb_Y0 n from if_neg ha]
              exact kb_ent_eqv hcy had (by omega) (by omega) (by omega) (by omega) (by omega) (by omega) (by omega) (by omega) (by omega)
            · rw [kb_fl_ge (by omega), show kb_stP (i + 1) E2 n = kb_ent E2 kb_Z0 kb_Y0 n from if_neg ha]
              exact kb_eqv.rf _
        · have h9 := ih (i + 1) E2 (by omega) (by rw [show 148 + 5 * (i + 1) = 148 + 5 * i + 5 by omega]; exact (hE'.trans hE1 (by omega) (by omega)).trans hE2 (by omega) (by omega))
          rw [show 148 + 5 * (i + 1) = 148 + 5 * i + 5 by omega] at h9
          exact q_widen (by show 147 + 5 * i + 1 + 4 ≤ 147 + 5 * (i + 1); omega) (by show 3681 + 120 * i + 10 + 110 ≤ 3681 + 120 * (i + 1); omega) h9
  have key1 : ∀ (k i : Nat) (E' : kb_E), i + k = 8 → kb_ext 1 (92 + 7 * i) E E' → kb_G p l e ({ frames := 3, cells := 187, slots := 4641, locals := 55 }) s m args below meth c E' (kb_A E 1 s.heap.size) (92 + 7 * i) 2 (kb_stB i E') (91 + 7 * i) (2913 + 96 * i) (MQ below (kb_Qk E 1 188 s.heap.size (fun E' g' => g' = kb_fl 0 g E')) args s 187 4641 (kb_A E 1 s.heap.size)) 45 [some (.ref (E'.2.2.2 0)), some (.int (nI i))] [] := by
    intro k
    induction k with
    | zero =>
      intro i E' hi hE'
      have C' := C.ext hE' (by omega)
      refine q_iload_n C' dX4_init_45 rfl ?_
      refine q_bipush C' (v := nI 8) dX4_init_46 (by decide) ?_
      refine q_icmpgeN C' (tgt := 70) dX4_init_48 (by decide) (by omega) (by omega) (fun cc => ?_) (fun cc => ?_)
      · refine q_iconst C' (v := nI 0) dX4_init_70 (by decide) ?_
        refine q_istore_n C' dX4_init_71 (by decide) rfl ?_
        refine q_eqv (kb_stP 0 E') (fun n hn => ?_) ?_
        · by_cases h1 : n = 1
          · subst h1
            exact Or.inr ⟨_, _, _, _, rfl, rfl, fun k hk => if_pos (by omega)⟩
          · by_cases h2 : n = 2
            · subst h2
              exact Or.inr ⟨_, _, _, _, rfl, rfl, fun k _ => (if_neg (Nat.not_lt_zero k)).symm⟩
            · exact Or.inl (((if_neg h1).trans (if_neg h2)).trans (if_neg h2).symm)
        · have e9 : 92 + 7 * i = 148 + 5 * 0 := by omega
          rw [e9] at hE'
          rw [e9]
          exact q_widen (by omega) (by omega) (key2 8 0 E' rfl hE')
      · exact absurd cc (by omega)
    | succ k ih =>
      intro i E' hi hE'
      have C' := C.ext hE' (by omega)
      refine q_iload_n C' dX4_init_45 rfl ?_
      refine q_bipush C' (v := nI 8) dX4_init_46 (by decide) ?_
      refine q_icmpgeN C' (tgt := 70) dX4_init_48 (by decide) (by omega) (by omega) (fun cc => ?_) (fun cc => ?_)
      · exact absurd cc (by omega)
      · refine q_aload_n C' dX4_init_51 rfl ?_
        refine q_get C' (ci := 4) (k := 0) (C0 := RX4) (T := TX4) (NF := 5) (ref := RX4) dX4_init_52 (by omega) (show kb_stB i E' 0 = _ from rfl) rfl iX4_init_X4 (by decide) (List.mem_of_getElem? (i := 5) rfl) rfl rfl ?_
        refine q_iload_n C' dX4_init_55 rfl ?_
        refine q_new (N1 := 92 + 7 * i + 1) C' (ci := 0) (C0 := RX0) (T := TX0) (ty := tyX0) (NF := 8) (fs := [.null, .null, .int 0, .int 0, .null, .null, .null, .null]) dX4_init_56 iX4_init_X0 tyX0_ok (List.mem_of_getElem? (i := 4) rfl) (List.mem_of_getElem? (i := 14) rfl) (List.mem_of_getElem? (i := 15) rfl) rfl (fun j hj => by rcases (show j = 0 ∨ j = 1 ∨ j = 2 ∨ j = 3 ∨ j = 4 ∨ j = 5 ∨ j = 6 ∨ j = 7 by omega) with rfl | rfl | rfl | rfl | rfl | rfl | rfl | rfl <;> rfl) ⟨by show 91 + 7 * i + 1 ≤ 187; omega, by show 2913 + 96 * i + 8 ≤ 4641; omega⟩ rfl (fun E1 hE1 => ?_)
        have C1 := C'.ext hE1 (by omega)
        rw [← hE1.ad (k := 0) (Or.inl (by omega))]
        rw [← hE1.ad (k := 1) (Or.inl (by omega))]
        refine q_dup C1 dX4_init_59 rfl ?_
        refine q_callIN (host := RX4) C1 hao dX4_init_60 (k_X0 l E1 _ i (by omega) kb_up_self) ggX4_init_X0_init rfl (by decide +kernel) (List.mem_of_getElem? (i := 15) rfl) (List.mem_of_getElem? (i := 37) rfl) rfl (by decide +kernel) ⟨Nat.le_of_ble_eq_true rfl, Nat.le_of_ble_eq_true rfl⟩ (Nat.le_of_ble_eq_true rfl) ⟨by show 91 + 7 * i + 1 + 6 ≤ 187; omega, by show 2913 + 96 * i + 8 + 88 ≤ 4641; omega⟩ (fun E2 g2 hE2 hg2 => ?_)
        subst hg2
        have C2 := C1.ext hE2 (by omega)
        rw [← hE2.ad (k := 0) (Or.inl (by omega))]
        rw [← hE2.ad (k := 1) (Or.inl (by omega))]
        rw [← hE2.ad (k := 92 + 7 * i) (Or.inl (by omega))]
        have hcy : E2.2.2.1 = E'.2.2.1 := hE2.cy.trans hE1.cy
        have had : ∀ k, k < 92 + 7 * i → E2.2.2.2 k = E'.2.2.2 k := fun k hk => (hE2.ad (Or.inl (by omega))).trans (hE1.ad (Or.inl hk))
        have hga : kb_fl (92 + 7 * i) (va_up (kb_stB i E') (92 + 7 * i) (.inr (0, [.null, .null, .int 0, .int 0, .null, .null, .null, .null]))) E2 1 = .inl (E2.2.2.1 3, 8, .inr (.inr (.inr (.inr (fun k => if k < i then some (E'.2.2.2 (92 + 7 * k)) else none))))) := by
          rw [hcy, kb_fl_lt (by omega), kb_up_ne (by omega)]
          rfl
        refine q_aast C2 (n := 1) (n1 := 92 + 7 * i) (t0 := 3) (ci := 0) (C0 := RX0) (T := TX0) (NF := 8) (i := i) (len := 8) dX4_init_63 (by omega) hga rfl (by omega) ((kb_fl_ge (Nat.le_refl _)).trans (kb_eB (by omega))) rfl (by decide) (by omega) ?_
        refine q_iinc1 C2 dX4_init_64 rfl (by decide) rfl ?_
        refine q_goto C2 (tgt := 45) dX4_init_67 (by decide) ?_
        refine q_eqv (kb_stB (i + 1) E2) (fun n hn => ?_) ?_
        · by_cases ha : n = 1
          · subst ha
            rw [kb_up_self]
            refine Or.inr ⟨_, _, _, _, rfl, rfl, fun k hk => ?_⟩
            by_cases e : k = i
            · subst e
              rw [kb_up_self, if_pos (by omega)]
            · rw [kb_up_ne e]
              by_cases e2 : k < i
              · rw [if_pos e2, if_pos (by omega), had _ (by omega)]
              · rw [if_neg e2, if_neg (by omega)]
          · rw [kb_up_ne ha]
            by_cases h2 : n = 2
            · subst h2
              rw [kb_fl_lt (by omega), kb_up_ne (by omega)]
              refine Or.inl ?_
              show (Sum.inl (E'.2.2.1 4, 8, .inr (.inr (.inr (.inr (fun _ => none))))) : va_E) = Sum.inl (E2.2.2.1 4, 8, .inr (.inr (.inr (.inr (fun _ => none)))))
              rw [hcy]
            · by_cases hl : n < 92 + 7 * i
              · rw [kb_fl_lt hl, kb_up_ne (by omega), show kb_stB i E' n = kb_ent E' kb_Z0 kb_Y0 n from (if_neg ha).trans (if_neg h2), show kb_stB (i + 1) E2 n = kb_ent E2 kb_Z0 kb_Y0 n from (if_neg ha).trans (if_neg h2)]
                exact kb_ent_eqv hcy had (by omega) (by omega) (by omega) (by omega) (by omega) (by omega) (by omega) (by omega) (by omega)
              · rw [kb_fl_ge (by omega), show kb_stB (i + 1) E2 n = kb_ent E2 kb_Z0 kb_Y0 n from (if_neg ha).trans (if_neg h2)]
                exact kb_eqv.rf _
        · have h9 := ih (i + 1) E2 (by omega) (by rw [show 92 + 7 * (i + 1) = 92 + 7 * i + 7 by omega]; exact (hE'.trans hE1 (by omega) (by omega)).trans hE2 (by omega) (by omega))
          rw [show 92 + 7 * (i + 1) = 92 + 7 * i + 7 by omega] at h9
          exact q_widen (by show 91 + 7 * i + 1 + 6 ≤ 91 + 7 * (i + 1); omega) (by show 2913 + 96 * i + 8 + 88 ≤ 2913 + 96 * (i + 1); omega) h9
  refine q_aload_n C dX4_init_0 rfl ?_
  refine q_obj C dX4_init_1 (List.mem_of_getElem? (i := 1) rfl) (List.mem_of_getElem? (i := 2) rfl) (List.mem_of_getElem? (i := 3) rfl) (Nat.le_of_ble_eq_true rfl) (Nat.le_of_ble_eq_true rfl) ?_
  refine q_aload_n C dX4_init_4 rfl ?_
  refine q_bipush C (v := nI 8) dX4_init_5 (by decide) ?_
  refine q_newq (N1 := 2) C (t0 := 3) (C0 := RX0) dX4_init_7 (List.mem_of_getElem? (i := 4) rfl) hao.1 rfl (by decide) (by decide) ⟨Nat.le_of_ble_eq_true rfl, Nat.le_of_ble_eq_true rfl⟩ rfl (fun E1 hE1 => ?_)
  have C1 := C.ext hE1 (by omega)
  rw [← hE1.ad (k := 0) (Or.inl (by omega))]
  refine q_putF C1 (ci := 4) (k := 0) (C0 := RX4) (T := TX4) (NF := 5) (ref := RX4) (ty := tyX4 0) hini dX4_init_10 (by omega) ((kb_up_ne (by omega)).trans hg) rfl iX4_init_X4 tyX4_ok nmX4 (by decide) (List.mem_of_getElem? (i := 5) rfl) rfl rfl rfl (tyX4_ok 0 (by decide)) rfl rfl (Nat.le_of_ble_eq_true rfl) ?_
  refine q_aload_n C1 dX4_init_13 rfl ?_
  refine q_bipush C1 (v := nI 8) dX4_init_14 (by decide) ?_
  refine q_newq (N1 := 3) C1 (t0 := 4) (C0 := RX2) dX4_init_16 (List.mem_of_getElem? (i := 6) rfl) hao.2.1 rfl (by decide) (by decide) ⟨Nat.le_of_ble_eq_true rfl, Nat.le_of_ble_eq_true rfl⟩ rfl (fun E2 hE2 => ?_)
  have C2 := C1.ext hE2 (by omega)
  rw [← hE2.ad (k := 0) (Or.inl (by omega))]
  rw [← hE2.ad (k := 1) (Or.inl (by omega))]
  rw [← hE2.cy]
  refine q_putF C2 (ci := 4) (k := 1) (C0 := RX4) (T := TX4) (NF := 5) (ref := RX4) (ty := tyX4 1) hini dX4_init_19 (by omega) ((kb_up_ne (by omega)).trans kb_up_self) rfl iX4_init_X4 tyX4_ok nmX4 (by decide) (List.mem_of_getElem? (i := 7) rfl) rfl rfl rfl (tyX4_ok 1 (by decide)) rfl rfl (Nat.le_of_ble_eq_true rfl) ?_
  refine q_aload_n C2 dX4_init_22 rfl ?_
  refine q_new (N1 := 4) C2 (ci := 1) (C0 := RX1) (T := TX1) (ty := tyX1) (NF := 6) (fs := [.null, .null, .null, .int 0, .null, .null]) dX4_init_23 iX4_init_X1 tyX1_ok (List.mem_of_getElem? (i := 8) rfl) (List.mem_of_getElem? (i := 9) rfl) (List.mem_of_getElem? (i := 10) rfl) rfl (fun j hj => by rcases (show j = 0 ∨ j = 1 ∨ j = 2 ∨ j = 3 ∨ j = 4 ∨ j = 5 by omega) with rfl | rfl | rfl | rfl | rfl | rfl <;> rfl) ⟨Nat.le_of_ble_eq_true rfl, Nat.le_of_ble_eq_true rfl⟩ rfl (fun E3 hE3 => ?_)
  have C3 := C2.ext hE3 (by omega)
  rw [← hE3.ad (k := 0) (Or.inl (by omega))]
  rw [← hE3.ad (k := 1) (Or.inl (by omega))]
  rw [← hE3.ad (k := 2) (Or.inl (by omega))]
  rw [← hE3.cy]
  refine q_dup C3 dX4_init_26 rfl ?_
  refine q_callI C3 hao dX4_init_27 (k_X1 l E3 _ kb_up_self) ggX4_init_X1_init rfl (List.mem_of_getElem? (i := 10) rfl) (List.mem_of_getElem? (i := 18) rfl) (List.mem_of_getElem? (i := 19) rfl) rfl (by decide +kernel) ⟨Nat.le_of_ble_eq_true rfl, Nat.le_of_ble_eq_true rfl⟩ (Nat.le_of_ble_eq_true rfl) ⟨Nat.le_of_ble_eq_true rfl, Nat.le_of_ble_eq_true rfl⟩ (fun E4 g4 hE4 hg4 => ?_)
  subst hg4
  have C4 := C3.ext hE4 (by omega)
  rw [← hE4.ad (k := 0) (Or.inl (by omega))]
  rw [← hE4.ad (k := 1) (Or.inl (by omega))]
  rw [← hE4.ad (k := 2) (Or.inl (by omega))]
  rw [← hE4.ad (k := 3) (Or.inl (by omega))]
  rw [← hE4.cy]
  refine q_putF C4 (ci := 4) (k := 2) (C0 := RX4) (T := TX4) (NF := 5) (ref := RX4) (ty := tyX4 2) hini dX4_init_30 (by omega) ((kb_fl_lt (by omega)).trans ((kb_up_ne (by omega)).trans kb_up_self)) rfl iX4_init_X4 tyX4_ok nmX4 (by decide) (List.mem_of_getElem? (i := 11) rfl) rfl rfl rfl (tyX4_ok 2 (by decide)) rfl rfl (Nat.le_of_ble_eq_true rfl) ?_
  refine q_aload_n C4 dX4_init_33 rfl ?_
  refine q_iconst C4 (v := 0) dX4_init_34 (by decide) ?_
  refine q_put C4 (ci := 4) (k := 3) (C0 := RX4) (T := TX4) (NF := 5) (ref := RX4) (host := RX4) (ty := tyX4 3) dX4_init_35 (by omega) kb_up_self rfl iX4_init_X4 tyX4_ok nmX4 (by decide) (List.mem_of_getElem? (i := 12) rfl) rfl rfl (tyX4_ok 3 (by decide)) (by decide) (by decide) (Nat.le_of_ble_eq_true rfl) ?_
  refine q_aload_n C4 dX4_init_38 rfl ?_
  refine q_iconst C4 (v := 0) dX4_init_39 (by decide) ?_
  refine q_put C4 (ci := 4) (k := 4) (C0 := RX4) (T := TX4) (NF := 5) (ref := RX4) (host := RX4) (ty := tyX4 4) dX4_init_40 (by omega) kb_up_self rfl iX4_init_X4 tyX4_ok nmX4 (by decide) (List.mem_of_getElem? (i := 13) rfl) rfl rfl (tyX4_ok 4 (by decide)) (by decide) (by decide) (Nat.le_of_ble_eq_true rfl) ?_
  refine q_iconst C4 (v := nI 0) dX4_init_43 (by decide) ?_
  refine q_istore_n C4 dX4_init_44 (by decide) rfl ?_
  refine q_eqv (kb_stB 0 E4) (fun n hn => ?_) ?_
  · by_cases h3 : 3 ≤ n
    · rw [kb_up_ne (by omega), kb_up_ne (by omega), kb_up_ne (by omega), kb_fl_ge h3, show kb_stB 0 E4 n = kb_ent E4 kb_Z0 kb_Y0 n from (if_neg (by omega)).trans (if_neg (by omega))]
      exact kb_eqv.rf _
    · rcases (show n = 0 ∨ n = 1 ∨ n = 2 by omega) with rfl | rfl | rfl
      · rw [kb_up_self]
        exact Or.inl rfl
      · rw [kb_up_ne (by omega), kb_up_ne (by omega), kb_up_ne (by omega), kb_fl_lt (by omega), kb_up_ne (by omega), kb_up_ne (by omega), kb_up_ne (by omega), kb_up_ne (by omega), kb_up_self]
        exact Or.inr ⟨_, _, _, _, rfl, rfl, fun k _ => (if_neg (Nat.not_lt_zero k)).symm⟩
      · rw [kb_up_ne (by omega), kb_up_ne (by omega), kb_up_ne (by omega), kb_fl_lt (by omega), kb_up_ne (by omega), kb_up_ne (by omega), kb_up_self]
        exact Or.inl rfl
  exact q_widen (k := 91 + 7 * 0) (n := 2913 + 96 * 0) (Nat.le_of_ble_eq_true rfl) (Nat.le_of_ble_eq_true rfl) (key1 8 0 E4 rfl (((hE1.trans hE2 (by omega) (by omega)).trans hE3 (by omega) (by omega)).trans hE4 (by omega) (by omega)))

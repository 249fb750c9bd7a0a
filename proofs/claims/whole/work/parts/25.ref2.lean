/-! ===== the reference: stands, of, showsOf, isKnot ===== -/
/-- the reference's 'at' holds f, all else is as it was -/
def kb_ats (f : Nat → Nat) (X X' : Nat → Nat → Int32) : Prop := (∀ q, q ≠ 197 → X' q = X q) ∧ ∀ j, j < 6 → X' 197 j = nI (f j)
theorem kb_ats.ms {f : Nat → Nat} {X X' : Nat → Nat → Int32} (h : kb_ats f X X') : kb_MS X X' := ⟨fun n a _ => h.1 n (by omega), h.1 201 (by decide), fun k _ => by rw [h.1 188 (by decide)]⟩
theorem iX5_stands_X5 : ∀ w ∈ wsX50, w ∈ wsX5_stands := fun _ h => List.mem_cons_of_mem _ (by first | exact h | exact List.mem_append_right _ h | exact List.mem_append_left _ (List.mem_append_right _ h) | exact List.mem_append_left _ (List.mem_append_left _ (List.mem_append_right _ h)) | exact List.mem_append_left _ (List.mem_append_left _ (List.mem_append_left _ (List.mem_append_right _ h))) | exact List.mem_append_left _ (List.mem_append_left _ (List.mem_append_left _ (List.mem_append_left _ (List.mem_append_right _ h)))) | exact List.mem_append_left _ (List.mem_append_left _ (List.mem_append_left _ (List.mem_append_left _ (List.mem_append_left _ (List.mem_append_right _ h))))))
set_option maxRecDepth 100000 in
set_option maxHeartbeats 4000000 in
/-- X5.stands -/
theorem m_stands (l : Launch) (E : kb_E) (X : Nat → Nat → Int32) (Y : Nat → Nat → Int64) (b n R : Nat) (hb : b < 8) (hn : n ≤ 6) (hn2 : 2 ≤ n) (hR : R ≤ 16) (hth : X 189 b = nI n) (kd : Nat → Nat → Nat) (hkd : ∀ r, r < 16 → ∀ k, k < 3 → X 192 (48 * b + 3 * r + k) = nI (kd r k) ∧ kd r k < 4) : kb_Met l E 202 yX5_stands wsX5_stands ({ frames := 1, cells := 0, slots := 0, locals := 21 }) [.ref (E.2.2.2 188), .int (nI b), .int (nI R)] (kb_ent E X Y) (fun v g' => v = none ∧ ∃ X', g' = kb_ent E X' Y ∧ kb_ats (kb_at kd n R) X X') := by
  refine kb_enter (cc := cX5_stands) (maxL := 7) (ret := none) (by decide +kernel) rfl (by simp [Value.category]) (Nat.le_of_ble_eq_true rfl) ?_
  intro p e s m args below meth c C hini
  refine q_iconst C (v := nI 0) dX5_stands_0 (by decide) ?_
  refine q_istore_n C dX5_stands_1 (by decide) rfl ?_
  refine q_mask [true, true, true, true, false, false, false] (q_for (σ := Unit) (k0 := 0) (6) (fun k _ X' Y' => Y = Y' ∧ (∀ q, q ≠ 197 → X' q = X q) ∧ ∀ j, j < k → X' 197 j = nI j) (fun k _ => [some (.ref (E.2.2.2 188)), some (.int (nI b)), some (.int (nI R)), some (.int (nI k)), none, none, none]) (Nat.zero_le _) () (⟨rfl, fun _ _ => rfl, fun j hj => absurd hj (Nat.not_lt_zero _)⟩) ?_ ?_)
  · intro k a X1 Y1 hk_k hk0_k hI_k ih_k
    obtain ⟨rfl, hI1⟩ := hI_k
    refine q_iload_n C dX5_stands_2 rfl ?_
    refine q_bipush C (v := nI 6) dX5_stands_3 (by decide) ?_
    refine q_icmpgeN C (tgt := 21) dX5_stands_5 (by decide) (by omega) (by omega) (fun c5 => ?_) (fun c5 => ?_)
    · exact absurd c5 (by omega)
    · refine q_aload_n C dX5_stands_8 rfl ?_
      refine x_getR C (ci := 5) (k := 11) (C0 := RX5) (T := TX5) (NF := 15) (ref := RX5) (host := RX4) dX5_stands_9 fr_Mat rfl iX5_stands_X5 (by decide) (List.mem_of_getElem? (i := 1) rfl) rfl ?_
      refine q_iload_n C dX5_stands_12 rfl ?_
      refine q_iload_n C dX5_stands_13 rfl ?_
      refine x_iastN C dX5_stands_14 ia_Mat (by decide) (by omega) ?_
      refine q_iinc1 C dX5_stands_15 rfl (by decide) rfl ?_
      refine q_goto C (tgt := 2) dX5_stands_18 (by decide) ?_
      exact q_mask [true, true, true, true, false, false, false] (ih_k () _ _ ⟨rfl, fun q a => by simp only [va_up, a, if_false]; exact hI1.1 q a, fun j hj => by
        by_cases e : j = k
        · subst e; simp [va_up, upd]
        · have := hI1.2 j (by omega)
          simp [va_up, upd, e, this]⟩)
  · intro a X1 Y1 hI_k
    obtain ⟨rfl, hI1⟩ := hI_k
    refine q_iload_n C dX5_stands_2 rfl ?_
    refine q_bipush C (v := nI 6) dX5_stands_3 (by decide) ?_
    refine q_icmpgeN C (tgt := 21) dX5_stands_5 (by decide) (by omega) (by omega) (fun c5 => ?_) (fun c5 => ?_)
    · refine q_iconst C (v := nI 0) dX5_stands_21 (by decide) ?_
      refine q_istore_n C dX5_stands_22 (by decide) rfl ?_
      refine q_mask [true, true, true, true, false, false, false] (q_for (σ := Unit) (k0 := 0) (R) (fun r _ X' Y' => Y = Y' ∧ kb_ats (kb_at kd n r) X X') (fun k _ => [some (.ref (E.2.2.2 188)), some (.int (nI b)), some (.int (nI R)), some (.int (nI k)), none, none, none]) (Nat.zero_le _) () (⟨rfl, hI1.1, fun j hj => hI1.2 j hj⟩) ?_ ?_)
      · intro r a2 X2 Y2 hk_r hk0_r hI_r ih_r
        obtain ⟨rfl, hI2⟩ := hI_r
        have hkn3 : kb_kn n r ≤ 3 := kb_kn_le hn
        refine q_iload_n C dX5_stands_23 rfl ?_
        refine q_iload_n C dX5_stands_24 rfl ?_
        refine q_icmpgeN C (tgt := 125) dX5_stands_25 (by decide) (by omega) (by omega) (fun c25 => ?_) (fun c25 => ?_)
        · exact absurd c25 (by omega)
        · refine q_iconst C (v := nI 0) dX5_stands_28 (by decide) ?_
          refine q_istore C dX5_stands_29 (by decide) rfl ?_
          refine q_mask [true, true, true, true, true, false, false] (q_for (σ := Unit) (k0 := 0) (kb_kn n r) (fun k _ X' Y' => Y = Y' ∧ kb_ats (kb_rw kd r (kb_at kd n r) k) X X') (fun k _ => [some (.ref (E.2.2.2 188)), some (.int (nI b)), some (.int (nI R)), some (.int (nI r)), some (.int (nI k)), none, none]) (Nat.zero_le _) () (⟨rfl, hI2⟩) ?_ ?_)
          · intro k2 a3 X3 Y3 hk_k2 hk0_k2 hI_k2 ih_k2
            obtain ⟨rfl, hI3⟩ := hI_k2
            have hlf9 := kb_lf_lt hk_k2
            refine q_iload C dX5_stands_31 rfl ?_
            refine q_aload_n C dX5_stands_33 rfl ?_
            refine x_getR C (ci := 5) (k := 3) (C0 := RX5) (T := TX5) (NF := 15) (ref := RX5) (host := RX4) dX5_stands_34 fr_Mthr rfl iX5_stands_X5 (by decide) (List.mem_of_getElem? (i := 2) rfl) rfl ?_
            refine q_iload_n C dX5_stands_37 rfl ?_
            refine x_ialdN C dX5_stands_38 ia_Mthr (by decide) (by omega) ?_
            refine q_top (show Value.int _ = Value.int _ from congrArg Value.int ((congrFun (hI3.1 189 (by decide)) b).trans hth)) ?_
            refine q_iload_n C dX5_stands_39 rfl ?_
            refine q_callS (As := [_, _]) (nA := 2) C dX5_stands_40 (m_mknots _ _ _ _ _) gX5_stands_X5_knots rfl (by decide +kernel) rfl ⟨Nat.le_of_ble_eq_true rfl, Nat.le_of_ble_eq_true rfl⟩ (Nat.le_of_ble_eq_true rfl) ⟨Nat.le_of_ble_eq_true rfl, Nat.le_of_ble_eq_true rfl⟩ (fun v40 g40 h40 => ?_)
            obtain ⟨rfl, rfl⟩ := h40
            refine q_top (show Value.int _ = Value.int _ from congrArg Value.int (nv_mknots n (by omega) r (by omega) (by omega))) ?_
            refine q_icmpgeN C (tgt := 119) dX5_stands_43 (by decide) (by omega) (by omega) (fun c43 => ?_) (fun c43 => ?_)
            · exact absurd c43 (by omega)
            · refine q_aload_n C dX5_stands_46 rfl ?_
              refine x_getR C (ci := 5) (k := 6) (C0 := RX5) (T := TX5) (NF := 15) (ref := RX5) (host := RX4) dX5_stands_47 fr_Mkin rfl iX5_stands_X5 (by decide) (List.mem_of_getElem? (i := 3) rfl) rfl ?_
              refine q_bipush C (v := nI 48) dX5_stands_50 (by decide) ?_
              refine q_iload_n C dX5_stands_52 rfl ?_
              refine q_imulN C dX5_stands_53 ?_
              refine q_iconst C (v := nI 3) dX5_stands_54 (by decide) ?_
              refine q_iload_n C dX5_stands_55 rfl ?_
              refine q_imulN C dX5_stands_56 ?_
              refine q_iaddN C dX5_stands_57 ?_
              refine q_iload C dX5_stands_58 rfl ?_
              refine q_iaddN C dX5_stands_60 ?_
              refine x_ialdN C dX5_stands_61 ia_Mkin (by decide) (by omega) ?_
              refine q_top (show Value.int _ = Value.int _ from congrArg Value.int ((congrFun (hI3.1 192 (by decide)) _).trans (hkd r (by omega) k2 (by omega)).1)) ?_
              refine q_iconst C (v := nI 1) dX5_stands_62 (by decide) ?_
              refine q_icmpleN C (tgt := 69) dX5_stands_63 (by decide) (by have := (hkd r (by omega) k2 (by omega)).2; omega) (by omega) (fun c63 => ?_) (fun c63 => ?_)
              · refine q_iload_n C dX5_stands_69 rfl ?_
                refine q_iload C dX5_stands_70 rfl ?_
                refine q_callS (As := [_, _]) (nA := 2) C dX5_stands_72 (m_mleft _ _ _ _ _) gX5_stands_X5_left rfl (by decide +kernel) rfl ⟨Nat.le_of_ble_eq_true rfl, Nat.le_of_ble_eq_true rfl⟩ (Nat.le_of_ble_eq_true rfl) ⟨Nat.le_of_ble_eq_true rfl, Nat.le_of_ble_eq_true rfl⟩ (fun v72 g72 h72 => ?_)
                obtain ⟨rfl, rfl⟩ := h72
                refine q_top (show Value.int _ = Value.int _ from congrArg Value.int (nv_mleft r (by omega) k2 (by omega))) ?_
                refine q_istore C dX5_stands_75 (by decide) rfl ?_
                refine q_aload_n C dX5_stands_77 rfl ?_
                refine x_getR C (ci := 5) (k := 11) (C0 := RX5) (T := TX5) (NF := 15) (ref := RX5) (host := RX4) dX5_stands_78 fr_Mat rfl iX5_stands_X5 (by decide) (List.mem_of_getElem? (i := 1) rfl) rfl ?_
                refine q_iload C dX5_stands_81 rfl ?_
                refine x_ialdN C dX5_stands_83 ia_Mat (by decide) (by omega) ?_
                refine q_istore C dX5_stands_84 (by decide) rfl ?_
                refine q_aload_n C dX5_stands_86 rfl ?_
                refine x_getR C (ci := 5) (k := 11) (C0 := RX5) (T := TX5) (NF := 15) (ref := RX5) (host := RX4) dX5_stands_87 fr_Mat rfl iX5_stands_X5 (by decide) (List.mem_of_getElem? (i := 1) rfl) rfl ?_
                refine q_iload C dX5_stands_90 rfl ?_
                refine q_aload_n C dX5_stands_92 rfl ?_
                refine x_getR C (ci := 5) (k := 11) (C0 := RX5) (T := TX5) (NF := 15) (ref := RX5) (host := RX4) dX5_stands_93 fr_Mat rfl iX5_stands_X5 (by decide) (List.mem_of_getElem? (i := 1) rfl) rfl ?_
                refine q_iload C dX5_stands_96 rfl ?_
                refine q_iconst C (v := nI 1) dX5_stands_98 (by decide) ?_
                refine q_iaddN C dX5_stands_99 ?_
                refine x_ialdN C dX5_stands_100 ia_Mat (by decide) (by omega) ?_
                refine x_iastN C dX5_stands_101 ia_Mat (by decide) (by omega) ?_
                refine q_aload_n C dX5_stands_102 rfl ?_
                refine x_getR C (ci := 5) (k := 11) (C0 := RX5) (T := TX5) (NF := 15) (ref := RX5) (host := RX4) dX5_stands_103 fr_Mat rfl iX5_stands_X5 (by decide) (List.mem_of_getElem? (i := 1) rfl) rfl ?_
                refine q_iload C dX5_stands_106 rfl ?_
                refine q_iconst C (v := nI 1) dX5_stands_108 (by decide) ?_
                refine q_iaddN C dX5_stands_109 ?_
                refine q_iload C dX5_stands_110 rfl ?_
                refine x_iastN C dX5_stands_112 ia_Mat (by decide) (by omega) ?_
                refine q_iinc1 C dX5_stands_113 rfl (by decide) rfl ?_
                refine q_goto C (tgt := 31) dX5_stands_116 (by decide) ?_
                exact q_mask [true, true, true, true, true, false, false] (ih_k2 () _ _ ⟨rfl, by
                  first
                  | (refine ⟨hI3.1, fun j hj => ?_⟩
                     rw [kb_rw, if_neg (by omega)]
                     exact hI3.2 j hj)
                  | (refine ⟨fun q hq => by simp only [va_up, hq, if_false]; exact hI3.1 q hq, fun j hj => ?_⟩
                     rw [kb_rw, if_pos (by omega)]
                     simp only [va_up, if_true, kb_sw]
                     have hlf := kb_lf_lt hk_k2
                     by_cases e1 : j = kb_lf r k2
                     · subst e1
                       simp [upd, hI3.2 (kb_lf r k2 + 1) (by omega)]
                     · by_cases e2 : j = kb_lf r k2 + 1
                       · subst e2
                         simp [upd, hI3.2 (kb_lf r k2) (by omega)]
                       · simp [upd, e1, e2, hI3.2 j hj])⟩)
              · refine q_goto C (tgt := 113) dX5_stands_66 (by decide) ?_
                refine q_iinc1 C dX5_stands_113 rfl (by decide) rfl ?_
                refine q_goto C (tgt := 31) dX5_stands_116 (by decide) ?_
                exact q_mask [true, true, true, true, true, false, false] (ih_k2 () _ _ ⟨rfl, by
                  first
                  | (refine ⟨hI3.1, fun j hj => ?_⟩
                     rw [kb_rw, if_neg (by omega)]
                     exact hI3.2 j hj)
                  | (refine ⟨fun q hq => by simp only [va_up, hq, if_false]; exact hI3.1 q hq, fun j hj => ?_⟩
                     rw [kb_rw, if_pos (by omega)]
                     simp only [va_up, if_true, kb_sw]
                     have hlf := kb_lf_lt hk_k2
                     by_cases e1 : j = kb_lf r k2
                     · subst e1
                       simp [upd, hI3.2 (kb_lf r k2 + 1) (by omega)]
                     · by_cases e2 : j = kb_lf r k2 + 1
                       · subst e2
                         simp [upd, hI3.2 (kb_lf r k2) (by omega)]
                       · simp [upd, e1, e2, hI3.2 j hj])⟩)
          · intro a3 X3 Y3 hI_k2
            obtain ⟨rfl, hI3⟩ := hI_k2
            refine q_iload C dX5_stands_31 rfl ?_
            refine q_aload_n C dX5_stands_33 rfl ?_
            refine x_getR C (ci := 5) (k := 3) (C0 := RX5) (T := TX5) (NF := 15) (ref := RX5) (host := RX4) dX5_stands_34 fr_Mthr rfl iX5_stands_X5 (by decide) (List.mem_of_getElem? (i := 2) rfl) rfl ?_
            refine q_iload_n C dX5_stands_37 rfl ?_
            refine x_ialdN C dX5_stands_38 ia_Mthr (by decide) (by omega) ?_
            refine q_top (show Value.int _ = Value.int _ from congrArg Value.int ((congrFun (hI3.1 189 (by decide)) b).trans hth)) ?_
            refine q_iload_n C dX5_stands_39 rfl ?_
            refine q_callS (As := [_, _]) (nA := 2) C dX5_stands_40 (m_mknots _ _ _ _ _) gX5_stands_X5_knots rfl (by decide +kernel) rfl ⟨Nat.le_of_ble_eq_true rfl, Nat.le_of_ble_eq_true rfl⟩ (Nat.le_of_ble_eq_true rfl) ⟨Nat.le_of_ble_eq_true rfl, Nat.le_of_ble_eq_true rfl⟩ (fun v40 g40 h40 => ?_)
            obtain ⟨rfl, rfl⟩ := h40
            refine q_top (show Value.int _ = Value.int _ from congrArg Value.int (nv_mknots n (by omega) r (by omega) (by omega))) ?_
            refine q_icmpgeN C (tgt := 119) dX5_stands_43 (by decide) (by omega) (by omega) (fun c43 => ?_) (fun c43 => ?_)
            · refine q_iinc1 C dX5_stands_119 rfl (by decide) rfl ?_
              refine q_goto C (tgt := 23) dX5_stands_122 (by decide) ?_
              exact q_mask [true, true, true, true, false, false, false] (ih_r () _ _ ⟨rfl, hI3⟩)
            · exact absurd c43 (by omega)
      · intro a2 X2 Y2 hI_r
        obtain ⟨rfl, hI2⟩ := hI_r
        refine q_iload_n C dX5_stands_23 rfl ?_
        refine q_iload_n C dX5_stands_24 rfl ?_
        refine q_icmpgeN C (tgt := 125) dX5_stands_25 (by decide) (by omega) (by omega) (fun c25 => ?_) (fun c25 => ?_)
        · exact q_vret C dX5_stands_125 ⟨rfl, _, rfl, hI2⟩
        · exact absurd c25 (by omega)
    · exact absurd c5 (by omega)
theorem iX5_of_X5 : ∀ w ∈ wsX50, w ∈ wsX5_of := fun _ h => List.mem_cons_of_mem _ (by first | exact h | exact List.mem_append_right _ h | exact List.mem_append_left _ (List.mem_append_right _ h) | exact List.mem_append_left _ (List.mem_append_left _ (List.mem_append_right _ h)) | exact List.mem_append_left _ (List.mem_append_left _ (List.mem_append_left _ (List.mem_append_right _ h))) | exact List.mem_append_left _ (List.mem_append_left _ (List.mem_append_left _ (List.mem_append_left _ (List.mem_append_right _ h)))) | exact List.mem_append_left _ (List.mem_append_left _ (List.mem_append_left _ (List.mem_append_left _ (List.mem_append_left _ (List.mem_append_right _ h))))))
set_option maxRecDepth 100000 in
set_option maxHeartbeats 4000000 in
/-- X5.of -/
theorem m_of (l : Launch) (E : kb_E) (X : Nat → Nat → Int32) (Y : Nat → Nat → Int64) (b n r k f : Nat) (hb : b < 8) (hn : n ≤ 6) (hr : r < 16) (hk : k < kb_kn n r) (hk3 : k < 3) (hf : f < 2) (kd : Nat → Nat → Nat) (hkd : ∀ r, r < 16 → ∀ k, k < 3 → X 192 (48 * b + 3 * r + k) = nI (kd r k) ∧ kd r k < 4) (at0 : Nat → Nat) (hat : ∀ j, j < 6 → X 197 j = nI (at0 j)) : kb_Met l E 202 yX5_of wsX5_of ({ frames := 1, cells := 0, slots := 0, locals := 21 }) [.ref (E.2.2.2 188), .int (nI b), .int (nI r), .int (nI k), .int (nI f)] (kb_ent E X Y) (fun v g' => v = some (.int (nI (at0 (kb_lf r k + (if f = 1 then kd r k % 2 else 1 - kd r k % 2))))) ∧ g' = kb_ent E X Y) := by
  refine kb_enter (cc := cX5_of) (maxL := 6) (ret := (some .int)) (by decide +kernel) rfl (by simp [Value.category]) (Nat.le_of_ble_eq_true rfl) ?_
  intro p e s m args below meth c C hini
  refine q_aload_n C dX5_of_0 rfl ?_
  refine x_getR C (ci := 5) (k := 6) (C0 := RX5) (T := TX5) (NF := 15) (ref := RX5) (host := RX4) dX5_of_1 fr_Mkin rfl iX5_of_X5 (by decide) (List.mem_of_getElem? (i := 1) rfl) rfl ?_
  refine q_bipush C (v := nI 48) dX5_of_4 (by decide) ?_
  refine q_iload_n C dX5_of_6 rfl ?_
  refine q_imulN C dX5_of_7 ?_
  refine q_iconst C (v := nI 3) dX5_of_8 (by decide) ?_
  refine q_iload_n C dX5_of_9 rfl ?_
  refine q_imulN C dX5_of_10 ?_
  refine q_iaddN C dX5_of_11 ?_
  refine q_iload_n C dX5_of_12 rfl ?_
  refine q_iaddN C dX5_of_13 ?_
  refine x_ialdN C dX5_of_14 ia_Mkin (by decide) (by omega) ?_
  refine q_top (show Value.int _ = Value.int _ from congrArg Value.int ((hkd r hr k (by omega)).1)) ?_
  have hk4 := (hkd r hr k (by omega)).2
  have hL := kb_lf_lt hk
  refine q_iconst C (v := nI 2) dX5_of_15 (by decide) ?_
  refine q_irem C dX5_of_16 (by decide) ?_
  refine q_top (show Value.int _ = Value.int _ from congrArg Value.int (pk_rem (a := kd r k) (d := 2) (by omega) (by decide) (by decide))) ?_
  refine q_ifne C (tgt := 24) dX5_of_17 (by decide) (fun c17 => ?_) (fun c17 => ?_)
  · have hm : kd r k % 2 = 1 := by
      rcases Nat.mod_two_eq_zero_or_one (kd r k) with q | q
      · exact absurd (by rw [q]; rfl) c17
      · exact q
    refine q_iconst C (v := nI 0) dX5_of_24 (by decide) ?_
    refine q_istore C dX5_of_25 (by decide) rfl ?_
    refine q_aload_n C dX5_of_27 rfl ?_
    refine x_getR C (ci := 5) (k := 11) (C0 := RX5) (T := TX5) (NF := 15) (ref := RX5) (host := RX4) dX5_of_28 fr_Mat rfl iX5_of_X5 (by decide) (List.mem_of_getElem? (i := 2) rfl) rfl ?_
    refine q_iload_n C dX5_of_31 rfl ?_
    refine q_iload_n C dX5_of_32 rfl ?_
    refine q_callS (As := [_, _]) (nA := 2) C dX5_of_33 (m_mleft _ _ _ _ _) gX5_of_X5_left rfl (by decide +kernel) rfl ⟨Nat.le_of_ble_eq_true rfl, Nat.le_of_ble_eq_true rfl⟩ (Nat.le_of_ble_eq_true rfl) ⟨Nat.le_of_ble_eq_true rfl, Nat.le_of_ble_eq_true rfl⟩ (fun v33 g33 h33 => ?_)
    obtain ⟨rfl, rfl⟩ := h33
    refine q_top (show Value.int _ = Value.int _ from congrArg Value.int (nv_mleft r (by omega) k (by omega))) ?_
    refine q_iload C dX5_of_36 rfl ?_
    refine q_iload C dX5_of_38 rfl ?_
    refine q_icmpneN C (tgt := 47) dX5_of_40 (by decide) (by omega) (by omega) (fun c40 => ?_) (fun c40 => ?_)
    · refine q_iconst C (v := nI 1) dX5_of_47 (by decide) ?_
      refine q_iaddN C dX5_of_48 ?_
      refine x_ialdN C dX5_of_49 ia_Mat (by decide) (by omega) ?_
      refine q_top (show Value.int _ = Value.int _ from congrArg Value.int (hat _ (by omega))) ?_
      exact q_iret C dX5_of_50 ⟨by rw [hm]; first | (rw [if_pos (by omega)]; done) | (rw [if_neg (by omega)]; done) | (rw [if_pos (by omega)]; rfl) | (rw [if_neg (by omega)]; rfl), rfl⟩
    · refine q_iconst C (v := nI 0) dX5_of_43 (by decide) ?_
      refine q_goto C (tgt := 48) dX5_of_44 (by decide) ?_
      refine q_iaddN C dX5_of_48 ?_
      refine x_ialdN C dX5_of_49 ia_Mat (by decide) (by omega) ?_
      refine q_top (show Value.int _ = Value.int _ from congrArg Value.int (hat _ (by omega))) ?_
      exact q_iret C dX5_of_50 ⟨by rw [hm]; first | (rw [if_pos (by omega)]; done) | (rw [if_neg (by omega)]; done) | (rw [if_pos (by omega)]; rfl) | (rw [if_neg (by omega)]; rfl), rfl⟩
  · have hm : kd r k % 2 = 0 := by
      rcases Nat.mod_two_eq_zero_or_one (kd r k) with q | q
      · exact q
      · rw [q] at c17; exact absurd c17 (by decide)
    refine q_iconst C (v := nI 1) dX5_of_20 (by decide) ?_
    refine q_goto C (tgt := 25) dX5_of_21 (by decide) ?_
    refine q_istore C dX5_of_25 (by decide) rfl ?_
    refine q_aload_n C dX5_of_27 rfl ?_
    refine x_getR C (ci := 5) (k := 11) (C0 := RX5) (T := TX5) (NF := 15) (ref := RX5) (host := RX4) dX5_of_28 fr_Mat rfl iX5_of_X5 (by decide) (List.mem_of_getElem? (i := 2) rfl) rfl ?_
    refine q_iload_n C dX5_of_31 rfl ?_
    refine q_iload_n C dX5_of_32 rfl ?_
    refine q_callS (As := [_, _]) (nA := 2) C dX5_of_33 (m_mleft _ _ _ _ _) gX5_of_X5_left rfl (by decide +kernel) rfl ⟨Nat.le_of_ble_eq_true rfl, Nat.le_of_ble_eq_true rfl⟩ (Nat.le_of_ble_eq_true rfl) ⟨Nat.le_of_ble_eq_true rfl, Nat.le_of_ble_eq_true rfl⟩ (fun v33 g33 h33 => ?_)
    obtain ⟨rfl, rfl⟩ := h33
    refine q_top (show Value.int _ = Value.int _ from congrArg Value.int (nv_mleft r (by omega) k (by omega))) ?_
    refine q_iload C dX5_of_36 rfl ?_
    refine q_iload C dX5_of_38 rfl ?_
    refine q_icmpneN C (tgt := 47) dX5_of_40 (by decide) (by omega) (by omega) (fun c40 => ?_) (fun c40 => ?_)
    · refine q_iconst C (v := nI 1) dX5_of_47 (by decide) ?_
      refine q_iaddN C dX5_of_48 ?_
      refine x_ialdN C dX5_of_49 ia_Mat (by decide) (by omega) ?_
      refine q_top (show Value.int _ = Value.int _ from congrArg Value.int (hat _ (by omega))) ?_
      exact q_iret C dX5_of_50 ⟨by rw [hm]; first | (rw [if_pos (by omega)]; done) | (rw [if_neg (by omega)]; done) | (rw [if_pos (by omega)]; rfl) | (rw [if_neg (by omega)]; rfl), rfl⟩
    · refine q_iconst C (v := nI 0) dX5_of_43 (by decide) ?_
      refine q_goto C (tgt := 48) dX5_of_44 (by decide) ?_
      refine q_iaddN C dX5_of_48 ?_
      refine x_ialdN C dX5_of_49 ia_Mat (by decide) (by omega) ?_
      refine q_top (show Value.int _ = Value.int _ from congrArg Value.int (hat _ (by omega))) ?_
      exact q_iret C dX5_of_50 ⟨by rw [hm]; first | (rw [if_pos (by omega)]; done) | (rw [if_neg (by omega)]; done) | (rw [if_pos (by omega)]; rfl) | (rw [if_neg (by omega)]; rfl), rfl⟩
theorem iX5_showsOf_X5 : ∀ w ∈ wsX50, w ∈ wsX5_showsOf := fun _ h => List.mem_cons_of_mem _ (by first | exact h | exact List.mem_append_right _ h | exact List.mem_append_left _ (List.mem_append_right _ h) | exact List.mem_append_left _ (List.mem_append_left _ (List.mem_append_right _ h)) | exact List.mem_append_left _ (List.mem_append_left _ (List.mem_append_left _ (List.mem_append_right _ h))) | exact List.mem_append_left _ (List.mem_append_left _ (List.mem_append_left _ (List.mem_append_left _ (List.mem_append_right _ h)))) | exact List.mem_append_left _ (List.mem_append_left _ (List.mem_append_left _ (List.mem_append_left _ (List.mem_append_left _ (List.mem_append_right _ h))))))
set_option maxRecDepth 100000 in
set_option maxHeartbeats 4000000 in
/-- X5.showsOf -/
theorem m_showsOf (l : Launch) (E : kb_E) (X : Nat → Nat → Int32) (Y : Nat → Nat → Int64) (b n r k : Nat) (hb : b < 8) (hn : n ≤ 6) (hn2 : 2 ≤ n) (hr : r < 16) (hk : k < kb_kn n r) (hth : X 189 b = nI n) (kd : Nat → Nat → Nat) (hkd : ∀ r, r < 16 → ∀ k, k < 3 → X 192 (48 * b + 3 * r + k) = nI (kd r k) ∧ kd r k < 4) : kb_Met l E 202 yX5_showsOf wsX5_showsOf ({ frames := 2, cells := 0, slots := 0, locals := 47 }) [.ref (E.2.2.2 188), .int (nI b), .int (nI r), .int (nI k)] (kb_ent E X Y) (fun v g' => v = some (.int (X 191 (6 * b + kb_sh kd n r k))) ∧ ∃ X', g' = kb_ent E X' Y ∧ kb_ats (kb_at kd n r) X X') := by
  refine kb_enter (cc := cX5_showsOf) (maxL := 4) (ret := (some .int)) (by decide +kernel) rfl (by simp [Value.category]) (Nat.le_of_ble_eq_true rfl) ?_
  intro p e s m args below meth c C hini
  refine q_aload_n C dX5_showsOf_0 rfl ?_
  refine q_iload_n C dX5_showsOf_1 rfl ?_
  refine q_iload_n C dX5_showsOf_2 rfl ?_
  refine x_callV (As := [_, _]) (nA := 2) (T := TX5) (NF := 15) C dX5_showsOf_3 ob_M rfl (m_stands _ _ _ _ b n r hb hn hn2 (by omega) hth kd hkd) gX5_showsOf_X5_stands rfl (by decide +kernel) rfl ⟨Nat.le_of_ble_eq_true rfl, Nat.le_of_ble_eq_true rfl⟩ (Nat.le_of_ble_eq_true rfl) ⟨Nat.le_of_ble_eq_true rfl, Nat.le_of_ble_eq_true rfl⟩ (fun v3 g3 h3 => ?_)
  obtain ⟨rfl, X1, rfl, h1⟩ := h3
  refine q_aload_n C dX5_showsOf_6 rfl ?_
  refine x_getR C (ci := 5) (k := 5) (C0 := RX5) (T := TX5) (NF := 15) (ref := RX5) (host := RX4) dX5_showsOf_7 fr_Mcol rfl iX5_showsOf_X5 (by decide) (List.mem_of_getElem? (i := 1) rfl) rfl ?_
  refine q_bipush C (v := nI 6) dX5_showsOf_10 (by decide) ?_
  refine q_iload_n C dX5_showsOf_12 rfl ?_
  refine q_imulN C dX5_showsOf_13 ?_
  refine q_aload_n C dX5_showsOf_14 rfl ?_
  refine q_iload_n C dX5_showsOf_15 rfl ?_
  refine q_iload_n C dX5_showsOf_16 rfl ?_
  refine q_iload_n C dX5_showsOf_17 rfl ?_
  refine q_iconst C (v := nI 1) dX5_showsOf_18 (by decide) ?_
  have hshl : kb_sh kd n r k < n := kb_sh_lt hk
  refine x_callV (As := [_, _, _, _]) (nA := 4) (T := TX5) (NF := 15) C dX5_showsOf_19 ob_M rfl (m_of _ _ _ _ b n r k 1 hb hn hr hk (by have := kb_kn_le (r := r) hn; omega) (by decide) kd (by rw [h1.1 192 (by decide)]; exact hkd) (kb_at kd n r) h1.2) gX5_showsOf_X5_of rfl (by decide +kernel) rfl ⟨Nat.le_of_ble_eq_true rfl, Nat.le_of_ble_eq_true rfl⟩ (Nat.le_of_ble_eq_true rfl) ⟨Nat.le_of_ble_eq_true rfl, Nat.le_of_ble_eq_true rfl⟩ (fun v19 g19 h19 => ?_)
  obtain ⟨rfl, rfl⟩ := h19
  refine q_iaddN C dX5_showsOf_22 ?_
  refine x_ialdN C dX5_showsOf_23 ia_Mcol (by decide) (by show 6 * b + kb_sh kd n r k < 48; omega) ?_
  exact q_iret C dX5_showsOf_24 ⟨by rw [h1.1 191 (by decide)]; rfl, _, rfl, h1⟩

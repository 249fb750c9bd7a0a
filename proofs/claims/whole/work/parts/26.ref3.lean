/-! ===== the reference: isKnot, band, count, colour, knot, row, picture, see, must ===== -/
def kb_okKr (X : Nat → Nat → Int32) (b r k : Int32) : Prop := ¬ r < 0 ∧ ¬ X 190 (kb_tn b) ≤ r ∧ ¬ k < 0 ∧ ¬ kb_mknots (X 189 (kb_tn b)) r ≤ k
def kb_okK (X : Nat → Nat → Int32) (b r k : Int32) : Prop := kb_okB X b ∧ kb_okKr X b r k
theorem iX5_isKnot_X5 : ∀ w ∈ wsX50, w ∈ wsX5_isKnot := fun _ h => List.mem_cons_of_mem _ (by first | exact h | exact List.mem_append_right _ h | exact List.mem_append_left _ (List.mem_append_right _ h) | exact List.mem_append_left _ (List.mem_append_left _ (List.mem_append_right _ h)) | exact List.mem_append_left _ (List.mem_append_left _ (List.mem_append_left _ (List.mem_append_right _ h))) | exact List.mem_append_left _ (List.mem_append_left _ (List.mem_append_left _ (List.mem_append_left _ (List.mem_append_right _ h)))) | exact List.mem_append_left _ (List.mem_append_left _ (List.mem_append_left _ (List.mem_append_left _ (List.mem_append_left _ (List.mem_append_right _ h))))))
set_option maxRecDepth 100000 in
set_option maxHeartbeats 4000000 in
/-- X5.isKnot -/
theorem m_isKnot (l : Launch) (E : kb_E) (X : Nat → Nat → Int32) (Y : Nat → Nat → Int64) (b r k : Int32) (hMI : kb_MI X) : kb_Met l E 202 yX5_isKnot wsX5_isKnot ({ frames := 2, cells := 0, slots := 0, locals := 43 }) [.ref (E.2.2.2 188), .int b, .int r, .int k] (kb_ent E X Y) (fun v g' => (kb_okK X b r k ∧ v = some (.int (nI 1)) ∧ g' = kb_ent E (kb_thr X (nI 0)) Y) ∨ (¬ kb_okK X b r k ∧ v = some (.int (nI 0)) ∧ g' = kb_ent E (kb_thr X (nI 1)) Y)) := by
  refine kb_enter (cc := cX5_isKnot) (maxL := 4) (ret := (some .boolean)) (by decide +kernel) rfl (by simp [Value.category]) (Nat.le_of_ble_eq_true rfl) ?_
  intro p e s m args below meth c C hini
  refine q_aload_n C dX5_isKnot_0 rfl ?_
  refine q_iload_n C dX5_isKnot_1 rfl ?_
  refine x_callV (As := [_]) (nA := 1) (T := TX5) (NF := 15) C dX5_isKnot_2 ob_M rfl (m_isBand _ _ X Y b) gX5_isKnot_X5_isBand rfl (by decide +kernel) rfl ⟨Nat.le_of_ble_eq_true rfl, Nat.le_of_ble_eq_true rfl⟩ (Nat.le_of_ble_eq_true rfl) ⟨Nat.le_of_ble_eq_true rfl, Nat.le_of_ble_eq_true rfl⟩ (fun v2 g2 h2 => ?_)
  rcases h2 with ⟨hc2, rfl, rfl⟩ | ⟨hc2, rfl, rfl⟩
  · obtain ⟨b', hb', rfl, hb8⟩ := kb_okB_nat hMI hc2
    have eb : kb_tn (nI b') = b' := kb_tn_nI (by omega)
    refine q_ifeq C (tgt := 57) dX5_isKnot_5 (by decide) (fun c5 => ?_) (fun c5 => ?_)
    · exact absurd c5 (by decide)
    · refine q_aload_n C dX5_isKnot_8 rfl ?_
      refine q_cut 46 (P := kb_flag (kb_okKr X (nI b') r k)) (fun f46 hf46 => ?_) (fun J46 => ?_)
      · refine q_iconst C (v := nI 1) dX5_isKnot_46 (by decide) ?_
        refine x_callV (As := [_, _]) (nA := 2) (T := TX5) (NF := 15) C dX5_isKnot_47 ob_M rfl (m_right _ _ (kb_thr X (nI 0)) Y (kb_okKr X (nI b') r k) _ _ (by exact kb_thr_at) (by decide) hf46) gX5_isKnot_X5_right rfl (by decide +kernel) rfl ⟨Nat.le_of_ble_eq_true rfl, Nat.le_of_ble_eq_true rfl⟩ (Nat.le_of_ble_eq_true rfl) ⟨Nat.le_of_ble_eq_true rfl, Nat.le_of_ble_eq_true rfl⟩ (fun v47 g47 h47 => ?_)
        rcases h47 with ⟨hc47, rfl, rfl⟩ | ⟨hc47, rfl, rfl⟩
        · refine q_ifeq C (tgt := 57) dX5_isKnot_50 (by decide) (fun c50 => ?_) (fun c50 => ?_)
          · exact absurd c50 (by decide)
          · refine q_iconst C (v := nI 1) dX5_isKnot_53 (by decide) ?_
            refine q_goto C (tgt := 58) dX5_isKnot_54 (by decide) ?_
            exact q_zret C dX5_isKnot_58 (by decide) (Or.inl ⟨⟨hc2, hc47⟩, rfl, rfl⟩)
        · refine q_ifeq C (tgt := 57) dX5_isKnot_50 (by decide) (fun c50 => ?_) (fun c50 => ?_)
          · refine q_iconst C (v := nI 0) dX5_isKnot_57 (by decide) ?_
            exact q_zret C dX5_isKnot_58 (by decide) (Or.inr ⟨fun h => hc47 h.2, rfl, by rw [kb_thr_thr]⟩)
          · exact absurd (show nI 0 = 0 by decide) c50
      refine q_iload_n C dX5_isKnot_9 rfl ?_
      refine q_iflt C (tgt := 45) dX5_isKnot_10 (by decide) (fun c10 => ?_) (fun c10 => ?_)
      · refine q_iconst C (v := nI 0) dX5_isKnot_45 (by decide) ?_
        exact J46 _ (by unfold kb_okKr; rw [eb]; first | exact Or.inl ⟨rfl, c10, c20, c24, c38⟩ | exact Or.inr ⟨rfl, fun h => h.1 c10⟩ | exact Or.inr ⟨rfl, fun h => h.2.1 c20⟩ | exact Or.inr ⟨rfl, fun h => h.2.2.1 c24⟩ | exact Or.inr ⟨rfl, fun h => h.2.2.2 c38⟩)
      · refine q_iload_n C dX5_isKnot_13 rfl ?_
        refine q_aload_n C dX5_isKnot_14 rfl ?_
        refine x_getR C (ci := 5) (k := 4) (C0 := RX5) (T := TX5) (NF := 15) (ref := RX5) (host := RX4) dX5_isKnot_15 fr_Mrow rfl iX5_isKnot_X5 (by decide) (List.mem_of_getElem? (i := 1) rfl) rfl ?_
        refine q_iload_n C dX5_isKnot_18 rfl ?_
        refine x_ialdN C dX5_isKnot_19 ia_Mrow (by decide) (by omega) ?_
        refine q_icmpge C (tgt := 45) dX5_isKnot_20 (by decide) (fun c20 => ?_) (fun c20 => ?_)
        · refine q_iconst C (v := nI 0) dX5_isKnot_45 (by decide) ?_
          exact J46 _ (by unfold kb_okKr; rw [eb]; first | exact Or.inl ⟨rfl, c10, c20, c24, c38⟩ | exact Or.inr ⟨rfl, fun h => h.1 c10⟩ | exact Or.inr ⟨rfl, fun h => h.2.1 c20⟩ | exact Or.inr ⟨rfl, fun h => h.2.2.1 c24⟩ | exact Or.inr ⟨rfl, fun h => h.2.2.2 c38⟩)
        · refine q_iload_n C dX5_isKnot_23 rfl ?_
          refine q_iflt C (tgt := 45) dX5_isKnot_24 (by decide) (fun c24 => ?_) (fun c24 => ?_)
          · refine q_iconst C (v := nI 0) dX5_isKnot_45 (by decide) ?_
            exact J46 _ (by unfold kb_okKr; rw [eb]; first | exact Or.inl ⟨rfl, c10, c20, c24, c38⟩ | exact Or.inr ⟨rfl, fun h => h.1 c10⟩ | exact Or.inr ⟨rfl, fun h => h.2.1 c20⟩ | exact Or.inr ⟨rfl, fun h => h.2.2.1 c24⟩ | exact Or.inr ⟨rfl, fun h => h.2.2.2 c38⟩)
          · refine q_iload_n C dX5_isKnot_27 rfl ?_
            refine q_aload_n C dX5_isKnot_28 rfl ?_
            refine x_getR C (ci := 5) (k := 3) (C0 := RX5) (T := TX5) (NF := 15) (ref := RX5) (host := RX4) dX5_isKnot_29 fr_Mthr rfl iX5_isKnot_X5 (by decide) (List.mem_of_getElem? (i := 2) rfl) rfl ?_
            refine q_iload_n C dX5_isKnot_32 rfl ?_
            refine x_ialdN C dX5_isKnot_33 ia_Mthr (by decide) (by omega) ?_
            refine q_iload_n C dX5_isKnot_34 rfl ?_
            refine q_callS (As := [_, _]) (nA := 2) C dX5_isKnot_35 (m_mknots _ _ _ _ _) gX5_isKnot_X5_knots rfl (by decide +kernel) rfl ⟨Nat.le_of_ble_eq_true rfl, Nat.le_of_ble_eq_true rfl⟩ (Nat.le_of_ble_eq_true rfl) ⟨Nat.le_of_ble_eq_true rfl, Nat.le_of_ble_eq_true rfl⟩ (fun v35 g35 h35 => ?_)
            obtain ⟨rfl, rfl⟩ := h35
            refine q_icmpge C (tgt := 45) dX5_isKnot_38 (by decide) (fun c38 => ?_) (fun c38 => ?_)
            · refine q_iconst C (v := nI 0) dX5_isKnot_45 (by decide) ?_
              exact J46 _ (by unfold kb_okKr; rw [eb]; first | exact Or.inl ⟨rfl, c10, c20, c24, c38⟩ | exact Or.inr ⟨rfl, fun h => h.1 c10⟩ | exact Or.inr ⟨rfl, fun h => h.2.1 c20⟩ | exact Or.inr ⟨rfl, fun h => h.2.2.1 c24⟩ | exact Or.inr ⟨rfl, fun h => h.2.2.2 c38⟩)
            · refine q_iconst C (v := nI 1) dX5_isKnot_41 (by decide) ?_
              refine q_goto C (tgt := 46) dX5_isKnot_42 (by decide) ?_
              exact J46 _ (by unfold kb_okKr; rw [eb]; first | exact Or.inl ⟨rfl, c10, c20, c24, c38⟩ | exact Or.inr ⟨rfl, fun h => h.1 c10⟩ | exact Or.inr ⟨rfl, fun h => h.2.1 c20⟩ | exact Or.inr ⟨rfl, fun h => h.2.2.1 c24⟩ | exact Or.inr ⟨rfl, fun h => h.2.2.2 c38⟩)
  · refine q_ifeq C (tgt := 57) dX5_isKnot_5 (by decide) (fun c5 => ?_) (fun c5 => ?_)
    · refine q_iconst C (v := nI 0) dX5_isKnot_57 (by decide) ?_
      exact q_zret C dX5_isKnot_58 (by decide) (Or.inr ⟨fun h => hc2 h.1, rfl, rfl⟩)
    · exact absurd (show nI 0 = 0 by decide) c5
def kb_noB (X : Nat → Nat → Int32) (n : Int32) : Prop := kb_tn (X 188 1) = 8 ∨ n < nI 2 ∨ ¬ n ≤ nI 6
/-- the reference's state with a band more -/
def kb_mband (X : Nat → Nat → Int32) (n : Int32) : Nat → Nat → Int32 := va_up (va_up X 189 (upd (X 189) (kb_tn (X 188 1)) n)) 188 (upd (X 188) 1 (nI (kb_tn (X 188 1) + 1)))
theorem iX5_band_X5 : ∀ w ∈ wsX50, w ∈ wsX5_band := fun _ h => List.mem_cons_of_mem _ (by first | exact h | exact List.mem_append_right _ h | exact List.mem_append_left _ (List.mem_append_right _ h) | exact List.mem_append_left _ (List.mem_append_left _ (List.mem_append_right _ h)) | exact List.mem_append_left _ (List.mem_append_left _ (List.mem_append_left _ (List.mem_append_right _ h))) | exact List.mem_append_left _ (List.mem_append_left _ (List.mem_append_left _ (List.mem_append_left _ (List.mem_append_right _ h)))) | exact List.mem_append_left _ (List.mem_append_left _ (List.mem_append_left _ (List.mem_append_left _ (List.mem_append_left _ (List.mem_append_right _ h))))))
set_option maxRecDepth 100000 in
set_option maxHeartbeats 4000000 in
/-- X5.band -/
theorem m_mband (l : Launch) (E : kb_E) (X : Nat → Nat → Int32) (Y : Nat → Nat → Int64) (n : Int32) (hMI : kb_MI X) : kb_Met l E 202 yX5_band wsX5_band ({ frames := 0, cells := 0, slots := 0, locals := 0 }) [.ref (E.2.2.2 188), .int n] (kb_ent E X Y) (fun v g' => (kb_noB X n ∧ v = some (.int (-1)) ∧ g' = kb_ent E (kb_thr X (nI 0)) Y) ∨ (¬ kb_noB X n ∧ v = some (.int (nI (kb_tn (X 188 1)))) ∧ g' = kb_ent E (kb_mband (kb_thr X (nI 0)) n) Y)) := by
  refine kb_enter (cc := cX5_band) (maxL := 2) (ret := (some .int)) (by decide +kernel) rfl (by simp [Value.category]) (Nat.le_of_ble_eq_true rfl) ?_
  intro p e s m args below meth c C hini
  refine q_aload_n C dX5_band_0 rfl ?_
  refine q_iconst C (v := nI 0) dX5_band_1 (by decide) ?_
  refine x_putI C (ci := 5) (k := 0) (C0 := RX5) (T := TX5) (NF := 15) (ref := RX5) (host := RX4) (ty := .int) dX5_band_2 fi_Mthw rfl iX5_band_X5 tyX5_ok nmX5 (by decide) (List.mem_of_getElem? (i := 1) rfl) rfl rfl (by decide +kernel) rfl rfl ?_
  refine q_aload_n C dX5_band_5 rfl ?_
  refine x_getI C (ci := 5) (k := 1) (C0 := RX5) (T := TX5) (NF := 15) (ref := RX5) (host := RX4) dX5_band_6 fi_Mbc rfl iX5_band_X5 (by decide) (List.mem_of_getElem? (i := 2) rfl) rfl ?_
  refine q_top (show Value.int _ = Value.int _ from congrArg Value.int ((show kb_thr X (nI 0) 188 1 = nI (kb_tn (X 188 1)) from (kb_thr_k (by decide)).trans hMI.1.1.1))) ?_
  refine q_bipush C (v := nI 8) dX5_band_9 (by decide) ?_
  refine q_icmpeqN C (tgt := 25) dX5_band_11 (by decide) (by have := hMI.1.1.2; omega) (by omega) (fun c11 => ?_) (fun c11 => ?_)
  · refine q_iconst C (v := -1) dX5_band_25 (by decide) ?_
    exact q_iret C dX5_band_26 (by first | exact Or.inl ⟨Or.inl c11, rfl, rfl⟩ | exact Or.inl ⟨Or.inr (Or.inl c16), rfl, rfl⟩ | exact Or.inl ⟨Or.inr (Or.inr c22), rfl, rfl⟩)
  · refine q_iload_n C dX5_band_14 rfl ?_
    refine q_iconst C (v := nI 2) dX5_band_15 (by decide) ?_
    refine q_icmplt C (tgt := 25) dX5_band_16 (by decide) (fun c16 => ?_) (fun c16 => ?_)
    · refine q_iconst C (v := -1) dX5_band_25 (by decide) ?_
      exact q_iret C dX5_band_26 (by first | exact Or.inl ⟨Or.inl c11, rfl, rfl⟩ | exact Or.inl ⟨Or.inr (Or.inl c16), rfl, rfl⟩ | exact Or.inl ⟨Or.inr (Or.inr c22), rfl, rfl⟩)
    · refine q_iload_n C dX5_band_19 rfl ?_
      refine q_bipush C (v := nI 6) dX5_band_20 (by decide) ?_
      refine q_icmple C (tgt := 27) dX5_band_22 (by decide) (fun c22 => ?_) (fun c22 => ?_)
      · refine q_aload_n C dX5_band_27 rfl ?_
        refine x_getR C (ci := 5) (k := 3) (C0 := RX5) (T := TX5) (NF := 15) (ref := RX5) (host := RX4) dX5_band_28 fr_Mthr rfl iX5_band_X5 (by decide) (List.mem_of_getElem? (i := 3) rfl) rfl ?_
        refine q_aload_n C dX5_band_31 rfl ?_
        refine x_getI C (ci := 5) (k := 1) (C0 := RX5) (T := TX5) (NF := 15) (ref := RX5) (host := RX4) dX5_band_32 fi_Mbc rfl iX5_band_X5 (by decide) (List.mem_of_getElem? (i := 2) rfl) rfl ?_
        refine q_top (show Value.int _ = Value.int _ from congrArg Value.int ((show kb_thr X (nI 0) 188 1 = nI (kb_tn (X 188 1)) from (kb_thr_k (by decide)).trans hMI.1.1.1))) ?_
        refine q_iload_n C dX5_band_35 rfl ?_
        refine x_iastN C dX5_band_36 ia_Mthr (by decide) (by have := hMI.1.1.2; omega) ?_
        refine q_aload_n C dX5_band_37 rfl ?_
        refine q_dup C dX5_band_38 rfl ?_
        refine x_getI C (ci := 5) (k := 1) (C0 := RX5) (T := TX5) (NF := 15) (ref := RX5) (host := RX4) dX5_band_39 fi_Mbc rfl iX5_band_X5 (by decide) (List.mem_of_getElem? (i := 2) rfl) rfl ?_
        refine q_top (show Value.int _ = Value.int _ from congrArg Value.int ((show (va_up (kb_thr X (nI 0)) 189 _) 188 1 = nI (kb_tn (X 188 1)) from ((congrFun (kb_up_ne (by decide)) 1).trans (kb_thr_k (by decide))).trans hMI.1.1.1))) ?_
        refine q_iconst C (v := nI 1) dX5_band_42 (by decide) ?_
        refine q_iaddN C dX5_band_43 ?_
        refine x_putI C (ci := 5) (k := 1) (C0 := RX5) (T := TX5) (NF := 15) (ref := RX5) (host := RX4) (ty := .int) dX5_band_44 fi_Mbc rfl iX5_band_X5 tyX5_ok nmX5 (by decide) (List.mem_of_getElem? (i := 2) rfl) rfl rfl (by decide +kernel) rfl rfl ?_
        refine q_aload_n C dX5_band_47 rfl ?_
        refine x_getI C (ci := 5) (k := 1) (C0 := RX5) (T := TX5) (NF := 15) (ref := RX5) (host := RX4) dX5_band_48 fi_Mbc rfl iX5_band_X5 (by decide) (List.mem_of_getElem? (i := 2) rfl) rfl ?_
        refine q_top (show Value.int _ = Value.int _ from congrArg Value.int ((show va_up (va_up (kb_thr X (nI 0)) 189 _) 188 (upd _ 1 (nI (kb_tn (X 188 1) + 1))) 188 1 = nI (kb_tn (X 188 1) + 1) from by simp [va_up, upd]))) ?_
        refine q_iconst C (v := nI 1) dX5_band_51 (by decide) ?_
        refine q_isubN C dX5_band_52 (by omega) ?_
        exact q_iret C dX5_band_53 (Or.inr ⟨fun h => by rcases h with h | h | h <;> first | exact c11 h | exact c16 h | exact h c22, by simp, by unfold kb_mband; rw [kb_thr_ne (show 189 ≠ 188 by decide), kb_thr_k (show 1 ≠ 0 by decide)]; rfl⟩)
      · refine q_iconst C (v := -1) dX5_band_25 (by decide) ?_
        exact q_iret C dX5_band_26 (by first | exact Or.inl ⟨Or.inl c11, rfl, rfl⟩ | exact Or.inl ⟨Or.inr (Or.inl c16), rfl, rfl⟩ | exact Or.inl ⟨Or.inr (Or.inr c22), rfl, rfl⟩)
/-- how a call of the reference ends: refused with 1, with 2, or done -/
def kb_out (E : kb_E) (X : Nat → Nat → Int32) (Y : Nat → Nat → Int64) (c1 c2 : Prop) (R : Int32 → (Nat → Nat → Int32) → Prop) (v : Option Value) (g' : Nat → va_E) : Prop :=
  ∃ r, v = some (.int r) ∧ ((¬ c1 ∧ g' = kb_ent E (kb_thr X (nI 1)) Y) ∨ (c1 ∧ ¬ c2 ∧ g' = kb_ent E (kb_thr X (nI 2)) Y) ∨ (c1 ∧ c2 ∧ ∃ X', g' = kb_ent E X' Y ∧ X' 188 0 = nI 0 ∧ R r X'))
theorem kb_lt_nat {t x : Int32} {n : Nat} (h0 : ¬ t < 0) (h1 : ¬ x ≤ t) (hx : x = nI n) : ∃ k, k < n ∧ t = nI k := by
  obtain ⟨j, hj, rfl⟩ := nI_of h0
  refine ⟨j, ?_, rfl⟩
  rcases Nat.lt_or_ge j n with q | q
  · exact q
  · exact absurd (by rw [hx]; exact nI_le q hj) h1
theorem kb_le_nat {t : Int32} {n : Nat} (hn : n < 2 ^ 31) (h0 : ¬ t < 0) (h1 : ¬ nI n < t) : ∃ k, k ≤ n ∧ t = nI k := by
  obtain ⟨j, hj, rfl⟩ := nI_of h0
  refine ⟨j, ?_, rfl⟩
  rcases Nat.lt_or_ge n j with q | q
  · exact absurd (nI_lt q hj) h1
  · exact q
theorem kb_ge_neg {t : Int32} {n : Nat} (hn : n < 2 ^ 31) (h0 : ¬ t < -1) (h1 : ¬ nI n < t) : t = -1 ∨ ∃ k, k ≤ n ∧ t = nI k := by
  by_cases h : t < 0
  · left
    rw [Int32.lt_iff_toInt_lt] at h h0
    apply Int32.toInt_inj.mp
    have e1 : (-1 : Int32).toInt = -1 := by decide
    have e2 : (0 : Int32).toInt = 0 := by decide
    rw [e1] at h0 ⊢
    rw [e2] at h
    omega
  · exact Or.inr (kb_le_nat hn h h1)
theorem iX5_colour_X5 : ∀ w ∈ wsX50, w ∈ wsX5_colour := fun _ h => List.mem_cons_of_mem _ (by first | exact h | exact List.mem_append_right _ h | exact List.mem_append_left _ (List.mem_append_right _ h) | exact List.mem_append_left _ (List.mem_append_left _ (List.mem_append_right _ h)) | exact List.mem_append_left _ (List.mem_append_left _ (List.mem_append_left _ (List.mem_append_right _ h))) | exact List.mem_append_left _ (List.mem_append_left _ (List.mem_append_left _ (List.mem_append_left _ (List.mem_append_right _ h)))) | exact List.mem_append_left _ (List.mem_append_left _ (List.mem_append_left _ (List.mem_append_left _ (List.mem_append_left _ (List.mem_append_right _ h))))))
set_option maxRecDepth 100000 in
set_option maxHeartbeats 4000000 in
/-- X5.colour -/
theorem m_mcolour (l : Launch) (E : kb_E) (X : Nat → Nat → Int32) (Y : Nat → Nat → Int64) (b t c0 : Int32) (hMI : kb_MI X) : kb_Met l E 202 yX5_colour wsX5_colour ({ frames := 2, cells := 0, slots := 0, locals := 43 }) [.ref (E.2.2.2 188), .int b, .int t, .int c0] (kb_ent E X Y) (kb_out E X Y (kb_okB X b ∧ (¬ t < 0 ∧ ¬ X 189 (kb_tn b) ≤ t)) (¬ c0 < 0 ∧ ¬ nI 3 < c0) (fun r X' => r = X 191 (6 * kb_tn b + kb_tn t) ∧ X' = va_up (kb_thr X (nI 0)) 191 (upd (X 191) (6 * kb_tn b + kb_tn t) c0))) := by
  refine kb_enter (cc := cX5_colour) (maxL := 5) (ret := (some .int)) (by decide +kernel) rfl (by simp [Value.category]) (Nat.le_of_ble_eq_true rfl) ?_
  intro p e s m args below meth c C hini
  refine q_aload_n C dX5_colour_0 rfl ?_
  refine q_iload_n C dX5_colour_1 rfl ?_
  refine x_callV (As := [_]) (nA := 1) (T := TX5) (NF := 15) C dX5_colour_2 ob_M rfl (m_isBand _ _ X Y b) gX5_colour_X5_isBand rfl (by decide +kernel) rfl ⟨Nat.le_of_ble_eq_true rfl, Nat.le_of_ble_eq_true rfl⟩ (Nat.le_of_ble_eq_true rfl) ⟨Nat.le_of_ble_eq_true rfl, Nat.le_of_ble_eq_true rfl⟩ (fun v2 g2 h2 => ?_)
  rcases h2 with ⟨hc2, rfl, rfl⟩ | ⟨hc2, rfl, rfl⟩
  · obtain ⟨b', hb', rfl, hb8⟩ := kb_okB_nat hMI hc2
    have eb : kb_tn (nI b') = b' := kb_tn_nI (by omega)
    have hnb := hMI.2.1 b' hb'
    refine q_ifeq C (tgt := 57) dX5_colour_5 (by decide) (fun c5 => ?_) (fun c5 => ?_)
    · exact absurd c5 (by decide)
    · refine q_aload_n C dX5_colour_8 rfl ?_
      refine q_cut 28 (P := kb_flag (¬ t < 0 ∧ ¬ X 189 (kb_tn (nI b')) ≤ t)) (fun f28 hf28 => ?_) (fun J28 => ?_)
      · refine q_iconst C (v := nI 1) dX5_colour_28 (by decide) ?_
        refine x_callV (As := [_, _]) (nA := 2) (T := TX5) (NF := 15) C dX5_colour_29 ob_M rfl (m_right _ _ (kb_thr X (nI 0)) Y ((¬ t < 0 ∧ ¬ X 189 (kb_tn (nI b')) ≤ t)) _ _ (by exact kb_thr_at) (by decide) hf28) gX5_colour_X5_right rfl (by decide +kernel) rfl ⟨Nat.le_of_ble_eq_true rfl, Nat.le_of_ble_eq_true rfl⟩ (Nat.le_of_ble_eq_true rfl) ⟨Nat.le_of_ble_eq_true rfl, Nat.le_of_ble_eq_true rfl⟩ (fun v29 g29 h29 => ?_)
        rcases h29 with ⟨hc29, rfl, rfl⟩ | ⟨hc29, rfl, rfl⟩
        · have hc29' := hc29
          rw [eb] at hc29'
          obtain ⟨t', ht', rfl⟩ := kb_lt_nat hc29'.1 hc29'.2 hnb.1.1
          have hn6 := hnb.1.2
          refine q_ifeq C (tgt := 57) dX5_colour_32 (by decide) (fun c32 => ?_) (fun c32 => ?_)
          · exact absurd c32 (by decide)
          · refine q_aload_n C dX5_colour_35 rfl ?_
            refine q_cut 50 (P := kb_flag (¬ c0 < 0 ∧ ¬ nI 3 < c0)) (fun f50 hf50 => ?_) (fun J50 => ?_)
            · refine q_iconst C (v := nI 2) dX5_colour_50 (by decide) ?_
              refine x_callV (As := [_, _]) (nA := 2) (T := TX5) (NF := 15) C dX5_colour_51 ob_M rfl (m_right _ _ (kb_thr X (nI 0)) Y ((¬ c0 < 0 ∧ ¬ nI 3 < c0)) _ _ (by exact kb_thr_at) (by decide) hf50) gX5_colour_X5_right rfl (by decide +kernel) rfl ⟨Nat.le_of_ble_eq_true rfl, Nat.le_of_ble_eq_true rfl⟩ (Nat.le_of_ble_eq_true rfl) ⟨Nat.le_of_ble_eq_true rfl, Nat.le_of_ble_eq_true rfl⟩ (fun v51 g51 h51 => ?_)
              rcases h51 with ⟨hc51, rfl, rfl⟩ | ⟨hc51, rfl, rfl⟩
              · refine q_ifne C (tgt := 59) dX5_colour_54 (by decide) (fun c54 => ?_) (fun c54 => ?_)
                · refine q_aload_n C dX5_colour_59 rfl ?_
                  refine x_getR C (ci := 5) (k := 5) (C0 := RX5) (T := TX5) (NF := 15) (ref := RX5) (host := RX4) dX5_colour_60 fr_Mcol rfl iX5_colour_X5 (by decide) (List.mem_of_getElem? (i := 2) rfl) rfl ?_
                  refine q_bipush C (v := nI 6) dX5_colour_63 (by decide) ?_
                  refine q_iload_n C dX5_colour_65 rfl ?_
                  refine q_imulN C dX5_colour_66 ?_
                  refine q_iload_n C dX5_colour_67 rfl ?_
                  refine q_iaddN C dX5_colour_68 ?_
                  refine x_ialdN C dX5_colour_69 ia_Mcol (by decide) (by omega) ?_
                  refine q_istore C dX5_colour_70 (by decide) rfl ?_
                  refine q_aload_n C dX5_colour_72 rfl ?_
                  refine x_getR C (ci := 5) (k := 5) (C0 := RX5) (T := TX5) (NF := 15) (ref := RX5) (host := RX4) dX5_colour_73 fr_Mcol rfl iX5_colour_X5 (by decide) (List.mem_of_getElem? (i := 2) rfl) rfl ?_
                  refine q_bipush C (v := nI 6) dX5_colour_76 (by decide) ?_
                  refine q_iload_n C dX5_colour_78 rfl ?_
                  refine q_imulN C dX5_colour_79 ?_
                  refine q_iload_n C dX5_colour_80 rfl ?_
                  refine q_iaddN C dX5_colour_81 ?_
                  refine q_iload_n C dX5_colour_82 rfl ?_
                  refine x_iastN C dX5_colour_83 ia_Mcol (by decide) (by omega) ?_
                  refine q_iload C dX5_colour_84 rfl ?_
                  exact q_iret C dX5_colour_86 ⟨_, rfl, Or.inr (Or.inr ⟨⟨hc2, hc29⟩, hc51, _, rfl, by simp only [va_up, if_neg (show (188 : Nat) ≠ 191 by decide)]; exact kb_thr_at, by rw [kb_thr_ne (by decide), eb, kb_tn_nI (by omega)], by rw [kb_thr_ne (by decide), eb, kb_tn_nI (by omega)]⟩)⟩
                · exact absurd c54 (by decide)
              · refine q_ifne C (tgt := 59) dX5_colour_54 (by decide) (fun c54 => ?_) (fun c54 => ?_)
                · exact absurd (show nI 0 = 0 by decide) c54
                · refine q_iconst C (v := nI 0) dX5_colour_57 (by decide) ?_
                  exact q_iret C dX5_colour_58 ⟨_, rfl, Or.inr (Or.inl ⟨⟨hc2, hc29⟩, fun h => hc51 h, by rw [kb_thr_thr]⟩)⟩
            refine q_iload_n C dX5_colour_36 rfl ?_
            refine q_iflt C (tgt := 49) dX5_colour_37 (by decide) (fun c37 => ?_) (fun c37 => ?_)
            · refine q_iconst C (v := nI 0) dX5_colour_49 (by decide) ?_
              exact J50 _ (by first | exact Or.inl ⟨rfl, c37, c42⟩ | exact Or.inr ⟨rfl, fun h => h.1 c37⟩ | exact Or.inr ⟨rfl, fun h => h.2 c42⟩)
            · refine q_iload_n C dX5_colour_40 rfl ?_
              refine q_iconst C (v := nI 3) dX5_colour_41 (by decide) ?_
              refine q_icmpgt C (tgt := 49) dX5_colour_42 (by decide) (fun c42 => ?_) (fun c42 => ?_)
              · refine q_iconst C (v := nI 0) dX5_colour_49 (by decide) ?_
                exact J50 _ (by first | exact Or.inl ⟨rfl, c37, c42⟩ | exact Or.inr ⟨rfl, fun h => h.1 c37⟩ | exact Or.inr ⟨rfl, fun h => h.2 c42⟩)
              · refine q_iconst C (v := nI 1) dX5_colour_45 (by decide) ?_
                refine q_goto C (tgt := 50) dX5_colour_46 (by decide) ?_
                exact J50 _ (by first | exact Or.inl ⟨rfl, c37, c42⟩ | exact Or.inr ⟨rfl, fun h => h.1 c37⟩ | exact Or.inr ⟨rfl, fun h => h.2 c42⟩)
        · refine q_ifeq C (tgt := 57) dX5_colour_32 (by decide) (fun c32 => ?_) (fun c32 => ?_)
          · refine q_iconst C (v := nI 0) dX5_colour_57 (by decide) ?_
            exact q_iret C dX5_colour_58 ⟨_, rfl, Or.inl ⟨fun h => hc29 h.2, by rw [kb_thr_thr]⟩⟩
          · exact absurd (show nI 0 = 0 by decide) c32
      refine q_iload_n C dX5_colour_9 rfl ?_
      refine q_iflt C (tgt := 27) dX5_colour_10 (by decide) (fun c10 => ?_) (fun c10 => ?_)
      · refine q_iconst C (v := nI 0) dX5_colour_27 (by decide) ?_
        exact J28 _ (by rw [eb]; first | exact Or.inl ⟨rfl, c10, c20⟩ | exact Or.inr ⟨rfl, fun h => h.1 c10⟩ | exact Or.inr ⟨rfl, fun h => h.2 c20⟩)
      · refine q_iload_n C dX5_colour_13 rfl ?_
        refine q_aload_n C dX5_colour_14 rfl ?_
        refine x_getR C (ci := 5) (k := 3) (C0 := RX5) (T := TX5) (NF := 15) (ref := RX5) (host := RX4) dX5_colour_15 fr_Mthr rfl iX5_colour_X5 (by decide) (List.mem_of_getElem? (i := 1) rfl) rfl ?_
        refine q_iload_n C dX5_colour_18 rfl ?_
        refine x_ialdN C dX5_colour_19 ia_Mthr (by decide) (by omega) ?_
        refine q_icmpge C (tgt := 27) dX5_colour_20 (by decide) (fun c20 => ?_) (fun c20 => ?_)
        · refine q_iconst C (v := nI 0) dX5_colour_27 (by decide) ?_
          exact J28 _ (by rw [eb]; first | exact Or.inl ⟨rfl, c10, c20⟩ | exact Or.inr ⟨rfl, fun h => h.1 c10⟩ | exact Or.inr ⟨rfl, fun h => h.2 c20⟩)
        · refine q_iconst C (v := nI 1) dX5_colour_23 (by decide) ?_
          refine q_goto C (tgt := 28) dX5_colour_24 (by decide) ?_
          exact J28 _ (by rw [eb]; first | exact Or.inl ⟨rfl, c10, c20⟩ | exact Or.inr ⟨rfl, fun h => h.1 c10⟩ | exact Or.inr ⟨rfl, fun h => h.2 c20⟩)
  · refine q_ifeq C (tgt := 57) dX5_colour_5 (by decide) (fun c5 => ?_) (fun c5 => ?_)
    · refine q_iconst C (v := nI 0) dX5_colour_57 (by decide) ?_
      exact q_iret C dX5_colour_58 ⟨_, rfl, Or.inl ⟨fun h => hc2 h.1, rfl⟩⟩
    · exact absurd (show nI 0 = 0 by decide) c5
theorem iX5_must_X5 : ∀ w ∈ wsX50, w ∈ wsX5_must := fun _ h => List.mem_cons_of_mem _ (by first | exact h | exact List.mem_append_right _ h | exact List.mem_append_left _ (List.mem_append_right _ h) | exact List.mem_append_left _ (List.mem_append_left _ (List.mem_append_right _ h)) | exact List.mem_append_left _ (List.mem_append_left _ (List.mem_append_left _ (List.mem_append_right _ h))) | exact List.mem_append_left _ (List.mem_append_left _ (List.mem_append_left _ (List.mem_append_left _ (List.mem_append_right _ h)))) | exact List.mem_append_left _ (List.mem_append_left _ (List.mem_append_left _ (List.mem_append_left _ (List.mem_append_left _ (List.mem_append_right _ h))))))
set_option maxRecDepth 100000 in
set_option maxHeartbeats 4000000 in
/-- X5.must -/
theorem m_mmust (l : Launch) (E : kb_E) (X : Nat → Nat → Int32) (Y : Nat → Nat → Int64) (b t c0 : Int32) (hMI : kb_MI X) : kb_Met l E 202 yX5_must wsX5_must ({ frames := 2, cells := 0, slots := 0, locals := 43 }) [.ref (E.2.2.2 188), .int b, .int t, .int c0] (kb_ent E X Y) (kb_out E X Y (kb_okP X b ∧ (¬ t < 0 ∧ ¬ X 193 (kb_tn b) ≤ t)) (¬ c0 < 0 ∧ ¬ nI 4 < c0) (fun r X' => r = X 196 (6 * kb_tn b + kb_tn t) ∧ X' = va_up (kb_thr X (nI 0)) 196 (upd (X 196) (6 * kb_tn b + kb_tn t) c0))) := by
  refine kb_enter (cc := cX5_must) (maxL := 5) (ret := (some .int)) (by decide +kernel) rfl (by simp [Value.category]) (Nat.le_of_ble_eq_true rfl) ?_
  intro p e s m args below meth c C hini
  refine q_aload_n C dX5_must_0 rfl ?_
  refine q_iload_n C dX5_must_1 rfl ?_
  refine x_callV (As := [_]) (nA := 1) (T := TX5) (NF := 15) C dX5_must_2 ob_M rfl (m_isPicture _ _ X Y b) gX5_must_X5_isPicture rfl (by decide +kernel) rfl ⟨Nat.le_of_ble_eq_true rfl, Nat.le_of_ble_eq_true rfl⟩ (Nat.le_of_ble_eq_true rfl) ⟨Nat.le_of_ble_eq_true rfl, Nat.le_of_ble_eq_true rfl⟩ (fun v2 g2 h2 => ?_)
  rcases h2 with ⟨hc2, rfl, rfl⟩ | ⟨hc2, rfl, rfl⟩
  · obtain ⟨b', hb', rfl, hb8⟩ := kb_okP_nat hMI hc2
    have eb : kb_tn (nI b') = b' := kb_tn_nI (by omega)
    have hnb := hMI.2.2.2.2.1 b' hb'
    refine q_ifeq C (tgt := 57) dX5_must_5 (by decide) (fun c5 => ?_) (fun c5 => ?_)
    · exact absurd c5 (by decide)
    · refine q_aload_n C dX5_must_8 rfl ?_
      refine q_cut 28 (P := kb_flag (¬ t < 0 ∧ ¬ X 193 (kb_tn (nI b')) ≤ t)) (fun f28 hf28 => ?_) (fun J28 => ?_)
      · refine q_iconst C (v := nI 1) dX5_must_28 (by decide) ?_
        refine x_callV (As := [_, _]) (nA := 2) (T := TX5) (NF := 15) C dX5_must_29 ob_M rfl (m_right _ _ (kb_thr X (nI 0)) Y ((¬ t < 0 ∧ ¬ X 193 (kb_tn (nI b')) ≤ t)) _ _ (by exact kb_thr_at) (by decide) hf28) gX5_must_X5_right rfl (by decide +kernel) rfl ⟨Nat.le_of_ble_eq_true rfl, Nat.le_of_ble_eq_true rfl⟩ (Nat.le_of_ble_eq_true rfl) ⟨Nat.le_of_ble_eq_true rfl, Nat.le_of_ble_eq_true rfl⟩ (fun v29 g29 h29 => ?_)
        rcases h29 with ⟨hc29, rfl, rfl⟩ | ⟨hc29, rfl, rfl⟩
        · have hc29' := hc29
          rw [eb] at hc29'
          obtain ⟨t', ht', rfl⟩ := kb_lt_nat hc29'.1 hc29'.2 hnb.1.1
          have hn6 := hnb.1.2
          refine q_ifeq C (tgt := 57) dX5_must_32 (by decide) (fun c32 => ?_) (fun c32 => ?_)
          · exact absurd c32 (by decide)
          · refine q_aload_n C dX5_must_35 rfl ?_
            refine q_cut 50 (P := kb_flag (¬ c0 < 0 ∧ ¬ nI 4 < c0)) (fun f50 hf50 => ?_) (fun J50 => ?_)
            · refine q_iconst C (v := nI 2) dX5_must_50 (by decide) ?_
              refine x_callV (As := [_, _]) (nA := 2) (T := TX5) (NF := 15) C dX5_must_51 ob_M rfl (m_right _ _ (kb_thr X (nI 0)) Y ((¬ c0 < 0 ∧ ¬ nI 4 < c0)) _ _ (by exact kb_thr_at) (by decide) hf50) gX5_must_X5_right rfl (by decide +kernel) rfl ⟨Nat.le_of_ble_eq_true rfl, Nat.le_of_ble_eq_true rfl⟩ (Nat.le_of_ble_eq_true rfl) ⟨Nat.le_of_ble_eq_true rfl, Nat.le_of_ble_eq_true rfl⟩ (fun v51 g51 h51 => ?_)
              rcases h51 with ⟨hc51, rfl, rfl⟩ | ⟨hc51, rfl, rfl⟩
              · refine q_ifne C (tgt := 59) dX5_must_54 (by decide) (fun c54 => ?_) (fun c54 => ?_)
                · refine q_aload_n C dX5_must_59 rfl ?_
                  refine x_getR C (ci := 5) (k := 10) (C0 := RX5) (T := TX5) (NF := 15) (ref := RX5) (host := RX4) dX5_must_60 fr_Mmus rfl iX5_must_X5 (by decide) (List.mem_of_getElem? (i := 2) rfl) rfl ?_
                  refine q_bipush C (v := nI 6) dX5_must_63 (by decide) ?_
                  refine q_iload_n C dX5_must_65 rfl ?_
                  refine q_imulN C dX5_must_66 ?_
                  refine q_iload_n C dX5_must_67 rfl ?_
                  refine q_iaddN C dX5_must_68 ?_
                  refine x_ialdN C dX5_must_69 ia_Mmus (by decide) (by omega) ?_
                  refine q_istore C dX5_must_70 (by decide) rfl ?_
                  refine q_aload_n C dX5_must_72 rfl ?_
                  refine x_getR C (ci := 5) (k := 10) (C0 := RX5) (T := TX5) (NF := 15) (ref := RX5) (host := RX4) dX5_must_73 fr_Mmus rfl iX5_must_X5 (by decide) (List.mem_of_getElem? (i := 2) rfl) rfl ?_
                  refine q_bipush C (v := nI 6) dX5_must_76 (by decide) ?_
                  refine q_iload_n C dX5_must_78 rfl ?_
                  refine q_imulN C dX5_must_79 ?_
                  refine q_iload_n C dX5_must_80 rfl ?_
                  refine q_iaddN C dX5_must_81 ?_
                  refine q_iload_n C dX5_must_82 rfl ?_
                  refine x_iastN C dX5_must_83 ia_Mmus (by decide) (by omega) ?_
                  refine q_iload C dX5_must_84 rfl ?_
                  exact q_iret C dX5_must_86 ⟨_, rfl, Or.inr (Or.inr ⟨⟨hc2, hc29⟩, hc51, _, rfl, by simp only [va_up, if_neg (show (188 : Nat) ≠ 196 by decide)]; exact kb_thr_at, by rw [kb_thr_ne (by decide), eb, kb_tn_nI (by omega)], by rw [kb_thr_ne (by decide), eb, kb_tn_nI (by omega)]⟩)⟩
                · exact absurd c54 (by decide)
              · refine q_ifne C (tgt := 59) dX5_must_54 (by decide) (fun c54 => ?_) (fun c54 => ?_)
                · exact absurd (show nI 0 = 0 by decide) c54
                · refine q_iconst C (v := nI 0) dX5_must_57 (by decide) ?_
                  exact q_iret C dX5_must_58 ⟨_, rfl, Or.inr (Or.inl ⟨⟨hc2, hc29⟩, fun h => hc51 h, by rw [kb_thr_thr]⟩)⟩
            refine q_iload_n C dX5_must_36 rfl ?_
            refine q_iflt C (tgt := 49) dX5_must_37 (by decide) (fun c37 => ?_) (fun c37 => ?_)
            · refine q_iconst C (v := nI 0) dX5_must_49 (by decide) ?_
              exact J50 _ (by first | exact Or.inl ⟨rfl, c37, c42⟩ | exact Or.inr ⟨rfl, fun h => h.1 c37⟩ | exact Or.inr ⟨rfl, fun h => h.2 c42⟩)
            · refine q_iload_n C dX5_must_40 rfl ?_
              refine q_iconst C (v := nI 4) dX5_must_41 (by decide) ?_
              refine q_icmpgt C (tgt := 49) dX5_must_42 (by decide) (fun c42 => ?_) (fun c42 => ?_)
              · refine q_iconst C (v := nI 0) dX5_must_49 (by decide) ?_
                exact J50 _ (by first | exact Or.inl ⟨rfl, c37, c42⟩ | exact Or.inr ⟨rfl, fun h => h.1 c37⟩ | exact Or.inr ⟨rfl, fun h => h.2 c42⟩)
              · refine q_iconst C (v := nI 1) dX5_must_45 (by decide) ?_
                refine q_goto C (tgt := 50) dX5_must_46 (by decide) ?_
                exact J50 _ (by first | exact Or.inl ⟨rfl, c37, c42⟩ | exact Or.inr ⟨rfl, fun h => h.1 c37⟩ | exact Or.inr ⟨rfl, fun h => h.2 c42⟩)
        · refine q_ifeq C (tgt := 57) dX5_must_32 (by decide) (fun c32 => ?_) (fun c32 => ?_)
          · refine q_iconst C (v := nI 0) dX5_must_57 (by decide) ?_
            exact q_iret C dX5_must_58 ⟨_, rfl, Or.inl ⟨fun h => hc29 h.2, by rw [kb_thr_thr]⟩⟩
          · exact absurd (show nI 0 = 0 by decide) c32
      refine q_iload_n C dX5_must_9 rfl ?_
      refine q_iflt C (tgt := 27) dX5_must_10 (by decide) (fun c10 => ?_) (fun c10 => ?_)
      · refine q_iconst C (v := nI 0) dX5_must_27 (by decide) ?_
        exact J28 _ (by rw [eb]; first | exact Or.inl ⟨rfl, c10, c20⟩ | exact Or.inr ⟨rfl, fun h => h.1 c10⟩ | exact Or.inr ⟨rfl, fun h => h.2 c20⟩)
      · refine q_iload_n C dX5_must_13 rfl ?_
        refine q_aload_n C dX5_must_14 rfl ?_
        refine x_getR C (ci := 5) (k := 7) (C0 := RX5) (T := TX5) (NF := 15) (ref := RX5) (host := RX4) dX5_must_15 fr_Mwid rfl iX5_must_X5 (by decide) (List.mem_of_getElem? (i := 1) rfl) rfl ?_
        refine q_iload_n C dX5_must_18 rfl ?_
        refine x_ialdN C dX5_must_19 ia_Mwid (by decide) (by omega) ?_
        refine q_icmpge C (tgt := 27) dX5_must_20 (by decide) (fun c20 => ?_) (fun c20 => ?_)
        · refine q_iconst C (v := nI 0) dX5_must_27 (by decide) ?_
          exact J28 _ (by rw [eb]; first | exact Or.inl ⟨rfl, c10, c20⟩ | exact Or.inr ⟨rfl, fun h => h.1 c10⟩ | exact Or.inr ⟨rfl, fun h => h.2 c20⟩)
        · refine q_iconst C (v := nI 1) dX5_must_23 (by decide) ?_
          refine q_goto C (tgt := 28) dX5_must_24 (by decide) ?_
          exact J28 _ (by rw [eb]; first | exact Or.inl ⟨rfl, c10, c20⟩ | exact Or.inr ⟨rfl, fun h => h.1 c10⟩ | exact Or.inr ⟨rfl, fun h => h.2 c20⟩)
  · refine q_ifeq C (tgt := 57) dX5_must_5 (by decide) (fun c5 => ?_) (fun c5 => ?_)
    · refine q_iconst C (v := nI 0) dX5_must_57 (by decide) ?_
      exact q_iret C dX5_must_58 ⟨_, rfl, Or.inl ⟨fun h => hc2 h.1, rfl⟩⟩
    · exact absurd (show nI 0 = 0 by decide) c5
theorem iX5_count_X5 : ∀ w ∈ wsX50, w ∈ wsX5_count := fun _ h => List.mem_cons_of_mem _ (by first | exact h | exact List.mem_append_right _ h | exact List.mem_append_left _ (List.mem_append_right _ h) | exact List.mem_append_left _ (List.mem_append_left _ (List.mem_append_right _ h)) | exact List.mem_append_left _ (List.mem_append_left _ (List.mem_append_left _ (List.mem_append_right _ h))) | exact List.mem_append_left _ (List.mem_append_left _ (List.mem_append_left _ (List.mem_append_left _ (List.mem_append_right _ h)))) | exact List.mem_append_left _ (List.mem_append_left _ (List.mem_append_left _ (List.mem_append_left _ (List.mem_append_left _ (List.mem_append_right _ h))))))
set_option maxRecDepth 100000 in
set_option maxHeartbeats 4000000 in
/-- X5.count -/
theorem m_mcount (l : Launch) (E : kb_E) (X : Nat → Nat → Int32) (Y : Nat → Nat → Int64) (w0 : Int32) : kb_Met l E 202 yX5_count wsX5_count ({ frames := 1, cells := 0, slots := 0, locals := 22 }) [.ref (E.2.2.2 188), .int w0] (kb_ent E X Y) (kb_out E X Y (w0 = 0 ∨ w0 = nI 1) True (fun r X' => r = (if w0 = 0 then X 188 1 else X 188 2) ∧ X' = kb_thr X (nI 0))) := by
  refine kb_enter (cc := cX5_count) (maxL := 2) (ret := (some .int)) (by decide +kernel) rfl (by simp [Value.category]) (Nat.le_of_ble_eq_true rfl) ?_
  intro p e s m args below meth c C hini
  refine q_aload_n C dX5_count_0 rfl ?_
  refine q_iconst C (v := nI 0) dX5_count_1 (by decide) ?_
  refine x_putI C (ci := 5) (k := 0) (C0 := RX5) (T := TX5) (NF := 15) (ref := RX5) (host := RX4) (ty := .int) dX5_count_2 fi_Mthw rfl iX5_count_X5 tyX5_ok nmX5 (by decide) (List.mem_of_getElem? (i := 1) rfl) rfl rfl (by decide +kernel) rfl rfl ?_
  refine q_aload_n C dX5_count_5 rfl ?_
  refine q_cut 20 (P := kb_flag (w0 = 0 ∨ w0 = nI 1)) (fun f20 hf20 => ?_) (fun J20 => ?_)
  · refine q_iconst C (v := nI 1) dX5_count_20 (by decide) ?_
    refine x_callV (As := [_, _]) (nA := 2) (T := TX5) (NF := 15) C dX5_count_21 ob_M rfl (m_right _ _ (kb_thr X (nI 0)) Y ((w0 = 0 ∨ w0 = nI 1)) _ _ (by exact kb_thr_at) (by decide) hf20) gX5_count_X5_right rfl (by decide +kernel) rfl ⟨Nat.le_of_ble_eq_true rfl, Nat.le_of_ble_eq_true rfl⟩ (Nat.le_of_ble_eq_true rfl) ⟨Nat.le_of_ble_eq_true rfl, Nat.le_of_ble_eq_true rfl⟩ (fun v21 g21 h21 => ?_)
    rcases h21 with ⟨hc21, rfl, rfl⟩ | ⟨hc21, rfl, rfl⟩
    · refine q_ifne C (tgt := 29) dX5_count_24 (by decide) (fun c24 => ?_) (fun c24 => ?_)
      · refine q_iload_n C dX5_count_29 rfl ?_
        refine q_ifne C (tgt := 40) dX5_count_30 (by decide) (fun c30 => ?_) (fun c30 => ?_)
        · refine q_aload_n C dX5_count_40 rfl ?_
          refine x_getI C (ci := 5) (k := 2) (C0 := RX5) (T := TX5) (NF := 15) (ref := RX5) (host := RX4) dX5_count_41 fi_Mpc rfl iX5_count_X5 (by decide) (List.mem_of_getElem? (i := 3) rfl) rfl ?_
          exact q_iret C dX5_count_44 ⟨_, rfl, Or.inr (Or.inr ⟨hc21, trivial, _, rfl, kb_thr_at, by first | (rw [if_pos c30]; exact kb_thr_k (by decide)) | (rw [if_neg c30]; exact kb_thr_k (by decide)), rfl⟩)⟩
        · refine q_aload_n C dX5_count_33 rfl ?_
          refine x_getI C (ci := 5) (k := 1) (C0 := RX5) (T := TX5) (NF := 15) (ref := RX5) (host := RX4) dX5_count_34 fi_Mbc rfl iX5_count_X5 (by decide) (List.mem_of_getElem? (i := 2) rfl) rfl ?_
          refine q_goto C (tgt := 44) dX5_count_37 (by decide) ?_
          exact q_iret C dX5_count_44 ⟨_, rfl, Or.inr (Or.inr ⟨hc21, trivial, _, rfl, kb_thr_at, by first | (rw [if_pos c30]; exact kb_thr_k (by decide)) | (rw [if_neg c30]; exact kb_thr_k (by decide)), rfl⟩)⟩
      · exact absurd c24 (by decide)
    · refine q_ifne C (tgt := 29) dX5_count_24 (by decide) (fun c24 => ?_) (fun c24 => ?_)
      · exact absurd (show nI 0 = 0 by decide) c24
      · refine q_iconst C (v := nI 0) dX5_count_27 (by decide) ?_
        exact q_iret C dX5_count_28 ⟨_, rfl, Or.inl ⟨fun h => hc21 h, by rw [kb_thr_thr]⟩⟩
  refine q_iload_n C dX5_count_6 rfl ?_
  refine q_ifeq C (tgt := 15) dX5_count_7 (by decide) (fun c7 => ?_) (fun c7 => ?_)
  · refine q_iconst C (v := nI 1) dX5_count_15 (by decide) ?_
    refine q_goto C (tgt := 20) dX5_count_16 (by decide) ?_
    exact J20 _ (by first | exact Or.inl ⟨rfl, Or.inl c7⟩ | exact Or.inl ⟨rfl, Or.inr c12⟩ | exact Or.inr ⟨rfl, fun h => h.elim c7 c12⟩)
  · refine q_iload_n C dX5_count_10 rfl ?_
    refine q_iconst C (v := nI 1) dX5_count_11 (by decide) ?_
    refine q_icmpne C (tgt := 19) dX5_count_12 (by decide) (fun c12 => ?_) (fun c12 => ?_)
    · refine q_iconst C (v := nI 0) dX5_count_19 (by decide) ?_
      exact J20 _ (by first | exact Or.inl ⟨rfl, Or.inl c7⟩ | exact Or.inl ⟨rfl, Or.inr c12⟩ | exact Or.inr ⟨rfl, fun h => h.elim c7 c12⟩)
    · refine q_iconst C (v := nI 1) dX5_count_15 (by decide) ?_
      refine q_goto C (tgt := 20) dX5_count_16 (by decide) ?_
      exact J20 _ (by first | exact Or.inl ⟨rfl, Or.inl c7⟩ | exact Or.inl ⟨rfl, Or.inr c12⟩ | exact Or.inr ⟨rfl, fun h => h.elim c7 c12⟩)
theorem iX5_knot_X5 : ∀ w ∈ wsX50, w ∈ wsX5_knot := fun _ h => List.mem_cons_of_mem _ (by first | exact h | exact List.mem_append_right _ h | exact List.mem_append_left _ (List.mem_append_right _ h) | exact List.mem_append_left _ (List.mem_append_left _ (List.mem_append_right _ h)) | exact List.mem_append_left _ (List.mem_append_left _ (List.mem_append_left _ (List.mem_append_right _ h))) | exact List.mem_append_left _ (List.mem_append_left _ (List.mem_append_left _ (List.mem_append_left _ (List.mem_append_right _ h)))) | exact List.mem_append_left _ (List.mem_append_left _ (List.mem_append_left _ (List.mem_append_left _ (List.mem_append_left _ (List.mem_append_right _ h))))))
set_option maxRecDepth 100000 in
set_option maxHeartbeats 4000000 in
/-- X5.knot -/
theorem m_mknot (l : Launch) (E : kb_E) (X : Nat → Nat → Int32) (Y : Nat → Nat → Int64) (b r k k0 : Int32) (hMI : kb_MI X) : kb_Met l E 202 yX5_knot wsX5_knot ({ frames := 3, cells := 0, slots := 0, locals := 66 }) [.ref (E.2.2.2 188), .int b, .int r, .int k, .int k0] (kb_ent E X Y) (kb_out E X Y (kb_okK X b r k) (¬ k0 < -1 ∧ ¬ nI 3 < k0) (fun v X' => v = X 192 (48 * kb_tn b + 3 * kb_tn r + kb_tn k) ∧ X' = if k0 = -1 then kb_thr X (nI 0) else va_up (kb_thr X (nI 0)) 192 (upd (X 192) (48 * kb_tn b + 3 * kb_tn r + kb_tn k) k0))) := by
  refine kb_enter (cc := cX5_knot) (maxL := 6) (ret := (some .int)) (by decide +kernel) rfl (by simp [Value.category]) (Nat.le_of_ble_eq_true rfl) ?_
  intro p e s m args below meth c C hini
  refine q_aload_n C dX5_knot_0 rfl ?_
  refine q_iload_n C dX5_knot_1 rfl ?_
  refine q_iload_n C dX5_knot_2 rfl ?_
  refine q_iload_n C dX5_knot_3 rfl ?_
  refine x_callV (As := [_, _, _]) (nA := 3) (T := TX5) (NF := 15) C dX5_knot_4 ob_M rfl (m_isKnot _ _ X Y b r k hMI) gX5_knot_X5_isKnot rfl (by decide +kernel) rfl ⟨Nat.le_of_ble_eq_true rfl, Nat.le_of_ble_eq_true rfl⟩ (Nat.le_of_ble_eq_true rfl) ⟨Nat.le_of_ble_eq_true rfl, Nat.le_of_ble_eq_true rfl⟩ (fun v4 g4 h4 => ?_)
  rcases h4 with ⟨hc4, rfl, rfl⟩ | ⟨hc4, rfl, rfl⟩
  · obtain ⟨b', hb', rfl, hb8⟩ := kb_okB_nat hMI hc4.1
    have eb : kb_tn (nI b') = b' := kb_tn_nI (by omega)
    have hnb := hMI.2.1 b' hb'
    have hcr := hc4.2
    unfold kb_okKr at hcr
    rw [eb] at hcr
    obtain ⟨r', hr', rfl⟩ := kb_lt_nat hcr.1 hcr.2.1 hnb.2.2.1
    have hr16 := hnb.2.2.2
    rw [hnb.1.1, nv_mknots _ (by have := hnb.1.2; omega) r' (by omega) (by omega)] at hcr
    obtain ⟨k', hk', rfl⟩ := kb_lt_nat hcr.2.2.1 hcr.2.2.2 rfl
    have hk3 : kb_kn (kb_tn (X 189 b')) r' ≤ 3 := kb_kn_le hnb.1.2
    refine q_ifeq C (tgt := 35) dX5_knot_7 (by decide) (fun c7 => ?_) (fun c7 => ?_)
    · exact absurd c7 (by decide)
    · refine q_aload_n C dX5_knot_10 rfl ?_
      refine q_cut 28 (P := kb_flag (¬ k0 < -1 ∧ ¬ nI 3 < k0)) (fun f28 hf28 => ?_) (fun J28 => ?_)
      · refine q_iconst C (v := nI 2) dX5_knot_28 (by decide) ?_
        refine x_callV (As := [_, _]) (nA := 2) (T := TX5) (NF := 15) C dX5_knot_29 ob_M rfl (m_right _ _ (kb_thr X (nI 0)) Y ((¬ k0 < -1 ∧ ¬ nI 3 < k0)) _ _ (by exact kb_thr_at) (by decide) hf28) gX5_knot_X5_right rfl (by decide +kernel) rfl ⟨Nat.le_of_ble_eq_true rfl, Nat.le_of_ble_eq_true rfl⟩ (Nat.le_of_ble_eq_true rfl) ⟨Nat.le_of_ble_eq_true rfl, Nat.le_of_ble_eq_true rfl⟩ (fun v29 g29 h29 => ?_)
        rcases h29 with ⟨hc29, rfl, rfl⟩ | ⟨hc29, rfl, rfl⟩
        · refine q_ifne C (tgt := 37) dX5_knot_32 (by decide) (fun c32 => ?_) (fun c32 => ?_)
          · refine q_aload_n C dX5_knot_37 rfl ?_
            refine x_getR C (ci := 5) (k := 6) (C0 := RX5) (T := TX5) (NF := 15) (ref := RX5) (host := RX4) dX5_knot_38 fr_Mkin rfl iX5_knot_X5 (by decide) (List.mem_of_getElem? (i := 1) rfl) rfl ?_
            refine q_bipush C (v := nI 48) dX5_knot_41 (by decide) ?_
            refine q_iload_n C dX5_knot_43 rfl ?_
            refine q_imulN C dX5_knot_44 ?_
            refine q_iconst C (v := nI 3) dX5_knot_45 (by decide) ?_
            refine q_iload_n C dX5_knot_46 rfl ?_
            refine q_imulN C dX5_knot_47 ?_
            refine q_iaddN C dX5_knot_48 ?_
            refine q_iload_n C dX5_knot_49 rfl ?_
            refine q_iaddN C dX5_knot_50 ?_
            refine x_ialdN C dX5_knot_51 ia_Mkin (by decide) (by omega) ?_
            refine q_istore C dX5_knot_52 (by decide) rfl ?_
            refine q_iload C dX5_knot_54 rfl ?_
            refine q_iconst C (v := -1) dX5_knot_56 (by decide) ?_
            refine q_icmpeq C (tgt := 77) dX5_knot_57 (by decide) (fun c57 => ?_) (fun c57 => ?_)
            · refine q_iload C dX5_knot_77 rfl ?_
              exact q_iret C dX5_knot_79 ⟨_, rfl, Or.inr (Or.inr ⟨hc4, hc29, _, rfl, by first | exact kb_thr_at | (simp only [va_up, if_neg (show (188 : Nat) ≠ 192 by decide)]; exact kb_thr_at), by rw [kb_thr_ne (by decide), eb, kb_tn_nI (by omega), kb_tn_nI (by omega)], by first | (rw [if_pos c57]; done) | (rw [if_pos c57]) | (rw [if_neg c57, kb_thr_ne (by decide), eb, kb_tn_nI (by omega), kb_tn_nI (by omega)])⟩)⟩
            · refine q_aload_n C dX5_knot_60 rfl ?_
              refine x_getR C (ci := 5) (k := 6) (C0 := RX5) (T := TX5) (NF := 15) (ref := RX5) (host := RX4) dX5_knot_61 fr_Mkin rfl iX5_knot_X5 (by decide) (List.mem_of_getElem? (i := 1) rfl) rfl ?_
              refine q_bipush C (v := nI 48) dX5_knot_64 (by decide) ?_
              refine q_iload_n C dX5_knot_66 rfl ?_
              refine q_imulN C dX5_knot_67 ?_
              refine q_iconst C (v := nI 3) dX5_knot_68 (by decide) ?_
              refine q_iload_n C dX5_knot_69 rfl ?_
              refine q_imulN C dX5_knot_70 ?_
              refine q_iaddN C dX5_knot_71 ?_
              refine q_iload_n C dX5_knot_72 rfl ?_
              refine q_iaddN C dX5_knot_73 ?_
              refine q_iload C dX5_knot_74 rfl ?_
              refine x_iastN C dX5_knot_76 ia_Mkin (by decide) (by omega) ?_
              refine q_iload C dX5_knot_77 rfl ?_
              exact q_iret C dX5_knot_79 ⟨_, rfl, Or.inr (Or.inr ⟨hc4, hc29, _, rfl, by first | exact kb_thr_at | (simp only [va_up, if_neg (show (188 : Nat) ≠ 192 by decide)]; exact kb_thr_at), by rw [kb_thr_ne (by decide), eb, kb_tn_nI (by omega), kb_tn_nI (by omega)], by first | (rw [if_pos c57]; done) | (rw [if_pos c57]) | (rw [if_neg c57, kb_thr_ne (by decide), eb, kb_tn_nI (by omega), kb_tn_nI (by omega)])⟩)⟩
          · exact absurd c32 (by decide)
        · refine q_ifne C (tgt := 37) dX5_knot_32 (by decide) (fun c32 => ?_) (fun c32 => ?_)
          · exact absurd (show nI 0 = 0 by decide) c32
          · refine q_iconst C (v := nI 0) dX5_knot_35 (by decide) ?_
            exact q_iret C dX5_knot_36 ⟨_, rfl, Or.inr (Or.inl ⟨hc4, fun h => hc29 h, by rw [kb_thr_thr]⟩)⟩
      refine q_iload C dX5_knot_11 rfl ?_
      refine q_iconst C (v := -1) dX5_knot_13 (by decide) ?_
      refine q_icmplt C (tgt := 27) dX5_knot_14 (by decide) (fun c14 => ?_) (fun c14 => ?_)
      · refine q_iconst C (v := nI 0) dX5_knot_27 (by decide) ?_
        exact J28 _ (by first | exact Or.inl ⟨rfl, c14, c20⟩ | exact Or.inr ⟨rfl, fun h => h.1 c14⟩ | exact Or.inr ⟨rfl, fun h => h.2 c20⟩)
      · refine q_iload C dX5_knot_17 rfl ?_
        refine q_iconst C (v := nI 3) dX5_knot_19 (by decide) ?_
        refine q_icmpgt C (tgt := 27) dX5_knot_20 (by decide) (fun c20 => ?_) (fun c20 => ?_)
        · refine q_iconst C (v := nI 0) dX5_knot_27 (by decide) ?_
          exact J28 _ (by first | exact Or.inl ⟨rfl, c14, c20⟩ | exact Or.inr ⟨rfl, fun h => h.1 c14⟩ | exact Or.inr ⟨rfl, fun h => h.2 c20⟩)
        · refine q_iconst C (v := nI 1) dX5_knot_23 (by decide) ?_
          refine q_goto C (tgt := 28) dX5_knot_24 (by decide) ?_
          exact J28 _ (by first | exact Or.inl ⟨rfl, c14, c20⟩ | exact Or.inr ⟨rfl, fun h => h.1 c14⟩ | exact Or.inr ⟨rfl, fun h => h.2 c20⟩)
  · refine q_ifeq C (tgt := 35) dX5_knot_7 (by decide) (fun c7 => ?_) (fun c7 => ?_)
    · refine q_iconst C (v := nI 0) dX5_knot_35 (by decide) ?_
      exact q_iret C dX5_knot_36 ⟨_, rfl, Or.inl ⟨fun h => hc4 h, rfl⟩⟩
    · exact absurd (show nI 0 = 0 by decide) c7
def kb_okSr (X : Nat → Nat → Int32) (b r k : Int32) : Prop := ¬ r < 0 ∧ ¬ X 194 (kb_tn b) ≤ r ∧ ¬ k < 0 ∧ ¬ kb_mknots (X 193 (kb_tn b)) r ≤ k
theorem iX5_see_X5 : ∀ w ∈ wsX50, w ∈ wsX5_see := fun _ h => List.mem_cons_of_mem _ (by first | exact h | exact List.mem_append_right _ h | exact List.mem_append_left _ (List.mem_append_right _ h) | exact List.mem_append_left _ (List.mem_append_left _ (List.mem_append_right _ h)) | exact List.mem_append_left _ (List.mem_append_left _ (List.mem_append_left _ (List.mem_append_right _ h))) | exact List.mem_append_left _ (List.mem_append_left _ (List.mem_append_left _ (List.mem_append_left _ (List.mem_append_right _ h)))) | exact List.mem_append_left _ (List.mem_append_left _ (List.mem_append_left _ (List.mem_append_left _ (List.mem_append_left _ (List.mem_append_right _ h))))))
set_option maxRecDepth 100000 in
set_option maxHeartbeats 4000000 in
/-- X5.see -/
theorem m_msee (l : Launch) (E : kb_E) (X : Nat → Nat → Int32) (Y : Nat → Nat → Int64) (b r k c0 : Int32) (hMI : kb_MI X) : kb_Met l E 202 yX5_see wsX5_see ({ frames := 2, cells := 0, slots := 0, locals := 43 }) [.ref (E.2.2.2 188), .int b, .int r, .int k, .int c0] (kb_ent E X Y) (kb_out E X Y (kb_okP X b ∧ kb_okSr X b r k) (¬ c0 < 0 ∧ ¬ nI 4 < c0) (fun v X' => v = X 195 (48 * kb_tn b + 3 * kb_tn r + kb_tn k) ∧ X' = va_up (kb_thr X (nI 0)) 195 (upd (X 195) (48 * kb_tn b + 3 * kb_tn r + kb_tn k) c0))) := by
  refine kb_enter (cc := cX5_see) (maxL := 6) (ret := (some .int)) (by decide +kernel) rfl (by simp [Value.category]) (Nat.le_of_ble_eq_true rfl) ?_
  intro p e s m args below meth c C hini
  refine q_aload_n C dX5_see_0 rfl ?_
  refine q_iload_n C dX5_see_1 rfl ?_
  refine x_callV (As := [_]) (nA := 1) (T := TX5) (NF := 15) C dX5_see_2 ob_M rfl (m_isPicture _ _ X Y b) gX5_see_X5_isPicture rfl (by decide +kernel) rfl ⟨Nat.le_of_ble_eq_true rfl, Nat.le_of_ble_eq_true rfl⟩ (Nat.le_of_ble_eq_true rfl) ⟨Nat.le_of_ble_eq_true rfl, Nat.le_of_ble_eq_true rfl⟩ (fun v2 g2 h2 => ?_)
  rcases h2 with ⟨hc2, rfl, rfl⟩ | ⟨hc2, rfl, rfl⟩
  · obtain ⟨b', hb', rfl, hb8⟩ := kb_okP_nat hMI hc2
    have eb : kb_tn (nI b') = b' := kb_tn_nI (by omega)
    have hnb := hMI.2.2.2.2.1 b' hb'
    refine q_ifeq C (tgt := 77) dX5_see_5 (by decide) (fun c5 => ?_) (fun c5 => ?_)
    · exact absurd c5 (by decide)
    · refine q_aload_n C dX5_see_8 rfl ?_
      refine q_cut 46 (P := kb_flag (kb_okSr X (nI b') r k)) (fun f46 hf46 => ?_) (fun J46 => ?_)
      · refine q_iconst C (v := nI 1) dX5_see_46 (by decide) ?_
        refine x_callV (As := [_, _]) (nA := 2) (T := TX5) (NF := 15) C dX5_see_47 ob_M rfl (m_right _ _ (kb_thr X (nI 0)) Y (kb_okSr X (nI b') r k) _ _ (by exact kb_thr_at) (by decide) hf46) gX5_see_X5_right rfl (by decide +kernel) rfl ⟨Nat.le_of_ble_eq_true rfl, Nat.le_of_ble_eq_true rfl⟩ (Nat.le_of_ble_eq_true rfl) ⟨Nat.le_of_ble_eq_true rfl, Nat.le_of_ble_eq_true rfl⟩ (fun v47 g47 h47 => ?_)
        rcases h47 with ⟨hc47, rfl, rfl⟩ | ⟨hc47, rfl, rfl⟩
        · have hcr := hc47
          unfold kb_okSr at hcr
          rw [eb] at hcr
          obtain ⟨r', hr', rfl⟩ := kb_lt_nat hcr.1 hcr.2.1 hnb.2.2.1.1
          have hr16 := hnb.2.2.1.2
          rw [hnb.1.1, nv_mknots _ (by have := hnb.1.2; omega) r' (by omega) (by omega)] at hcr
          obtain ⟨k', hk', rfl⟩ := kb_lt_nat hcr.2.2.1 hcr.2.2.2 rfl
          have hk3 : kb_kn (kb_tn (X 193 b')) r' ≤ 3 := kb_kn_le hnb.1.2
          refine q_ifeq C (tgt := 77) dX5_see_50 (by decide) (fun c50 => ?_) (fun c50 => ?_)
          · exact absurd c50 (by decide)
          · refine q_aload_n C dX5_see_53 rfl ?_
            refine q_cut 70 (P := kb_flag (¬ c0 < 0 ∧ ¬ nI 4 < c0)) (fun f70 hf70 => ?_) (fun J70 => ?_)
            · refine q_iconst C (v := nI 2) dX5_see_70 (by decide) ?_
              refine x_callV (As := [_, _]) (nA := 2) (T := TX5) (NF := 15) C dX5_see_71 ob_M rfl (m_right _ _ (kb_thr X (nI 0)) Y ((¬ c0 < 0 ∧ ¬ nI 4 < c0)) _ _ (by exact kb_thr_at) (by decide) hf70) gX5_see_X5_right rfl (by decide +kernel) rfl ⟨Nat.le_of_ble_eq_true rfl, Nat.le_of_ble_eq_true rfl⟩ (Nat.le_of_ble_eq_true rfl) ⟨Nat.le_of_ble_eq_true rfl, Nat.le_of_ble_eq_true rfl⟩ (fun v71 g71 h71 => ?_)
              rcases h71 with ⟨hc71, rfl, rfl⟩ | ⟨hc71, rfl, rfl⟩
              · refine q_ifne C (tgt := 79) dX5_see_74 (by decide) (fun c74 => ?_) (fun c74 => ?_)
                · refine q_aload_n C dX5_see_79 rfl ?_
                  refine x_getR C (ci := 5) (k := 9) (C0 := RX5) (T := TX5) (NF := 15) (ref := RX5) (host := RX4) dX5_see_80 fr_Msee rfl iX5_see_X5 (by decide) (List.mem_of_getElem? (i := 3) rfl) rfl ?_
                  refine q_bipush C (v := nI 48) dX5_see_83 (by decide) ?_
                  refine q_iload_n C dX5_see_85 rfl ?_
                  refine q_imulN C dX5_see_86 ?_
                  refine q_iconst C (v := nI 3) dX5_see_87 (by decide) ?_
                  refine q_iload_n C dX5_see_88 rfl ?_
                  refine q_imulN C dX5_see_89 ?_
                  refine q_iaddN C dX5_see_90 ?_
                  refine q_iload_n C dX5_see_91 rfl ?_
                  refine q_iaddN C dX5_see_92 ?_
                  refine x_ialdN C dX5_see_93 ia_Msee (by decide) (by omega) ?_
                  refine q_istore C dX5_see_94 (by decide) rfl ?_
                  refine q_aload_n C dX5_see_96 rfl ?_
                  refine x_getR C (ci := 5) (k := 9) (C0 := RX5) (T := TX5) (NF := 15) (ref := RX5) (host := RX4) dX5_see_97 fr_Msee rfl iX5_see_X5 (by decide) (List.mem_of_getElem? (i := 3) rfl) rfl ?_
                  refine q_bipush C (v := nI 48) dX5_see_100 (by decide) ?_
                  refine q_iload_n C dX5_see_102 rfl ?_
                  refine q_imulN C dX5_see_103 ?_
                  refine q_iconst C (v := nI 3) dX5_see_104 (by decide) ?_
                  refine q_iload_n C dX5_see_105 rfl ?_
                  refine q_imulN C dX5_see_106 ?_
                  refine q_iaddN C dX5_see_107 ?_
                  refine q_iload_n C dX5_see_108 rfl ?_
                  refine q_iaddN C dX5_see_109 ?_
                  refine q_iload C dX5_see_110 rfl ?_
                  refine x_iastN C dX5_see_112 ia_Msee (by decide) (by omega) ?_
                  refine q_iload C dX5_see_113 rfl ?_
                  exact q_iret C dX5_see_115 ⟨_, rfl, Or.inr (Or.inr ⟨⟨hc2, hc47⟩, hc71, _, rfl, by simp only [va_up, if_neg (show (188 : Nat) ≠ 195 by decide)]; exact kb_thr_at, by rw [kb_thr_ne (by decide), eb, kb_tn_nI (by omega), kb_tn_nI (by omega)], by rw [kb_thr_ne (by decide), eb, kb_tn_nI (by omega), kb_tn_nI (by omega)]⟩)⟩
                · exact absurd c74 (by decide)
              · refine q_ifne C (tgt := 79) dX5_see_74 (by decide) (fun c74 => ?_) (fun c74 => ?_)
                · exact absurd (show nI 0 = 0 by decide) c74
                · refine q_iconst C (v := nI 0) dX5_see_77 (by decide) ?_
                  exact q_iret C dX5_see_78 ⟨_, rfl, Or.inr (Or.inl ⟨⟨hc2, hc47⟩, fun h => hc71 h, by rw [kb_thr_thr]⟩)⟩
            refine q_iload C dX5_see_54 rfl ?_
            refine q_iflt C (tgt := 69) dX5_see_56 (by decide) (fun c56 => ?_) (fun c56 => ?_)
            · refine q_iconst C (v := nI 0) dX5_see_69 (by decide) ?_
              exact J70 _ (by first | exact Or.inl ⟨rfl, c56, c62⟩ | exact Or.inr ⟨rfl, fun h => h.1 c56⟩ | exact Or.inr ⟨rfl, fun h => h.2 c62⟩)
            · refine q_iload C dX5_see_59 rfl ?_
              refine q_iconst C (v := nI 4) dX5_see_61 (by decide) ?_
              refine q_icmpgt C (tgt := 69) dX5_see_62 (by decide) (fun c62 => ?_) (fun c62 => ?_)
              · refine q_iconst C (v := nI 0) dX5_see_69 (by decide) ?_
                exact J70 _ (by first | exact Or.inl ⟨rfl, c56, c62⟩ | exact Or.inr ⟨rfl, fun h => h.1 c56⟩ | exact Or.inr ⟨rfl, fun h => h.2 c62⟩)
              · refine q_iconst C (v := nI 1) dX5_see_65 (by decide) ?_
                refine q_goto C (tgt := 70) dX5_see_66 (by decide) ?_
                exact J70 _ (by first | exact Or.inl ⟨rfl, c56, c62⟩ | exact Or.inr ⟨rfl, fun h => h.1 c56⟩ | exact Or.inr ⟨rfl, fun h => h.2 c62⟩)
        · refine q_ifeq C (tgt := 77) dX5_see_50 (by decide) (fun c50 => ?_) (fun c50 => ?_)
          · refine q_iconst C (v := nI 0) dX5_see_77 (by decide) ?_
            exact q_iret C dX5_see_78 ⟨_, rfl, Or.inl ⟨fun h => hc47 h.2, by rw [kb_thr_thr]⟩⟩
          · exact absurd (show nI 0 = 0 by decide) c50
      refine q_iload_n C dX5_see_9 rfl ?_
      refine q_iflt C (tgt := 45) dX5_see_10 (by decide) (fun c10 => ?_) (fun c10 => ?_)
      · refine q_iconst C (v := nI 0) dX5_see_45 (by decide) ?_
        exact J46 _ (by unfold kb_okSr; rw [eb]; first | exact Or.inl ⟨rfl, c10, c20, c24, c38⟩ | exact Or.inr ⟨rfl, fun h => h.1 c10⟩ | exact Or.inr ⟨rfl, fun h => h.2.1 c20⟩ | exact Or.inr ⟨rfl, fun h => h.2.2.1 c24⟩ | exact Or.inr ⟨rfl, fun h => h.2.2.2 c38⟩)
      · refine q_iload_n C dX5_see_13 rfl ?_
        refine q_aload_n C dX5_see_14 rfl ?_
        refine x_getR C (ci := 5) (k := 8) (C0 := RX5) (T := TX5) (NF := 15) (ref := RX5) (host := RX4) dX5_see_15 fr_Mhig rfl iX5_see_X5 (by decide) (List.mem_of_getElem? (i := 1) rfl) rfl ?_
        refine q_iload_n C dX5_see_18 rfl ?_
        refine x_ialdN C dX5_see_19 ia_Mhig (by decide) (by omega) ?_
        refine q_icmpge C (tgt := 45) dX5_see_20 (by decide) (fun c20 => ?_) (fun c20 => ?_)
        · refine q_iconst C (v := nI 0) dX5_see_45 (by decide) ?_
          exact J46 _ (by unfold kb_okSr; rw [eb]; first | exact Or.inl ⟨rfl, c10, c20, c24, c38⟩ | exact Or.inr ⟨rfl, fun h => h.1 c10⟩ | exact Or.inr ⟨rfl, fun h => h.2.1 c20⟩ | exact Or.inr ⟨rfl, fun h => h.2.2.1 c24⟩ | exact Or.inr ⟨rfl, fun h => h.2.2.2 c38⟩)
        · refine q_iload_n C dX5_see_23 rfl ?_
          refine q_iflt C (tgt := 45) dX5_see_24 (by decide) (fun c24 => ?_) (fun c24 => ?_)
          · refine q_iconst C (v := nI 0) dX5_see_45 (by decide) ?_
            exact J46 _ (by unfold kb_okSr; rw [eb]; first | exact Or.inl ⟨rfl, c10, c20, c24, c38⟩ | exact Or.inr ⟨rfl, fun h => h.1 c10⟩ | exact Or.inr ⟨rfl, fun h => h.2.1 c20⟩ | exact Or.inr ⟨rfl, fun h => h.2.2.1 c24⟩ | exact Or.inr ⟨rfl, fun h => h.2.2.2 c38⟩)
          · refine q_iload_n C dX5_see_27 rfl ?_
            refine q_aload_n C dX5_see_28 rfl ?_
            refine x_getR C (ci := 5) (k := 7) (C0 := RX5) (T := TX5) (NF := 15) (ref := RX5) (host := RX4) dX5_see_29 fr_Mwid rfl iX5_see_X5 (by decide) (List.mem_of_getElem? (i := 2) rfl) rfl ?_
            refine q_iload_n C dX5_see_32 rfl ?_
            refine x_ialdN C dX5_see_33 ia_Mwid (by decide) (by omega) ?_
            refine q_iload_n C dX5_see_34 rfl ?_
            refine q_callS (As := [_, _]) (nA := 2) C dX5_see_35 (m_mknots _ _ _ _ _) gX5_see_X5_knots rfl (by decide +kernel) rfl ⟨Nat.le_of_ble_eq_true rfl, Nat.le_of_ble_eq_true rfl⟩ (Nat.le_of_ble_eq_true rfl) ⟨Nat.le_of_ble_eq_true rfl, Nat.le_of_ble_eq_true rfl⟩ (fun v35 g35 h35 => ?_)
            obtain ⟨rfl, rfl⟩ := h35
            refine q_icmpge C (tgt := 45) dX5_see_38 (by decide) (fun c38 => ?_) (fun c38 => ?_)
            · refine q_iconst C (v := nI 0) dX5_see_45 (by decide) ?_
              exact J46 _ (by unfold kb_okSr; rw [eb]; first | exact Or.inl ⟨rfl, c10, c20, c24, c38⟩ | exact Or.inr ⟨rfl, fun h => h.1 c10⟩ | exact Or.inr ⟨rfl, fun h => h.2.1 c20⟩ | exact Or.inr ⟨rfl, fun h => h.2.2.1 c24⟩ | exact Or.inr ⟨rfl, fun h => h.2.2.2 c38⟩)
            · refine q_iconst C (v := nI 1) dX5_see_41 (by decide) ?_
              refine q_goto C (tgt := 46) dX5_see_42 (by decide) ?_
              exact J46 _ (by unfold kb_okSr; rw [eb]; first | exact Or.inl ⟨rfl, c10, c20, c24, c38⟩ | exact Or.inr ⟨rfl, fun h => h.1 c10⟩ | exact Or.inr ⟨rfl, fun h => h.2.1 c20⟩ | exact Or.inr ⟨rfl, fun h => h.2.2.1 c24⟩ | exact Or.inr ⟨rfl, fun h => h.2.2.2 c38⟩)
  · refine q_ifeq C (tgt := 77) dX5_see_5 (by decide) (fun c5 => ?_) (fun c5 => ?_)
    · refine q_iconst C (v := nI 0) dX5_see_77 (by decide) ?_
      exact q_iret C dX5_see_78 ⟨_, rfl, Or.inl ⟨fun h => hc2 h.1, rfl⟩⟩
    · exact absurd (show nI 0 = 0 by decide) c5
set_option maxRecDepth 100000 in
set_option maxHeartbeats 4000000 in
/-- X5.shows -/
theorem m_mshows (l : Launch) (E : kb_E) (X : Nat → Nat → Int32) (Y : Nat → Nat → Int64) (b r k : Int32) (hMI : kb_MI X) : kb_Met l E 202 yX5_shows wsX5_shows ({ frames := 3, cells := 0, slots := 0, locals := 70 }) [.ref (E.2.2.2 188), .int b, .int r, .int k] (kb_ent E X Y) (kb_out E X Y (kb_okK X b r k) True (fun v X' => v = X 191 (6 * kb_tn b + kb_sh (kb_mkd X (kb_tn b)) (kb_tn (X 189 (kb_tn b))) (kb_tn r) (kb_tn k)) ∧ kb_MS X X')) := by
  refine kb_enter (cc := cX5_shows) (maxL := 4) (ret := (some .int)) (by decide +kernel) rfl (by simp [Value.category]) (Nat.le_of_ble_eq_true rfl) ?_
  intro p e s m args below meth c C hini
  refine q_aload_n C dX5_shows_0 rfl ?_
  refine q_iload_n C dX5_shows_1 rfl ?_
  refine q_iload_n C dX5_shows_2 rfl ?_
  refine q_iload_n C dX5_shows_3 rfl ?_
  refine x_callV (As := [_, _, _]) (nA := 3) (T := TX5) (NF := 15) C dX5_shows_4 ob_M rfl (m_isKnot _ _ X Y b r k hMI) gX5_shows_X5_isKnot rfl (by decide +kernel) rfl ⟨Nat.le_of_ble_eq_true rfl, Nat.le_of_ble_eq_true rfl⟩ (Nat.le_of_ble_eq_true rfl) ⟨Nat.le_of_ble_eq_true rfl, Nat.le_of_ble_eq_true rfl⟩ (fun v4 g4 h4 => ?_)
  rcases h4 with ⟨hc4, rfl, rfl⟩ | ⟨hc4, rfl, rfl⟩
  · obtain ⟨b', hb', rfl, hb8⟩ := kb_okB_nat hMI hc4.1
    have eb : kb_tn (nI b') = b' := kb_tn_nI (by omega)
    have hnb := hMI.2.1 b' hb'
    have hcr := hc4.2
    unfold kb_okKr at hcr
    rw [eb] at hcr
    obtain ⟨r', hr', rfl⟩ := kb_lt_nat hcr.1 hcr.2.1 hnb.2.2.1
    have hr16 := hnb.2.2.2
    rw [hnb.1.1, nv_mknots _ (by have := hnb.1.2; omega) r' (by omega) (by omega)] at hcr
    obtain ⟨k', hk', rfl⟩ := kb_lt_nat hcr.2.2.1 hcr.2.2.2 rfl
    have hk3 : kb_kn (kb_tn (X 189 b')) r' ≤ 3 := kb_kn_le hnb.1.2
    refine q_ifeq C (tgt := 20) dX5_shows_7 (by decide) (fun c7 => ?_) (fun c7 => ?_)
    · exact absurd c7 (by decide)
    · refine q_aload_n C dX5_shows_10 rfl ?_
      refine q_iload_n C dX5_shows_11 rfl ?_
      refine q_iload_n C dX5_shows_12 rfl ?_
      refine q_iload_n C dX5_shows_13 rfl ?_
      refine x_callV (As := [_, _, _]) (nA := 3) (T := TX5) (NF := 15) C dX5_shows_14 ob_M rfl (m_showsOf _ _ (kb_thr X (nI 0)) Y b' (kb_tn (X 189 b')) r' k' hb8 hnb.1.2 hnb.2.1 (by omega) hk' (by rw [kb_thr_ne (by decide)]; exact hnb.1.1) (kb_mkd X b') (fun r hr k hk => by rw [kb_thr_ne (by decide)]; exact ⟨(hMI.2.2.2.1 _ (by omega)).1, Nat.lt_succ_of_le (hMI.2.2.2.1 _ (by omega)).2⟩)) gX5_shows_X5_showsOf rfl (by decide +kernel) rfl ⟨Nat.le_of_ble_eq_true rfl, Nat.le_of_ble_eq_true rfl⟩ (Nat.le_of_ble_eq_true rfl) ⟨Nat.le_of_ble_eq_true rfl, Nat.le_of_ble_eq_true rfl⟩ (fun v14 g14 h14 => ?_)
      obtain ⟨rfl, X1, rfl, h1⟩ := h14
      · refine q_goto C (tgt := 21) dX5_shows_17 (by decide) ?_
        exact q_iret C dX5_shows_21 ⟨_, rfl, Or.inr (Or.inr ⟨hc4, trivial, _, rfl, (congrFun (h1.1 188 (by decide)) 0).trans kb_thr_at, by rw [kb_thr_ne (by decide), eb, kb_tn_nI (by omega), kb_tn_nI (by omega)], (kb_MS.thr X _).trans h1.ms⟩)⟩
  · refine q_ifeq C (tgt := 20) dX5_shows_7 (by decide) (fun c7 => ?_) (fun c7 => ?_)
    · refine q_iconst C (v := nI 0) dX5_shows_20 (by decide) ?_
      exact q_iret C dX5_shows_21 ⟨_, rfl, Or.inl ⟨fun h => hc4 h, rfl⟩⟩
    · exact absurd (show nI 0 = 0 by decide) c7
theorem iX5_thread_X5 : ∀ w ∈ wsX50, w ∈ wsX5_thread := fun _ h => List.mem_cons_of_mem _ (by first | exact h | exact List.mem_append_right _ h | exact List.mem_append_left _ (List.mem_append_right _ h) | exact List.mem_append_left _ (List.mem_append_left _ (List.mem_append_right _ h)) | exact List.mem_append_left _ (List.mem_append_left _ (List.mem_append_left _ (List.mem_append_right _ h))) | exact List.mem_append_left _ (List.mem_append_left _ (List.mem_append_left _ (List.mem_append_left _ (List.mem_append_right _ h)))) | exact List.mem_append_left _ (List.mem_append_left _ (List.mem_append_left _ (List.mem_append_left _ (List.mem_append_left _ (List.mem_append_right _ h))))))
set_option maxRecDepth 100000 in
set_option maxHeartbeats 4000000 in
/-- X5.thread -/
theorem m_mthread (l : Launch) (E : kb_E) (X : Nat → Nat → Int32) (Y : Nat → Nat → Int64) (b r q : Int32) (hMI : kb_MI X) : kb_Met l E 202 yX5_thread wsX5_thread ({ frames := 2, cells := 0, slots := 0, locals := 47 }) [.ref (E.2.2.2 188), .int b, .int r, .int q] (kb_ent E X Y) (kb_out E X Y (kb_okB X b ∧ (¬ r < 0 ∧ ¬ X 190 (kb_tn b) < r ∧ ¬ q < 0 ∧ ¬ X 189 (kb_tn b) ≤ q)) True (fun v X' => v = nI (kb_at (kb_mkd X (kb_tn b)) (kb_tn (X 189 (kb_tn b))) (kb_tn r) (kb_tn q)) ∧ kb_MS X X')) := by
  refine kb_enter (cc := cX5_thread) (maxL := 4) (ret := (some .int)) (by decide +kernel) rfl (by simp [Value.category]) (Nat.le_of_ble_eq_true rfl) ?_
  intro p e s m args below meth c C hini
  refine q_aload_n C dX5_thread_0 rfl ?_
  refine q_iload_n C dX5_thread_1 rfl ?_
  refine x_callV (As := [_]) (nA := 1) (T := TX5) (NF := 15) C dX5_thread_2 ob_M rfl (m_isBand _ _ X Y b) gX5_thread_X5_isBand rfl (by decide +kernel) rfl ⟨Nat.le_of_ble_eq_true rfl, Nat.le_of_ble_eq_true rfl⟩ (Nat.le_of_ble_eq_true rfl) ⟨Nat.le_of_ble_eq_true rfl, Nat.le_of_ble_eq_true rfl⟩ (fun v2 g2 h2 => ?_)
  rcases h2 with ⟨hc2, rfl, rfl⟩ | ⟨hc2, rfl, rfl⟩
  · obtain ⟨b', hb', rfl, hb8⟩ := kb_okB_nat hMI hc2
    have eb : kb_tn (nI b') = b' := kb_tn_nI (by omega)
    have hnb := hMI.2.1 b' hb'
    refine q_ifeq C (tgt := 49) dX5_thread_5 (by decide) (fun c5 => ?_) (fun c5 => ?_)
    · exact absurd c5 (by decide)
    · refine q_aload_n C dX5_thread_8 rfl ?_
      refine q_cut 42 (P := kb_flag (¬ r < 0 ∧ ¬ X 190 (kb_tn (nI b')) < r ∧ ¬ q < 0 ∧ ¬ X 189 (kb_tn (nI b')) ≤ q)) (fun f42 hf42 => ?_) (fun J42 => ?_)
      · refine q_iconst C (v := nI 1) dX5_thread_42 (by decide) ?_
        refine x_callV (As := [_, _]) (nA := 2) (T := TX5) (NF := 15) C dX5_thread_43 ob_M rfl (m_right _ _ (kb_thr X (nI 0)) Y ((¬ r < 0 ∧ ¬ X 190 (kb_tn (nI b')) < r ∧ ¬ q < 0 ∧ ¬ X 189 (kb_tn (nI b')) ≤ q)) _ _ (by exact kb_thr_at) (by decide) hf42) gX5_thread_X5_right rfl (by decide +kernel) rfl ⟨Nat.le_of_ble_eq_true rfl, Nat.le_of_ble_eq_true rfl⟩ (Nat.le_of_ble_eq_true rfl) ⟨Nat.le_of_ble_eq_true rfl, Nat.le_of_ble_eq_true rfl⟩ (fun v43 g43 h43 => ?_)
        rcases h43 with ⟨hc43, rfl, rfl⟩ | ⟨hc43, rfl, rfl⟩
        · have hcr := hc43
          rw [eb] at hcr
          rw [hnb.2.2.1] at hcr
          obtain ⟨r', hr', rfl⟩ := kb_le_nat (by have := hnb.2.2.2; omega) hcr.1 hcr.2.1
          obtain ⟨q', hq', rfl⟩ := kb_lt_nat hcr.2.2.1 hcr.2.2.2 hnb.1.1
          have hr16 := hnb.2.2.2
          have hn6 := hnb.1.2
          refine q_ifne C (tgt := 51) dX5_thread_46 (by decide) (fun c46 => ?_) (fun c46 => ?_)
          · refine q_aload_n C dX5_thread_51 rfl ?_
            refine q_iload_n C dX5_thread_52 rfl ?_
            refine q_iload_n C dX5_thread_53 rfl ?_
            refine x_callV (As := [_, _]) (nA := 2) (T := TX5) (NF := 15) C dX5_thread_54 ob_M rfl (m_stands _ _ (kb_thr X (nI 0)) Y b' (kb_tn (X 189 b')) r' hb8 hnb.1.2 hnb.2.1 (by omega) (by rw [kb_thr_ne (by decide)]; exact hnb.1.1) (kb_mkd X b') (fun r hr k hk => by rw [kb_thr_ne (by decide)]; exact ⟨(hMI.2.2.2.1 _ (by omega)).1, Nat.lt_succ_of_le (hMI.2.2.2.1 _ (by omega)).2⟩)) gX5_thread_X5_stands rfl (by decide +kernel) rfl ⟨Nat.le_of_ble_eq_true rfl, Nat.le_of_ble_eq_true rfl⟩ (Nat.le_of_ble_eq_true rfl) ⟨Nat.le_of_ble_eq_true rfl, Nat.le_of_ble_eq_true rfl⟩ (fun v54 g54 h54 => ?_)
            obtain ⟨rfl, X1, rfl, h1⟩ := h54
            refine q_aload_n C dX5_thread_57 rfl ?_
            refine x_getR C (ci := 5) (k := 11) (C0 := RX5) (T := TX5) (NF := 15) (ref := RX5) (host := RX4) dX5_thread_58 fr_Mat rfl iX5_thread_X5 (by decide) (List.mem_of_getElem? (i := 3) rfl) rfl ?_
            refine q_iload_n C dX5_thread_61 rfl ?_
            refine x_ialdN C dX5_thread_62 ia_Mat (by decide) (by omega) ?_
            refine q_top (show Value.int _ = Value.int _ from congrArg Value.int (h1.2 _ (by omega))) ?_
            exact q_iret C dX5_thread_63 ⟨_, rfl, Or.inr (Or.inr ⟨⟨hc2, hc43⟩, trivial, _, rfl, (congrFun (h1.1 188 (by decide)) 0).trans kb_thr_at, by rw [eb, kb_tn_nI (by omega), kb_tn_nI (by omega)], (kb_MS.thr X _).trans h1.ms⟩)⟩
          · exact absurd c46 (by decide)
        · refine q_ifne C (tgt := 51) dX5_thread_46 (by decide) (fun c46 => ?_) (fun c46 => ?_)
          · exact absurd (show nI 0 = 0 by decide) c46
          · refine q_iconst C (v := nI 0) dX5_thread_49 (by decide) ?_
            exact q_iret C dX5_thread_50 ⟨_, rfl, Or.inl ⟨fun h => hc43 h.2, by rw [kb_thr_thr]⟩⟩
      refine q_iload_n C dX5_thread_9 rfl ?_
      refine q_iflt C (tgt := 41) dX5_thread_10 (by decide) (fun c10 => ?_) (fun c10 => ?_)
      · refine q_iconst C (v := nI 0) dX5_thread_41 (by decide) ?_
        exact J42 _ (by rw [eb]; first | exact Or.inl ⟨rfl, c10, c20, c24, c34⟩ | exact Or.inr ⟨rfl, fun h => h.1 c10⟩ | exact Or.inr ⟨rfl, fun h => h.2.1 c20⟩ | exact Or.inr ⟨rfl, fun h => h.2.2.1 c24⟩ | exact Or.inr ⟨rfl, fun h => h.2.2.2 c34⟩)
      · refine q_iload_n C dX5_thread_13 rfl ?_
        refine q_aload_n C dX5_thread_14 rfl ?_
        refine x_getR C (ci := 5) (k := 4) (C0 := RX5) (T := TX5) (NF := 15) (ref := RX5) (host := RX4) dX5_thread_15 fr_Mrow rfl iX5_thread_X5 (by decide) (List.mem_of_getElem? (i := 1) rfl) rfl ?_
        refine q_iload_n C dX5_thread_18 rfl ?_
        refine x_ialdN C dX5_thread_19 ia_Mrow (by decide) (by omega) ?_
        refine q_icmpgt C (tgt := 41) dX5_thread_20 (by decide) (fun c20 => ?_) (fun c20 => ?_)
        · refine q_iconst C (v := nI 0) dX5_thread_41 (by decide) ?_
          exact J42 _ (by rw [eb]; first | exact Or.inl ⟨rfl, c10, c20, c24, c34⟩ | exact Or.inr ⟨rfl, fun h => h.1 c10⟩ | exact Or.inr ⟨rfl, fun h => h.2.1 c20⟩ | exact Or.inr ⟨rfl, fun h => h.2.2.1 c24⟩ | exact Or.inr ⟨rfl, fun h => h.2.2.2 c34⟩)
        · refine q_iload_n C dX5_thread_23 rfl ?_
          refine q_iflt C (tgt := 41) dX5_thread_24 (by decide) (fun c24 => ?_) (fun c24 => ?_)
          · refine q_iconst C (v := nI 0) dX5_thread_41 (by decide) ?_
            exact J42 _ (by rw [eb]; first | exact Or.inl ⟨rfl, c10, c20, c24, c34⟩ | exact Or.inr ⟨rfl, fun h => h.1 c10⟩ | exact Or.inr ⟨rfl, fun h => h.2.1 c20⟩ | exact Or.inr ⟨rfl, fun h => h.2.2.1 c24⟩ | exact Or.inr ⟨rfl, fun h => h.2.2.2 c34⟩)
          · refine q_iload_n C dX5_thread_27 rfl ?_
            refine q_aload_n C dX5_thread_28 rfl ?_
            refine x_getR C (ci := 5) (k := 3) (C0 := RX5) (T := TX5) (NF := 15) (ref := RX5) (host := RX4) dX5_thread_29 fr_Mthr rfl iX5_thread_X5 (by decide) (List.mem_of_getElem? (i := 2) rfl) rfl ?_
            refine q_iload_n C dX5_thread_32 rfl ?_
            refine x_ialdN C dX5_thread_33 ia_Mthr (by decide) (by omega) ?_
            refine q_icmpge C (tgt := 41) dX5_thread_34 (by decide) (fun c34 => ?_) (fun c34 => ?_)
            · refine q_iconst C (v := nI 0) dX5_thread_41 (by decide) ?_
              exact J42 _ (by rw [eb]; first | exact Or.inl ⟨rfl, c10, c20, c24, c34⟩ | exact Or.inr ⟨rfl, fun h => h.1 c10⟩ | exact Or.inr ⟨rfl, fun h => h.2.1 c20⟩ | exact Or.inr ⟨rfl, fun h => h.2.2.1 c24⟩ | exact Or.inr ⟨rfl, fun h => h.2.2.2 c34⟩)
            · refine q_iconst C (v := nI 1) dX5_thread_37 (by decide) ?_
              refine q_goto C (tgt := 42) dX5_thread_38 (by decide) ?_
              exact J42 _ (by rw [eb]; first | exact Or.inl ⟨rfl, c10, c20, c24, c34⟩ | exact Or.inr ⟨rfl, fun h => h.1 c10⟩ | exact Or.inr ⟨rfl, fun h => h.2.1 c20⟩ | exact Or.inr ⟨rfl, fun h => h.2.2.1 c24⟩ | exact Or.inr ⟨rfl, fun h => h.2.2.2 c34⟩)
  · refine q_ifeq C (tgt := 49) dX5_thread_5 (by decide) (fun c5 => ?_) (fun c5 => ?_)
    · refine q_iconst C (v := nI 0) dX5_thread_49 (by decide) ?_
      exact q_iret C dX5_thread_50 ⟨_, rfl, Or.inl ⟨fun h => hc2 h.1, rfl⟩⟩
    · exact absurd (show nI 0 = 0 by decide) c5

/-! ===== Loom: listKnots, workBackward, standingBehind, leastKind ===== -/
/-- how many knots the first r rows have -/
def kb_kc (n : Nat) : Nat → Nat
  | 0 => 0
  | r + 1 => kb_kc n r + kb_kn n r
theorem kb_kc_le : ∀ n, n < 7 → ∀ r, r < 17 → kb_kc n r ≤ 40 := by decide +kernel
theorem kb_kc_mono {n : Nat} {r r' : Nat} (h : r ≤ r') : kb_kc n r ≤ kb_kc n r' := by
  induction r' with
  | zero => have e : r = 0 := by omega
            subst e; exact Nat.le_refl _
  | succ r' ih =>
    rcases Nat.lt_or_ge r (r' + 1) with q | q
    · exact Nat.le_trans (ih (by omega)) (Nat.le_add_right _ _)
    · have e : r = r' + 1 := by omega
      subst e; exact Nat.le_refl _
theorem kb_kc_lt {n r r' k' : Nat} (h : r' < r) (hk : k' < kb_kn n r') : kb_kc n r' + k' < kb_kc n r := by
  have h1 : kb_kc n (r' + 1) ≤ kb_kc n r := kb_kc_mono h
  have h2 : kb_kc n (r' + 1) = kb_kc n r' + kb_kn n r' := rfl
  omega
/-- what listKnots has laid when it stands at row r, knot k -/
def kb_lst (q n r k : Nat) (X X' : Nat → Nat → Int32) : Prop := (∀ z, z ≠ 3 → z ≠ 4 → z ≠ 5 → z ≠ 6 → X' z = X z) ∧ X' 3 3 = nI (kb_kc n r + k) ∧ ∀ r' k', ((r' < r ∧ k' < kb_kn n r') ∨ (r' = r ∧ k' < k)) → X' 4 (kb_kc n r' + k') = nI (8 * r' + k') ∧ X' 5 (kb_kc n r' + k') = nI (kb_lf r' k') ∧ X' 6 (kb_kc n r' + k') = X (148 + 5 * q + 1) (3 * r' + k')
theorem iX1_listKnots_X1 : ∀ w ∈ wsX10, w ∈ wsX1_listKnots := fun _ h => List.mem_cons_of_mem _ (by first | exact h | exact List.mem_append_right _ h | exact List.mem_append_left _ (List.mem_append_right _ h) | exact List.mem_append_left _ (List.mem_append_left _ (List.mem_append_right _ h)) | exact List.mem_append_left _ (List.mem_append_left _ (List.mem_append_left _ (List.mem_append_right _ h))) | exact List.mem_append_left _ (List.mem_append_left _ (List.mem_append_left _ (List.mem_append_left _ (List.mem_append_right _ h)))) | exact List.mem_append_left _ (List.mem_append_left _ (List.mem_append_left _ (List.mem_append_left _ (List.mem_append_left _ (List.mem_append_right _ h))))))
theorem iX1_listKnots_X2 : ∀ w ∈ wsX20, w ∈ wsX1_listKnots := fun _ h => List.mem_cons_of_mem _ (by first | exact h | exact List.mem_append_right _ h | exact List.mem_append_left _ (List.mem_append_right _ h) | exact List.mem_append_left _ (List.mem_append_left _ (List.mem_append_right _ h)) | exact List.mem_append_left _ (List.mem_append_left _ (List.mem_append_left _ (List.mem_append_right _ h))) | exact List.mem_append_left _ (List.mem_append_left _ (List.mem_append_left _ (List.mem_append_left _ (List.mem_append_right _ h)))) | exact List.mem_append_left _ (List.mem_append_left _ (List.mem_append_left _ (List.mem_append_left _ (List.mem_append_left _ (List.mem_append_right _ h))))))
set_option maxRecDepth 100000 in
set_option maxHeartbeats 4000000 in
/-- X1.listKnots -/
theorem m_listKnots (l : Launch) (E : kb_E) (X : Nat → Nat → Int32) (Y : Nat → Nat → Int64) (q n R : Nat) (hq : q < 8) (hn : n ≤ 6) (hn2 : 2 ≤ n) (hR : R ≤ 16) (hth : X (148 + 5 * q) 2 = nI n) (hro : X (148 + 5 * q) 3 = nI R) : kb_Met l E 202 yX1_listKnots wsX1_listKnots ({ frames := 1, cells := 0, slots := 0, locals := 21 }) [.ref (E.2.2.2 3), .ref (E.2.2.2 (148 + 5 * q))] (kb_ent E X Y) (fun v g' => v = none ∧ ∃ X', g' = kb_ent E X' Y ∧ kb_lst q n R 0 X X') := by
  refine kb_enter (cc := cX1_listKnots) (maxL := 5) (ret := none) (by decide +kernel) rfl (by simp [Value.category]) (Nat.le_of_ble_eq_true rfl) ?_
  intro p e s m args below meth c C hini
  refine q_aload_n C dX1_listKnots_0 rfl ?_
  refine q_iconst C (v := nI 0) dX1_listKnots_1 (by decide) ?_
  refine x_putI C (ci := 1) (k := 3) (C0 := RX1) (T := TX1) (NF := 6) (ref := RX1) (host := RX4) (ty := .int) dX1_listKnots_2 fi_Lkc rfl iX1_listKnots_X1 tyX1_ok nmX1 (by decide) (List.mem_of_getElem? (i := 1) rfl) rfl rfl (by decide +kernel) rfl rfl ?_
  refine q_iconst C (v := nI 0) dX1_listKnots_5 (by decide) ?_
  refine q_istore_n C dX1_listKnots_6 (by decide) rfl ?_
  refine q_mask [true, true, true, false, false] (q_for (σ := Unit) (k0 := 0) (R) (fun r _ X' Y' => Y = Y' ∧ kb_lst q n r 0 X X') (fun r _ => [some (.ref (E.2.2.2 3)), some (.ref (E.2.2.2 (148 + 5 * q))), some (.int (nI r)), none, none]) (Nat.zero_le _) () (⟨rfl, fun z a1 a2 a3 a4 => by rw [kb_up_ne a1], by rw [kb_up_self, upd, if_pos rfl]; rfl, fun r' k' h => absurd h (by omega)⟩) ?_ ?_)
  · intro r a1 Xa Ya hk_r hk0_r hI_r ih_r
    obtain ⟨rfl, hI1⟩ := hI_r
    have eP1 : Xa (148 + 5 * q) = X (148 + 5 * q) := hI1.1 _ (by omega) (by omega) (by omega) (by omega)
    have hr1 : Xa (148 + 5 * q) 3 = nI R := by rw [eP1]; exact hro
    have ht1 : Xa (148 + 5 * q) 2 = nI n := by rw [eP1]; exact hth
    refine q_iload_n C dX1_listKnots_7 rfl ?_
    refine q_aload_n C dX1_listKnots_8 rfl ?_
    refine x_getIN C (ci := 2) (k := 3) (C0 := RX2) (T := TX2) (NF := 10) (ref := RX2) (host := RX4) dX1_listKnots_9 (fi_Prow hq) rfl iX1_listKnots_X2 (by decide) (by decide +kernel) rfl ?_
    refine q_top (show Value.int _ = Value.int _ from congrArg Value.int (hr1)) ?_
    refine q_icmpgeN C (tgt := 106) dX1_listKnots_12 (by decide) (by omega) (by omega) (fun c12 => ?_) (fun c12 => ?_)
    · exact absurd c12 (by omega)
    · refine q_aload_n C dX1_listKnots_15 rfl ?_
      refine x_getIN C (ci := 2) (k := 2) (C0 := RX2) (T := TX2) (NF := 10) (ref := RX2) (host := RX4) dX1_listKnots_16 (fi_Pthr hq) rfl iX1_listKnots_X2 (by decide) (by decide +kernel) rfl ?_
      refine q_top (show Value.int _ = Value.int _ from congrArg Value.int (ht1)) ?_
      refine q_iload_n C dX1_listKnots_19 rfl ?_
      refine q_callSN (As := [_, _]) (nA := 2) (host := RX4) C dX1_listKnots_20 (m_knotsIn _ _ _ _ _) ggX1_listKnots_X4_knotsIn rfl (by decide +kernel) (List.mem_of_getElem? (i := 6) rfl) (List.mem_of_getElem? (i := 5) rfl) (by decide +kernel) rfl ⟨Nat.le_of_ble_eq_true rfl, Nat.le_of_ble_eq_true rfl⟩ (Nat.le_of_ble_eq_true rfl) ⟨Nat.le_of_ble_eq_true rfl, Nat.le_of_ble_eq_true rfl⟩ (fun v20 g20 h20 => ?_)
      obtain ⟨rfl, rfl⟩ := h20
      refine q_top (show Value.int _ = Value.int _ from congrArg Value.int (nv_knotsIn n (by omega) r (by omega) (by omega))) ?_
      refine q_istore_n C dX1_listKnots_23 (by decide) rfl ?_
      refine q_iconst C (v := nI 0) dX1_listKnots_24 (by decide) ?_
      refine q_istore C dX1_listKnots_25 (by decide) rfl ?_
      refine q_mask [true, true, true, true, true] (q_for (σ := Unit) (k0 := 0) (kb_kn n r) (fun k _ X' Y' => Y = Y' ∧ kb_lst q n r k X X') (fun k _ => [some (.ref (E.2.2.2 3)), some (.ref (E.2.2.2 (148 + 5 * q))), some (.int (nI r)), some (.int (nI (kb_kn n r))), some (.int (nI k))]) (Nat.zero_le _) () (⟨rfl, hI1⟩) ?_ ?_)
      · intro k a2 Xb Yb hk_k hk0_k hI_k ih_k
        obtain ⟨rfl, hI2⟩ := hI_k
        have hkn3 : kb_kn n r ≤ 3 := kb_kn_le hn
        have eP2 : Xb (148 + 5 * q + 1) = X (148 + 5 * q + 1) := hI2.1 _ (by omega) (by omega) (by omega) (by omega)
        have hlt : kb_kc n r + k < 40 := Nat.lt_of_lt_of_le (kb_kc_lt (Nat.lt_succ_self r) hk_k) (kb_kc_le n (by omega) (r + 1) (by omega))
        have k2 := hI2.2.1
        refine q_iload C dX1_listKnots_27 rfl ?_
        refine q_iload_n C dX1_listKnots_29 rfl ?_
        refine q_icmpgeN C (tgt := 100) dX1_listKnots_30 (by decide) (by omega) (by omega) (fun c30 => ?_) (fun c30 => ?_)
        · exact absurd c30 (by omega)
        · refine q_aload_n C dX1_listKnots_33 rfl ?_
          refine x_getR C (ci := 1) (k := 0) (C0 := RX1) (T := TX1) (NF := 6) (ref := RX1) (host := RX4) dX1_listKnots_34 fr_Lnames rfl iX1_listKnots_X1 (by decide) (List.mem_of_getElem? (i := 2) rfl) rfl ?_
          refine q_aload_n C dX1_listKnots_37 rfl ?_
          refine x_getI C (ci := 1) (k := 3) (C0 := RX1) (T := TX1) (NF := 6) (ref := RX1) (host := RX4) dX1_listKnots_38 fi_Lkc rfl iX1_listKnots_X1 (by decide) (List.mem_of_getElem? (i := 1) rfl) rfl ?_
          refine q_top (show Value.int _ = Value.int _ from congrArg Value.int (k2)) ?_
          refine q_bipush C (v := nI 8) dX1_listKnots_41 (by decide) ?_
          refine q_iload_n C dX1_listKnots_43 rfl ?_
          refine q_imulN C dX1_listKnots_44 ?_
          refine q_iload C dX1_listKnots_45 rfl ?_
          refine q_iaddN C dX1_listKnots_47 ?_
          refine x_iastN C dX1_listKnots_48 ia_Lnames (by decide) hlt ?_
          refine q_aload_n C dX1_listKnots_49 rfl ?_
          refine x_getR C (ci := 1) (k := 1) (C0 := RX1) (T := TX1) (NF := 6) (ref := RX1) (host := RX4) dX1_listKnots_50 fr_Llefts rfl iX1_listKnots_X1 (by decide) (List.mem_of_getElem? (i := 3) rfl) rfl ?_
          refine q_aload_n C dX1_listKnots_53 rfl ?_
          refine x_getI C (ci := 1) (k := 3) (C0 := RX1) (T := TX1) (NF := 6) (ref := RX1) (host := RX4) dX1_listKnots_54 fi_Lkc rfl iX1_listKnots_X1 (by decide) (List.mem_of_getElem? (i := 1) rfl) rfl ?_
          refine q_top (show Value.int _ = Value.int _ from congrArg Value.int ((show (va_up Xb 4 (upd (Xb 4) (kb_kc n r + k) (nI (8 * r + k)))) 3 3 = nI (kb_kc n r + k) from by rw [kb_up_ne (by decide)]; exact k2))) ?_
          refine q_iload_n C dX1_listKnots_57 rfl ?_
          refine q_iload C dX1_listKnots_58 rfl ?_
          refine q_callSN (As := [_, _]) (nA := 2) (host := RX4) C dX1_listKnots_60 (m_leftPlaceOf _ _ _ _ _) ggX1_listKnots_X4_leftPlaceOf rfl (by decide +kernel) (List.mem_of_getElem? (i := 6) rfl) (List.mem_of_getElem? (i := 8) rfl) (by decide +kernel) rfl ⟨Nat.le_of_ble_eq_true rfl, Nat.le_of_ble_eq_true rfl⟩ (Nat.le_of_ble_eq_true rfl) ⟨Nat.le_of_ble_eq_true rfl, Nat.le_of_ble_eq_true rfl⟩ (fun v60 g60 h60 => ?_)
          obtain ⟨rfl, rfl⟩ := h60
          refine q_top (show Value.int _ = Value.int _ from congrArg Value.int (nv_leftPlaceOf r (by omega) k (by omega))) ?_
          refine x_iastN C dX1_listKnots_63 ia_Llefts (by decide) hlt ?_
          refine q_aload_n C dX1_listKnots_64 rfl ?_
          refine x_getR C (ci := 1) (k := 2) (C0 := RX1) (T := TX1) (NF := 6) (ref := RX1) (host := RX4) dX1_listKnots_65 fr_Lwish rfl iX1_listKnots_X1 (by decide) (List.mem_of_getElem? (i := 4) rfl) rfl ?_
          refine q_aload_n C dX1_listKnots_68 rfl ?_
          refine x_getI C (ci := 1) (k := 3) (C0 := RX1) (T := TX1) (NF := 6) (ref := RX1) (host := RX4) dX1_listKnots_69 fi_Lkc rfl iX1_listKnots_X1 (by decide) (List.mem_of_getElem? (i := 1) rfl) rfl ?_
          refine q_top (show Value.int _ = Value.int _ from congrArg Value.int ((show (va_up (va_up Xb 4 _) 5 _ : Nat → Nat → Int32) 3 3 = nI (kb_kc n r + k) from by rw [kb_up_ne (by decide), kb_up_ne (by decide)]; exact k2))) ?_
          refine q_aload_n C dX1_listKnots_72 rfl ?_
          refine x_getRN C (ci := 2) (k := 0) (C0 := RX2) (T := TX2) (NF := 10) (ref := RX2) (host := RX4) dX1_listKnots_73 (fr_Ptol hq) rfl iX1_listKnots_X2 (by decide) (by decide +kernel) rfl ?_
          refine q_iload_n C dX1_listKnots_76 rfl ?_
          refine q_iload C dX1_listKnots_77 rfl ?_
          refine q_callSN (As := [_, _]) (nA := 2) (host := RX4) C dX1_listKnots_79 (m_spotOf _ _ _ _ _) ggX1_listKnots_X4_spotOf rfl (by decide +kernel) (List.mem_of_getElem? (i := 6) rfl) (List.mem_of_getElem? (i := 10) rfl) (by decide +kernel) rfl ⟨Nat.le_of_ble_eq_true rfl, Nat.le_of_ble_eq_true rfl⟩ (Nat.le_of_ble_eq_true rfl) ⟨Nat.le_of_ble_eq_true rfl, Nat.le_of_ble_eq_true rfl⟩ (fun v79 g79 h79 => ?_)
          obtain ⟨rfl, rfl⟩ := h79
          refine q_top (show Value.int _ = Value.int _ from congrArg Value.int (nv_spotOf r k)) ?_
          refine x_ialdN C dX1_listKnots_82 (ia_Ptol hq) (by decide) (by omega) ?_
          refine x_iastN C dX1_listKnots_83 ia_Lwish (by decide) hlt ?_
          refine q_aload_n C dX1_listKnots_84 rfl ?_
          refine q_dup C dX1_listKnots_85 rfl ?_
          refine x_getI C (ci := 1) (k := 3) (C0 := RX1) (T := TX1) (NF := 6) (ref := RX1) (host := RX4) dX1_listKnots_86 fi_Lkc rfl iX1_listKnots_X1 (by decide) (List.mem_of_getElem? (i := 1) rfl) rfl ?_
          refine q_top (show Value.int _ = Value.int _ from congrArg Value.int ((show (va_up (va_up (va_up Xb 4 _) 5 _) 6 _ : Nat → Nat → Int32) 3 3 = nI (kb_kc n r + k) from by rw [kb_up_ne (by decide), kb_up_ne (by decide), kb_up_ne (by decide)]; exact k2))) ?_
          refine q_iconst C (v := nI 1) dX1_listKnots_89 (by decide) ?_
          refine q_iaddN C dX1_listKnots_90 ?_
          refine x_putI C (ci := 1) (k := 3) (C0 := RX1) (T := TX1) (NF := 6) (ref := RX1) (host := RX4) (ty := .int) dX1_listKnots_91 fi_Lkc rfl iX1_listKnots_X1 tyX1_ok nmX1 (by decide) (List.mem_of_getElem? (i := 1) rfl) rfl rfl (by decide +kernel) rfl rfl ?_
          refine q_iinc1 C dX1_listKnots_94 rfl (by decide) rfl ?_
          refine q_goto C (tgt := 27) dX1_listKnots_97 (by decide) ?_
          exact q_mask [true, true, true, true, true] (ih_k () _ _ ⟨rfl, fun z a1 a2 a3 a4 => by rw [kb_up_ne a1, kb_up_ne a4, kb_up_ne a3, kb_up_ne a2]; exact hI2.1 z a1 a2 a3 a4, by rw [kb_up_self, upd, if_pos rfl]; rfl, fun r' k' h => by
            have key : (r' = r ∧ k' = k) ∨ ((((r' < r ∧ k' < kb_kn n r') ∨ (r' = r ∧ k' < k))) ∧ kb_kc n r' + k' ≠ kb_kc n r + k) := by
              rcases h with h | h
              · have := kb_kc_lt h.1 h.2
                exact Or.inr ⟨Or.inl h, by omega⟩
              · rcases Nat.lt_or_ge k' k with z | z
                · refine Or.inr ⟨Or.inr ⟨h.1, z⟩, ?_⟩
                  rw [h.1]; omega
                · exact Or.inl ⟨h.1, by omega⟩
            have x4 : ∀ (f5 f6 f3 : Nat → Int32) (j : Nat), va_up (va_up (va_up (va_up Xb 4 (upd (Xb 4) (kb_kc n r + k) (nI (8 * r + k)))) 5 f5) 6 f6) 3 f3 4 j = upd (Xb 4) (kb_kc n r + k) (nI (8 * r + k)) j := fun _ _ _ j => by simp [va_up]
            rcases key with ⟨rfl, rfl⟩ | ⟨h1, h2⟩
            · refine ⟨?_, ?_, ?_⟩
              · simp [va_up, upd]
              · simp [va_up, upd]
              · simp [va_up, upd, eP2, show ¬ 148 + 5 * q = 4 by omega, show ¬ 148 + 5 * q = 3 by omega]
            · obtain ⟨g1, g2, g3⟩ := hI2.2.2 r' k' h1
              refine ⟨?_, ?_, ?_⟩
              · simp [va_up, upd, h2, g1]
              · simp [va_up, upd, h2, g2]
              · simp [va_up, upd, h2, g3]⟩)
      · intro a2 Xb Yb hI_k
        obtain ⟨rfl, hI2⟩ := hI_k
        have hkn3 : kb_kn n r ≤ 3 := kb_kn_le hn
        refine q_iload C dX1_listKnots_27 rfl ?_
        refine q_iload_n C dX1_listKnots_29 rfl ?_
        refine q_icmpgeN C (tgt := 100) dX1_listKnots_30 (by decide) (by omega) (by omega) (fun c30 => ?_) (fun c30 => ?_)
        · refine q_iinc1 C dX1_listKnots_100 rfl (by decide) rfl ?_
          refine q_goto C (tgt := 7) dX1_listKnots_103 (by decide) ?_
          exact q_mask [true, true, true, false, false] (ih_r () _ _ ⟨rfl, hI2.1, hI2.2.1, fun r' k' h => hI2.2.2 r' k' (by
            rcases h with h | h
            · rcases Nat.lt_or_ge r' r with z | z
              · exact Or.inl ⟨z, h.2⟩
              · have e : r' = r := by omega
                subst e
                exact Or.inr ⟨rfl, h.2⟩
            · exact absurd h.2 (Nat.not_lt_zero _))⟩)
        · exact absurd c30 (by omega)
  · intro a1 Xa Ya hI_r
    obtain ⟨rfl, hI1⟩ := hI_r
    have eP1 : Xa (148 + 5 * q) = X (148 + 5 * q) := hI1.1 _ (by omega) (by omega) (by omega) (by omega)
    have hr1 : Xa (148 + 5 * q) 3 = nI R := by rw [eP1]; exact hro
    have ht1 : Xa (148 + 5 * q) 2 = nI n := by rw [eP1]; exact hth
    refine q_iload_n C dX1_listKnots_7 rfl ?_
    refine q_aload_n C dX1_listKnots_8 rfl ?_
    refine x_getIN C (ci := 2) (k := 3) (C0 := RX2) (T := TX2) (NF := 10) (ref := RX2) (host := RX4) dX1_listKnots_9 (fi_Prow hq) rfl iX1_listKnots_X2 (by decide) (by decide +kernel) rfl ?_
    refine q_top (show Value.int _ = Value.int _ from congrArg Value.int (hr1)) ?_
    refine q_icmpgeN C (tgt := 106) dX1_listKnots_12 (by decide) (by omega) (by omega) (fun c12 => ?_) (fun c12 => ?_)
    · exact q_vret C dX1_listKnots_106 ⟨rfl, _, rfl, hI1⟩
    · exact absurd c12 (by omega)
/-- words that hold just the rows of colours with P -/
def kb_ist (f : Nat → Int64) (P : Nat → Prop) : Prop := ∀ s, s < 4096 → (kb_has f s = true ↔ P s)
theorem kb_has_fill {f : Nat → Int64} (h : ∀ j, j < 64 → f j = -1) {s : Nat} (hs : s < 4096) : kb_has f s = true := by
  unfold kb_has
  rw [h _ (by omega)]
  exact kb_bit_m1 _ (Nat.mod_lt _ (by decide))
theorem kb_has_keep {f f' : Nat → Int64} {p c : Nat} (hp : p < 6) (hc : c < 4) (h : ∀ j, j < 64 → f' j = f j &&& kb_hav j p c) {s : Nat} (hs : s < 4096) : kb_has f' s = (kb_has f s && decide (kb_dg 6 s p = c)) := by
  have hm : s % 64 < 64 := Nat.mod_lt _ (by decide)
  unfold kb_has
  rw [h _ (by omega), kb_bit_and, kb_hav_bit hp hc hm, kb_split]
theorem kb_has_keep2 {f f' : Nat → Int64} {p c : Nat} (hp : p < 5) (hc : c < 4) (h : ∀ j, j < 64 → f' j = f j &&& (kb_hav j p c ||| kb_hav j (p + 1) c)) {s : Nat} (hs : s < 4096) : kb_has f' s = (kb_has f s && (decide (kb_dg 6 s p = c) || decide (kb_dg 6 s (p + 1) = c))) := by
  have hm : s % 64 < 64 := Nat.mod_lt _ (by decide)
  unfold kb_has
  rw [h _ (by omega), kb_bit_and, kb_bit_or, kb_hav_bit (by omega) hc hm, kb_hav_bit (by omega) hc hm, kb_split]
/-- a wish c for the knot with left place p is kept by s, one way or the other -/
def kb_okq (p c s : Nat) : Prop := c = 4 ∨ kb_dg 6 s p = c ∨ kb_dg 6 s (p + 1) = c
/-- from s, ahead of knot q, j knots can be tied -/
def kb_AH (lf wi : Nat → Nat) : Nat → Nat → Nat → Prop
  | _, 0, _ => True
  | q, j + 1, s => kb_okq (lf q) (wi q) s ∧ (kb_AH lf wi (q + 1) j s ∨ kb_AH lf wi (q + 1) j (kb_ss 6 s (lf q)))
theorem kb_ist_spread {f f' : Nat → Int64} {P : Nat → Prop} {p : Nat} (hp : p < 5) (h : kb_ist f P) (hf : ∀ s, s < 4096 → kb_has f' s = (kb_has f s || kb_has f (kb_ss 6 s p))) : kb_ist f' (fun s => P s ∨ P (kb_ss 6 s p)) := fun s hs => by
  rw [hf s hs, Bool.or_eq_true, h s hs, h _ (kb_ss6_lt hs hp)]
theorem kb_ist_keep2 {f f' : Nat → Int64} {P : Nat → Prop} {p c : Nat} (hp : p < 5) (hc : c < 4) (h : kb_ist f P) (hf : ∀ j, j < 64 → f' j = f j &&& (kb_hav j p c ||| kb_hav j (p + 1) c)) : kb_ist f' (fun s => kb_okq p c s ∧ P s) := fun s hs => by
  rw [kb_has_keep2 hp hc hf hs, Bool.and_eq_true, h s hs, Bool.or_eq_true, decide_eq_true_iff, decide_eq_true_iff]
  unfold kb_okq
  constructor
  · rintro ⟨a, b⟩; exact ⟨Or.inr b, a⟩
  · rintro ⟨a, b⟩
    refine ⟨b, ?_⟩
    rcases a with a | a
    · omega
    · exact a
theorem kb_ist.iff {f : Nat → Int64} {P Q : Nat → Prop} (h : kb_ist f P) (e : ∀ s, P s ↔ Q s) : kb_ist f Q := fun s hs => (h s hs).trans (e s)
/-- the class's sets apart, longs are as they were -/
def kb_sL (Y Y' : Nat → Nat → Int64) : Prop := ∀ z, 92 ≤ z → Y' z = Y z
theorem kb_SNa {q : Nat} (h : q < 41) : kb_SN (10 + 2 * q) := ⟨by omega, by omega, by omega⟩
theorem iX1_workBackward_X1 : ∀ w ∈ wsX10, w ∈ wsX1_workBackward := fun _ h => List.mem_cons_of_mem _ (by first | exact h | exact List.mem_append_right _ h | exact List.mem_append_left _ (List.mem_append_right _ h) | exact List.mem_append_left _ (List.mem_append_left _ (List.mem_append_right _ h)) | exact List.mem_append_left _ (List.mem_append_left _ (List.mem_append_left _ (List.mem_append_right _ h))) | exact List.mem_append_left _ (List.mem_append_left _ (List.mem_append_left _ (List.mem_append_left _ (List.mem_append_right _ h)))) | exact List.mem_append_left _ (List.mem_append_left _ (List.mem_append_left _ (List.mem_append_left _ (List.mem_append_left _ (List.mem_append_right _ h))))))
set_option maxRecDepth 100000 in
set_option maxHeartbeats 4000000 in
/-- X1.workBackward -/
theorem m_workBackward (l : Launch) (E : kb_E) (X : Nat → Nat → Int32) (Y : Nat → Nat → Int64) (K : Nat) (hK : K ≤ 40) (lf wi : Nat → Nat) (hkc : X 3 3 = nI K) (hlf : ∀ q, q < K → X 5 q = nI (lf q) ∧ lf q < 5) (hwi : ∀ q, q < K → X 6 q = nI (wi q) ∧ wi q ≤ 4) : kb_Met l E 202 yX1_workBackward wsX1_workBackward ({ frames := 3, cells := 0, slots := 0, locals := 67 }) [.ref (E.2.2.2 3)] (kb_ent E X Y) (fun v g' => v = none ∧ ∃ Y', g' = kb_ent E X Y' ∧ kb_sL Y Y' ∧ ∀ z, z ≤ K → kb_ist (Y' (10 + 2 * z + 1)) (kb_AH lf wi z (K - z))) := by
  refine kb_enter (cc := cX1_workBackward) (maxL := 2) (ret := none) (by decide +kernel) rfl (by simp [Value.category]) (Nat.le_of_ble_eq_true rfl) ?_
  intro p e s m args below meth c C hini
  refine q_aload_n C dX1_workBackward_0 rfl ?_
  refine x_getR C (ci := 1) (k := 4) (C0 := RX1) (T := TX1) (NF := 6) (ref := RX1) (host := RX4) dX1_workBackward_1 fr_Lahead rfl iX1_workBackward_X1 (by decide) (List.mem_of_getElem? (i := 1) rfl) rfl ?_
  refine q_aload_n C dX1_workBackward_4 rfl ?_
  refine x_getI C (ci := 1) (k := 3) (C0 := RX1) (T := TX1) (NF := 6) (ref := RX1) (host := RX4) dX1_workBackward_5 fi_Lkc rfl iX1_workBackward_X1 (by decide) (List.mem_of_getElem? (i := 2) rfl) rfl ?_
  refine q_top (show Value.int _ = Value.int _ from congrArg Value.int (hkc)) ?_
  refine x_aaldN C dX1_workBackward_8 ra_Lahead rfl (by decide) (by omega) ?_
  refine x_callV (As := []) (nA := 0) (T := TX3) (NF := 1) C dX1_workBackward_9 (ob_S (kb_SNa (q := K) (by omega))) rfl (m_fill _ _ X Y (10 + 2 * K) (kb_SNa (by omega))) gX1_workBackward_X3_fill rfl (by decide +kernel) rfl ⟨Nat.le_of_ble_eq_true rfl, Nat.le_of_ble_eq_true rfl⟩ (Nat.le_of_ble_eq_true rfl) ⟨Nat.le_of_ble_eq_true rfl, Nat.le_of_ble_eq_true rfl⟩ (fun v9 g9 h9 => ?_)
  obtain ⟨rfl, Yf, rfl, hf⟩ := h9
  refine q_aload_n C dX1_workBackward_12 rfl ?_
  refine x_getI C (ci := 1) (k := 3) (C0 := RX1) (T := TX1) (NF := 6) (ref := RX1) (host := RX4) dX1_workBackward_13 fi_Lkc rfl iX1_workBackward_X1 (by decide) (List.mem_of_getElem? (i := 2) rfl) rfl ?_
  refine q_top (show Value.int _ = Value.int _ from congrArg Value.int (hkc)) ?_
  refine q_iconst C (v := nI 1) dX1_workBackward_16 (by decide) ?_
  refine q_isub C dX1_workBackward_17 ?_
  refine q_istore_n C dX1_workBackward_18 (by decide) rfl ?_
  refine q_mask [true, true] (q_for (σ := Unit) (k0 := 0) (K) (fun j _ X' Y' => X = X' ∧ kb_sL Y Y' ∧ ∀ z, K - j ≤ z → z ≤ K → kb_ist (Y' (10 + 2 * z + 1)) (kb_AH lf wi z (K - z))) (fun j _ => [some (.ref (E.2.2.2 3)), some (.int (nI (K - j) - nI 1))]) (Nat.zero_le _) () (⟨rfl, fun z hz => hf.1 z (by omega), fun z h1 h2 => by
      have e : z = K := by omega
      subst e
      rw [Nat.sub_self]
      exact fun s hs => ⟨fun _ => trivial, fun _ => kb_has_fill hf.2 hs⟩⟩) ?_ ?_)
  · intro j a1 Xa Ya hk_j hk0_j hI_j ih_j
    obtain ⟨rfl, hI1⟩ := hI_j
    obtain ⟨q, hqe⟩ : ∃ q, q = K - (j + 1) := ⟨_, rfl⟩
    rw [show nI (K - j) - nI 1 = nI q from (pk_sub (by omega)).trans (by rw [hqe]; rfl)]
    have hl := hlf q (by omega)
    have hw := hwi q (by omega)
    have hA := hI1.2 (q + 1) (by omega) (by omega)
    refine q_iload_n C dX1_workBackward_19 rfl ?_
    refine q_iflt C (tgt := 83) dX1_workBackward_20 (by decide) (fun c20 => ?_) (fun c20 => ?_)
    · exact absurd c20 (nI_pos (by omega))
    · refine q_aload_n C dX1_workBackward_23 rfl ?_
      refine x_getR C (ci := 1) (k := 4) (C0 := RX1) (T := TX1) (NF := 6) (ref := RX1) (host := RX4) dX1_workBackward_24 fr_Lahead rfl iX1_workBackward_X1 (by decide) (List.mem_of_getElem? (i := 1) rfl) rfl ?_
      refine q_iload_n C dX1_workBackward_27 rfl ?_
      refine x_aaldN C dX1_workBackward_28 ra_Lahead rfl (by decide) (by omega) ?_
      refine q_aload_n C dX1_workBackward_29 rfl ?_
      refine x_getR C (ci := 1) (k := 4) (C0 := RX1) (T := TX1) (NF := 6) (ref := RX1) (host := RX4) dX1_workBackward_30 fr_Lahead rfl iX1_workBackward_X1 (by decide) (List.mem_of_getElem? (i := 1) rfl) rfl ?_
      refine q_iload_n C dX1_workBackward_33 rfl ?_
      refine q_iconst C (v := nI 1) dX1_workBackward_34 (by decide) ?_
      refine q_iaddN C dX1_workBackward_35 ?_
      refine x_aaldN C dX1_workBackward_36 ra_Lahead rfl (by decide) (by omega) ?_
      refine q_aload_n C dX1_workBackward_37 rfl ?_
      refine x_getR C (ci := 1) (k := 1) (C0 := RX1) (T := TX1) (NF := 6) (ref := RX1) (host := RX4) dX1_workBackward_38 fr_Llefts rfl iX1_workBackward_X1 (by decide) (List.mem_of_getElem? (i := 3) rfl) rfl ?_
      refine q_iload_n C dX1_workBackward_41 rfl ?_
      refine x_ialdN C dX1_workBackward_42 ia_Llefts (by decide) (by omega) ?_
      refine q_top (show Value.int _ = Value.int _ from congrArg Value.int (hl.1)) ?_
      refine x_callV (As := [_, _]) (nA := 2) (T := TX3) (NF := 1) C dX1_workBackward_43 (ob_S (kb_SNa (q := q) (by omega))) rfl (m_spread _ _ X _ (10 + 2 * q) (10 + 2 * (q + 1)) (lf q) (kb_SNa (by omega)) (kb_SNa (by omega)) hl.2) gX1_workBackward_X3_spread rfl (by decide +kernel) rfl ⟨Nat.le_of_ble_eq_true rfl, Nat.le_of_ble_eq_true rfl⟩ (Nat.le_of_ble_eq_true rfl) ⟨Nat.le_of_ble_eq_true rfl, Nat.le_of_ble_eq_true rfl⟩ (fun v43 g43 h43 => ?_)
      obtain ⟨rfl, Ys, rfl, h43s⟩ := h43
      refine q_aload_n C dX1_workBackward_46 rfl ?_
      refine x_getR C (ci := 1) (k := 2) (C0 := RX1) (T := TX1) (NF := 6) (ref := RX1) (host := RX4) dX1_workBackward_47 fr_Lwish rfl iX1_workBackward_X1 (by decide) (List.mem_of_getElem? (i := 4) rfl) rfl ?_
      refine q_iload_n C dX1_workBackward_50 rfl ?_
      refine x_ialdN C dX1_workBackward_51 ia_Lwish (by decide) (by omega) ?_
      refine q_top (show Value.int _ = Value.int _ from congrArg Value.int (hw.1)) ?_
      refine q_iconst C (v := nI 4) dX1_workBackward_52 (by decide) ?_
      refine q_icmpeqN C (tgt := 77) dX1_workBackward_53 (by decide) (by omega) (by omega) (fun c53 => ?_) (fun c53 => ?_)
      · have hN : ∀ z, z ≠ 10 + 2 * q + 1 → Ys z = Ya z := h43s.1
        have hQ : kb_ist (Ys (10 + 2 * q + 1)) (kb_AH lf wi q (K - q)) := by
          rw [show K - q = (K - (q + 1)) + 1 by omega]
          exact (kb_ist_spread hl.2 hA h43s.2).iff (fun s => ⟨fun u => ⟨Or.inl c53, u⟩, fun u => u.2⟩)
        refine q_iinc C dX1_workBackward_77 rfl (by decide) rfl ?_
        rw [kb_dec]
        subst hqe
        refine q_goto C (tgt := 19) dX1_workBackward_80 (by decide) ?_
        exact q_mask [true, true] (ih_j () _ _ ⟨rfl, fun z hz => (hN z (by omega)).trans (hI1.1 z hz), fun z h1 h2 => by
          rcases Nat.lt_or_ge (K - (j + 1)) z with g | g
          · rw [hN _ (by omega)]; exact hI1.2 z (by omega) h2
          · have e : z = K - (j + 1) := by omega
            subst e
            exact hQ⟩)
      · refine q_aload_n C dX1_workBackward_56 rfl ?_
        refine x_getR C (ci := 1) (k := 4) (C0 := RX1) (T := TX1) (NF := 6) (ref := RX1) (host := RX4) dX1_workBackward_57 fr_Lahead rfl iX1_workBackward_X1 (by decide) (List.mem_of_getElem? (i := 1) rfl) rfl ?_
        refine q_iload_n C dX1_workBackward_60 rfl ?_
        refine x_aaldN C dX1_workBackward_61 ra_Lahead rfl (by decide) (by omega) ?_
        refine q_aload_n C dX1_workBackward_62 rfl ?_
        refine x_getR C (ci := 1) (k := 1) (C0 := RX1) (T := TX1) (NF := 6) (ref := RX1) (host := RX4) dX1_workBackward_63 fr_Llefts rfl iX1_workBackward_X1 (by decide) (List.mem_of_getElem? (i := 3) rfl) rfl ?_
        refine q_iload_n C dX1_workBackward_66 rfl ?_
        refine x_ialdN C dX1_workBackward_67 ia_Llefts (by decide) (by omega) ?_
        refine q_top (show Value.int _ = Value.int _ from congrArg Value.int (hl.1)) ?_
        refine q_aload_n C dX1_workBackward_68 rfl ?_
        refine x_getR C (ci := 1) (k := 2) (C0 := RX1) (T := TX1) (NF := 6) (ref := RX1) (host := RX4) dX1_workBackward_69 fr_Lwish rfl iX1_workBackward_X1 (by decide) (List.mem_of_getElem? (i := 4) rfl) rfl ?_
        refine q_iload_n C dX1_workBackward_72 rfl ?_
        refine x_ialdN C dX1_workBackward_73 ia_Lwish (by decide) (by omega) ?_
        refine q_top (show Value.int _ = Value.int _ from congrArg Value.int (hw.1)) ?_
        refine x_callV (As := [_, _]) (nA := 2) (T := TX3) (NF := 1) C dX1_workBackward_74 (ob_S (kb_SNa (q := q) (by omega))) rfl (m_keepEither _ _ X _ (10 + 2 * q) (lf q) (wi q) (kb_SNa (by omega)) hl.2 (by omega)) gX1_workBackward_X3_keepEither rfl (by decide +kernel) rfl ⟨Nat.le_of_ble_eq_true rfl, Nat.le_of_ble_eq_true rfl⟩ (Nat.le_of_ble_eq_true rfl) ⟨Nat.le_of_ble_eq_true rfl, Nat.le_of_ble_eq_true rfl⟩ (fun v74 g74 h74 => ?_)
        obtain ⟨rfl, Yk, rfl, h74s⟩ := h74
        have hN : ∀ z, z ≠ 10 + 2 * q + 1 → Yk z = Ya z := fun z hz => (h74s.1 z hz).trans (h43s.1 z hz)
        have hQ : kb_ist (Yk (10 + 2 * q + 1)) (kb_AH lf wi q (K - q)) := by
          rw [show K - q = (K - (q + 1)) + 1 by omega]
          exact kb_ist_keep2 hl.2 (by omega) (kb_ist_spread hl.2 hA h43s.2) h74s.2
        refine q_iinc C dX1_workBackward_77 rfl (by decide) rfl ?_
        rw [kb_dec]
        subst hqe
        refine q_goto C (tgt := 19) dX1_workBackward_80 (by decide) ?_
        exact q_mask [true, true] (ih_j () _ _ ⟨rfl, fun z hz => (hN z (by omega)).trans (hI1.1 z hz), fun z h1 h2 => by
          rcases Nat.lt_or_ge (K - (j + 1)) z with g | g
          · rw [hN _ (by omega)]; exact hI1.2 z (by omega) h2
          · have e : z = K - (j + 1) := by omega
            subst e
            exact hQ⟩)
  · intro a1 Xa Ya hI_j
    obtain ⟨rfl, hI1⟩ := hI_j
    have hneg : nI (K - K) - nI 1 < 0 := by rw [Nat.sub_self]; decide
    refine q_iload_n C dX1_workBackward_19 rfl ?_
    refine q_iflt C (tgt := 83) dX1_workBackward_20 (by decide) (fun c20 => ?_) (fun c20 => ?_)
    · exact q_vret C dX1_workBackward_83 ⟨rfl, _, rfl, hI1.1, fun z hz => hI1.2 z (by omega) hz⟩
    · exact absurd hneg c20
theorem nv_bitOf {p : Nat} (hp : p < 5) : kb_bitOf (nI (p + 1)) = nI (2 * (4 - p)) := by
  unfold kb_bitOf
  rw [pk_sub (by omega), pk_mul, show 5 - (p + 1) = 4 - p by omega]
/-- the standing behind a knot of kind kk -/
def kb_bh (s p kk : Nat) : Nat := if kk < 2 then kb_ss 6 s p else s
theorem kb_bh_lt {s p kk : Nat} (hs : s < 4096) (hp : p < 5) : kb_bh s p kk < 4096 := by
  unfold kb_bh
  split
  · exact kb_ss6_lt hs hp
  · exact hs
theorem iX1_standingBehind_X1 : ∀ w ∈ wsX10, w ∈ wsX1_standingBehind := fun _ h => List.mem_cons_of_mem _ (by first | exact h | exact List.mem_append_right _ h | exact List.mem_append_left _ (List.mem_append_right _ h) | exact List.mem_append_left _ (List.mem_append_left _ (List.mem_append_right _ h)) | exact List.mem_append_left _ (List.mem_append_left _ (List.mem_append_left _ (List.mem_append_right _ h))) | exact List.mem_append_left _ (List.mem_append_left _ (List.mem_append_left _ (List.mem_append_left _ (List.mem_append_right _ h)))) | exact List.mem_append_left _ (List.mem_append_left _ (List.mem_append_left _ (List.mem_append_left _ (List.mem_append_left _ (List.mem_append_right _ h))))))
set_option maxRecDepth 100000 in
set_option maxHeartbeats 4000000 in
/-- X1.standingBehind -/
theorem m_standingBehind (l : Launch) (E : kb_E) (X : Nat → Nat → Int32) (Y : Nat → Nat → Int64) (q p0 s0 : Nat) (hq : q < 40) (hl : X 5 q = nI p0) (hp : p0 < 5) (hs : s0 < 4096) (kk : Nat) (hkk : kk < 4) : kb_Met l E 202 yX1_standingBehind wsX1_standingBehind ({ frames := 1, cells := 0, slots := 0, locals := 22 }) [.ref (E.2.2.2 3), .int (nI q), .int (nI s0), .int (nI kk)] (kb_ent E X Y) (fun v g' => v = some (.int (nI (kb_bh s0 p0 kk))) ∧ g' = kb_ent E X Y) := by
  refine kb_enter (cc := cX1_standingBehind) (maxL := 4) (ret := (some .int)) (by decide +kernel) rfl (by simp [Value.category]) (Nat.le_of_ble_eq_true rfl) ?_
  intro p e s m args below meth c C hini
  refine q_iload_n C dX1_standingBehind_0 rfl ?_
  refine q_iconst C (v := nI 2) dX1_standingBehind_1 (by decide) ?_
  refine q_icmpgeN C (tgt := 23) dX1_standingBehind_2 (by decide) (by omega) (by omega) (fun c2 => ?_) (fun c2 => ?_)
  · refine q_iload_n C dX1_standingBehind_23 rfl ?_
    exact q_iret C dX1_standingBehind_24 ⟨by unfold kb_bh; first | rw [if_pos (by omega)] | rw [if_neg (by omega)], rfl⟩
  · refine q_iload_n C dX1_standingBehind_5 rfl ?_
    refine q_aload_n C dX1_standingBehind_6 rfl ?_
    refine x_getR C (ci := 1) (k := 1) (C0 := RX1) (T := TX1) (NF := 6) (ref := RX1) (host := RX4) dX1_standingBehind_7 fr_Llefts rfl iX1_standingBehind_X1 (by decide) (List.mem_of_getElem? (i := 1) rfl) rfl ?_
    refine q_iload_n C dX1_standingBehind_10 rfl ?_
    refine x_ialdN C dX1_standingBehind_11 ia_Llefts (by decide) (by omega) ?_
    refine q_top (show Value.int _ = Value.int _ from congrArg Value.int (hl)) ?_
    refine q_iconst C (v := nI 1) dX1_standingBehind_12 (by decide) ?_
    refine q_iaddN C dX1_standingBehind_13 ?_
    refine q_callSN (As := [_]) (nA := 1) (host := RX4) C dX1_standingBehind_14 (m_bitOf _ _ _ _) ggX1_standingBehind_X4_bitOf rfl (by decide +kernel) (List.mem_of_getElem? (i := 3) rfl) (List.mem_of_getElem? (i := 2) rfl) (by decide +kernel) rfl ⟨Nat.le_of_ble_eq_true rfl, Nat.le_of_ble_eq_true rfl⟩ (Nat.le_of_ble_eq_true rfl) ⟨Nat.le_of_ble_eq_true rfl, Nat.le_of_ble_eq_true rfl⟩ (fun v14 g14 h14 => ?_)
    obtain ⟨rfl, rfl⟩ := h14
    refine q_top (show Value.int _ = Value.int _ from congrArg Value.int (nv_bitOf hp)) ?_
    refine q_callSN (As := [_, _]) (nA := 2) (host := RX4) C dX1_standingBehind_17 (m_exchanged _ _ _ _ _) ggX1_standingBehind_X4_exchanged rfl (by decide +kernel) (List.mem_of_getElem? (i := 3) rfl) (List.mem_of_getElem? (i := 5) rfl) (by decide +kernel) rfl ⟨Nat.le_of_ble_eq_true rfl, Nat.le_of_ble_eq_true rfl⟩ (Nat.le_of_ble_eq_true rfl) ⟨Nat.le_of_ble_eq_true rfl, Nat.le_of_ble_eq_true rfl⟩ (fun v17 g17 h17 => ?_)
    obtain ⟨rfl, rfl⟩ := h17
    refine q_top (show Value.int _ = Value.int _ from congrArg Value.int (nv_exchanged hs hp)) ?_
    refine q_goto C (tgt := 24) dX1_standingBehind_20 (by decide) ?_
    exact q_iret C dX1_standingBehind_24 ⟨by unfold kb_bh; first | rw [if_pos (by omega)] | rw [if_neg (by omega)], rfl⟩
/-- the least of the kinds 0, 1, 2 with G, else 3 -/
noncomputable def kb_l3 (G : Nat → Prop) : Nat := if kb_b (G 0) then 0 else if kb_b (G 1) then 1 else if kb_b (G 2) then 2 else 3
theorem kb_l3_at {G : Nat → Prop} {k : Nat} (hk : k < 3) (hg : G k) (hno : ∀ j, j < k → ¬ G j) : kb_l3 G = k := by
  unfold kb_l3
  rcases (show k = 0 ∨ k = 1 ∨ k = 2 by omega) with rfl | rfl | rfl
  · rw [if_pos (kb_b_t hg)]
  · rw [if_neg (by rw [kb_b_f (hno 0 (by decide))]; decide), if_pos (kb_b_t hg)]
  · rw [if_neg (by rw [kb_b_f (hno 0 (by decide))]; decide), if_neg (by rw [kb_b_f (hno 1 (by decide))]; decide), if_pos (kb_b_t hg)]
theorem kb_l3_3 {G : Nat → Prop} (hno : ∀ j, j < 3 → ¬ G j) : kb_l3 G = 3 := by
  unfold kb_l3
  rw [if_neg (by rw [kb_b_f (hno 0 (by decide))]; decide), if_neg (by rw [kb_b_f (hno 1 (by decide))]; decide), if_neg (by rw [kb_b_f (hno 2 (by decide))]; decide)]
theorem kb_l3_lt (G : Nat → Prop) : kb_l3 G < 4 := by
  unfold kb_l3
  split
  · decide
  · split
    · decide
    · split <;> decide
theorem kb_l3_congr {G G' : Nat → Prop} (h : ∀ j, j < 3 → (G j ↔ G' j)) : kb_l3 G = kb_l3 G' := by
  unfold kb_l3
  have e : ∀ j, j < 3 → kb_b (G j) = kb_b (G' j) := fun j hj => by rw [propext (h j hj)]
  rw [e 0 (by decide), e 1 (by decide), e 2 (by decide)]
/-- kind kk does at a knot with left place p and wish c, if behind it lies what f holds -/
def kb_gq (f : Nat → Int64) (p c s kk : Nat) : Prop := (c = 4 ∨ c = kb_dg 6 s (p + kk % 2)) ∧ kb_has f (kb_bh s p kk) = true
theorem iX1_leastKind_X1 : ∀ w ∈ wsX10, w ∈ wsX1_leastKind := fun _ h => List.mem_cons_of_mem _ (by first | exact h | exact List.mem_append_right _ h | exact List.mem_append_left _ (List.mem_append_right _ h) | exact List.mem_append_left _ (List.mem_append_left _ (List.mem_append_right _ h)) | exact List.mem_append_left _ (List.mem_append_left _ (List.mem_append_left _ (List.mem_append_right _ h))) | exact List.mem_append_left _ (List.mem_append_left _ (List.mem_append_left _ (List.mem_append_left _ (List.mem_append_right _ h)))) | exact List.mem_append_left _ (List.mem_append_left _ (List.mem_append_left _ (List.mem_append_left _ (List.mem_append_left _ (List.mem_append_right _ h))))))
set_option maxRecDepth 100000 in
set_option maxHeartbeats 4000000 in
/-- X1.leastKind -/
theorem m_leastKind (l : Launch) (E : kb_E) (X : Nat → Nat → Int32) (Y : Nat → Nat → Int64) (q p0 s0 : Nat) (hq : q < 40) (hl : X 5 q = nI p0) (hp : p0 < 5) (hs : s0 < 4096) (c0 : Nat) (hw : X 6 q = nI c0) (hc : c0 ≤ 4) : kb_Met l E 202 yX1_leastKind wsX1_leastKind ({ frames := 2, cells := 0, slots := 0, locals := 45 }) [.ref (E.2.2.2 3), .int (nI q), .int (nI s0)] (kb_ent E X Y) (fun v g' => v = some (.int (nI (kb_l3 (kb_gq (Y (10 + 2 * (q + 1) + 1)) p0 c0 s0)))) ∧ g' = kb_ent E X Y) := by
  refine kb_enter (cc := cX1_leastKind) (maxL := 6) (ret := (some .int)) (by decide +kernel) rfl (by simp [Value.category]) (Nat.le_of_ble_eq_true rfl) ?_
  intro p e s m args below meth c C hini
  refine q_iconst C (v := nI 0) dX1_leastKind_0 (by decide) ?_
  refine q_istore_n C dX1_leastKind_1 (by decide) rfl ?_
  refine q_mask [true, true, true, true, false, false] (q_for (σ := Unit) (k0 := 0) (3) (fun k _ X' Y' => X = X' ∧ Y = Y' ∧ ∀ j, j < k → ¬ (kb_gq (Y (10 + 2 * (q + 1) + 1)) p0 c0 s0) j) (fun k _ => [some (.ref (E.2.2.2 3)), some (.int (nI q)), some (.int (nI s0)), some (.int (nI k)), none, none]) (Nat.zero_le _) () (⟨rfl, rfl, fun j hj => absurd hj (Nat.not_lt_zero _)⟩) ?_ ?_)
  · intro kk a1 Xa Ya hk_kk hk0_kk hI_kk ih_kk
    obtain ⟨rfl, rfl, hI1⟩ := hI_kk
    refine q_iload_n C dX1_leastKind_2 rfl ?_
    refine q_iconst C (v := nI 3) dX1_leastKind_3 (by decide) ?_
    refine q_icmpgeN C (tgt := 85) dX1_leastKind_4 (by decide) (by omega) (by omega) (fun c4 => ?_) (fun c4 => ?_)
    · exact absurd c4 (by omega)
    · refine q_iload_n C dX1_leastKind_7 rfl ?_
      refine q_aload_n C dX1_leastKind_8 rfl ?_
      refine x_getR C (ci := 1) (k := 1) (C0 := RX1) (T := TX1) (NF := 6) (ref := RX1) (host := RX4) dX1_leastKind_9 fr_Llefts rfl iX1_leastKind_X1 (by decide) (List.mem_of_getElem? (i := 1) rfl) rfl ?_
      refine q_iload_n C dX1_leastKind_12 rfl ?_
      refine x_ialdN C dX1_leastKind_13 ia_Llefts (by decide) (by omega) ?_
      refine q_top (show Value.int _ = Value.int _ from congrArg Value.int (hl)) ?_
      refine q_iload_n C dX1_leastKind_14 rfl ?_
      refine q_callSN (As := [_, _]) (nA := 2) (host := RX4) C dX1_leastKind_15 (m_showingPlace _ _ _ _ _) ggX1_leastKind_X4_showingPlace rfl (by decide +kernel) (List.mem_of_getElem? (i := 5) rfl) (List.mem_of_getElem? (i := 4) rfl) (by decide +kernel) rfl ⟨Nat.le_of_ble_eq_true rfl, Nat.le_of_ble_eq_true rfl⟩ (Nat.le_of_ble_eq_true rfl) ⟨Nat.le_of_ble_eq_true rfl, Nat.le_of_ble_eq_true rfl⟩ (fun v15 g15 h15 => ?_)
      obtain ⟨rfl, rfl⟩ := h15
      refine q_top (show Value.int _ = Value.int _ from congrArg Value.int (nv_showingPlace p0 (by omega) kk (by omega))) ?_
      refine q_callSN (As := [_, _]) (nA := 2) (host := RX4) C dX1_leastKind_18 (m_colourIn _ _ _ _ _) ggX1_leastKind_X4_colourIn rfl (by decide +kernel) (List.mem_of_getElem? (i := 5) rfl) (List.mem_of_getElem? (i := 7) rfl) (by decide +kernel) rfl ⟨Nat.le_of_ble_eq_true rfl, Nat.le_of_ble_eq_true rfl⟩ (Nat.le_of_ble_eq_true rfl) ⟨Nat.le_of_ble_eq_true rfl, Nat.le_of_ble_eq_true rfl⟩ (fun v18 g18 h18 => ?_)
      obtain ⟨rfl, rfl⟩ := h18
      refine q_top (show Value.int _ = Value.int _ from congrArg Value.int (nv_colourIn hs (by omega))) ?_
      refine q_istore C dX1_leastKind_21 (by decide) rfl ?_
      refine q_cut 49 (P := kb_flag (c0 = 4 ∨ c0 = kb_dg 6 s0 (p0 + kk % 2))) (fun f49 hf49 => ?_) (fun J49 => ?_)
      · refine q_istore C dX1_leastKind_49 (by decide) rfl ?_
        refine q_iload C dX1_leastKind_51 rfl ?_
        refine q_ifeq C (tgt := 79) dX1_leastKind_53 (by decide) (fun c53 => ?_) (fun c53 => ?_)
        · refine q_iinc1 C dX1_leastKind_79 rfl (by decide) rfl ?_
          refine q_goto C (tgt := 2) dX1_leastKind_82 (by decide) ?_
          exact q_mask [true, true, true, true, false, false] (ih_kk () _ _ ⟨rfl, rfl, fun j hj => by
            by_cases e : j = kk
            · subst e
              first
              | exact fun h => kb_flag0 hf49 c53 h.1
              | exact fun h => kb_flag0 hfh c74 h.2
            · exact hI1 j (by omega)⟩)
        · refine q_aload_n C dX1_leastKind_56 rfl ?_
          refine x_getR C (ci := 1) (k := 4) (C0 := RX1) (T := TX1) (NF := 6) (ref := RX1) (host := RX4) dX1_leastKind_57 fr_Lahead rfl iX1_leastKind_X1 (by decide) (List.mem_of_getElem? (i := 3) rfl) rfl ?_
          refine q_iload_n C dX1_leastKind_60 rfl ?_
          refine q_iconst C (v := nI 1) dX1_leastKind_61 (by decide) ?_
          refine q_iaddN C dX1_leastKind_62 ?_
          refine x_aaldN C dX1_leastKind_63 ra_Lahead rfl (by decide) (by omega) ?_
          refine q_aload_n C dX1_leastKind_64 rfl ?_
          refine q_iload_n C dX1_leastKind_65 rfl ?_
          refine q_iload_n C dX1_leastKind_66 rfl ?_
          refine q_iload_n C dX1_leastKind_67 rfl ?_
          refine x_callV (As := [_, _, _]) (nA := 3) (T := TX1) (NF := 6) C dX1_leastKind_68 ob_L rfl (m_standingBehind _ _ X Y q p0 s0 hq hl hp hs kk (by omega)) gX1_leastKind_X1_standingBehind rfl (by decide +kernel) rfl ⟨Nat.le_of_ble_eq_true rfl, Nat.le_of_ble_eq_true rfl⟩ (Nat.le_of_ble_eq_true rfl) ⟨Nat.le_of_ble_eq_true rfl, Nat.le_of_ble_eq_true rfl⟩ (fun v68 g68 h68 => ?_)
          obtain ⟨rfl, rfl⟩ := h68
          refine x_callV (As := [_]) (nA := 1) (T := TX3) (NF := 1) C dX1_leastKind_71 (ob_S (kb_SNa (q := (q + 1)) (by omega))) rfl (m_has _ _ X Y (10 + 2 * (q + 1)) (kb_bh s0 p0 kk) (kb_SNa (by omega)) (kb_bh_lt hs hp)) gX1_leastKind_X3_has rfl (by decide +kernel) rfl ⟨Nat.le_of_ble_eq_true rfl, Nat.le_of_ble_eq_true rfl⟩ (Nat.le_of_ble_eq_true rfl) ⟨Nat.le_of_ble_eq_true rfl, Nat.le_of_ble_eq_true rfl⟩ (fun v71 g71 h71 => ?_)
          obtain ⟨fh, rfl, hfh, rfl⟩ := h71
          refine q_ifeq C (tgt := 79) dX1_leastKind_74 (by decide) (fun c74 => ?_) (fun c74 => ?_)
          · refine q_iinc1 C dX1_leastKind_79 rfl (by decide) rfl ?_
            refine q_goto C (tgt := 2) dX1_leastKind_82 (by decide) ?_
            exact q_mask [true, true, true, true, false, false] (ih_kk () _ _ ⟨rfl, rfl, fun j hj => by
              by_cases e : j = kk
              · subst e
                first
                | exact fun h => kb_flag0 hf49 c53 h.1
                | exact fun h => kb_flag0 hfh c74 h.2
              · exact hI1 j (by omega)⟩)
          · refine q_iload_n C dX1_leastKind_77 rfl ?_
            exact q_iret C dX1_leastKind_78 ⟨by rw [kb_l3_at hk_kk ⟨kb_flag1 hf49 c53, kb_flag1 hfh c74⟩ hI1], rfl⟩
      refine q_aload_n C dX1_leastKind_23 rfl ?_
      refine x_getR C (ci := 1) (k := 2) (C0 := RX1) (T := TX1) (NF := 6) (ref := RX1) (host := RX4) dX1_leastKind_24 fr_Lwish rfl iX1_leastKind_X1 (by decide) (List.mem_of_getElem? (i := 2) rfl) rfl ?_
      refine q_iload_n C dX1_leastKind_27 rfl ?_
      refine x_ialdN C dX1_leastKind_28 ia_Lwish (by decide) (by omega) ?_
      refine q_top (show Value.int _ = Value.int _ from congrArg Value.int (hw)) ?_
      refine q_iconst C (v := nI 4) dX1_leastKind_29 (by decide) ?_
      refine q_icmpeqN C (tgt := 44) dX1_leastKind_30 (by decide) (by omega) (by omega) (fun c30 => ?_) (fun c30 => ?_)
      · refine q_iconst C (v := nI 1) dX1_leastKind_44 (by decide) ?_
        refine q_goto C (tgt := 49) dX1_leastKind_45 (by decide) ?_
        exact J49 _ (by first | exact Or.inl ⟨rfl, Or.inl c30⟩ | exact Or.inl ⟨rfl, Or.inr c41⟩ | exact Or.inr ⟨rfl, fun h => h.elim c30 c41⟩)
      · refine q_aload_n C dX1_leastKind_33 rfl ?_
        refine x_getR C (ci := 1) (k := 2) (C0 := RX1) (T := TX1) (NF := 6) (ref := RX1) (host := RX4) dX1_leastKind_34 fr_Lwish rfl iX1_leastKind_X1 (by decide) (List.mem_of_getElem? (i := 2) rfl) rfl ?_
        refine q_iload_n C dX1_leastKind_37 rfl ?_
        refine x_ialdN C dX1_leastKind_38 ia_Lwish (by decide) (by omega) ?_
        refine q_top (show Value.int _ = Value.int _ from congrArg Value.int (hw)) ?_
        refine q_iload C dX1_leastKind_39 rfl ?_
        refine q_icmpneN C (tgt := 48) dX1_leastKind_41 (by decide) (by omega) (by have := kb_dg_lt 6 s0 (p0 + kk % 2); omega) (fun c41 => ?_) (fun c41 => ?_)
        · refine q_iconst C (v := nI 0) dX1_leastKind_48 (by decide) ?_
          exact J49 _ (by first | exact Or.inl ⟨rfl, Or.inl c30⟩ | exact Or.inl ⟨rfl, Or.inr c41⟩ | exact Or.inr ⟨rfl, fun h => h.elim c30 c41⟩)
        · refine q_iconst C (v := nI 1) dX1_leastKind_44 (by decide) ?_
          refine q_goto C (tgt := 49) dX1_leastKind_45 (by decide) ?_
          exact J49 _ (by first | exact Or.inl ⟨rfl, Or.inl c30⟩ | exact Or.inl ⟨rfl, Or.inr c41⟩ | exact Or.inr ⟨rfl, fun h => h.elim c30 c41⟩)
  · intro a1 Xa Ya hI_kk
    obtain ⟨rfl, rfl, hI1⟩ := hI_kk
    refine q_iload_n C dX1_leastKind_2 rfl ?_
    refine q_iconst C (v := nI 3) dX1_leastKind_3 (by decide) ?_
    refine q_icmpgeN C (tgt := 85) dX1_leastKind_4 (by decide) (by omega) (by omega) (fun c4 => ?_) (fun c4 => ?_)
    · refine q_iconst C (v := nI 3) dX1_leastKind_85 (by decide) ?_
      exact q_iret C dX1_leastKind_86 ⟨by rw [kb_l3_3 hI1], rfl⟩
    · exact absurd c4 (by omega)

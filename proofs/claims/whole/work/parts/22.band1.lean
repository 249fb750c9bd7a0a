/-! ===== Band: walkKnot, walk ===== -/
theorem kb_hid {n : Nat} {at0 : Nat → Nat} (hp : kb_perm n at0) {L d : Nat} (hL : L + 1 < n) (hd : d < 2) : (at0 (L + d) = at0 L → nI (at0 (L + 1)) = nI (at0 (L + (1 - d)))) ∧ (¬ at0 (L + d) = at0 L → nI (at0 L) = nI (at0 (L + (1 - d)))) := by
  rcases (show d = 0 ∨ d = 1 by omega) with rfl | rfl
  · exact ⟨fun _ => rfl, fun h => absurd rfl h⟩
  · refine ⟨fun h => ?_, fun _ => rfl⟩
    have := hp.2 _ _ (by omega) (by omega) h
    omega
theorem iX0_walkKnot_X0 : ∀ w ∈ wsX00, w ∈ wsX0_walkKnot := fun _ h => List.mem_cons_of_mem _ (by first | exact h | exact List.mem_append_right _ h | exact List.mem_append_left _ (List.mem_append_right _ h) | exact List.mem_append_left _ (List.mem_append_left _ (List.mem_append_right _ h)) | exact List.mem_append_left _ (List.mem_append_left _ (List.mem_append_left _ (List.mem_append_right _ h))) | exact List.mem_append_left _ (List.mem_append_left _ (List.mem_append_left _ (List.mem_append_left _ (List.mem_append_right _ h)))) | exact List.mem_append_left _ (List.mem_append_left _ (List.mem_append_left _ (List.mem_append_left _ (List.mem_append_left _ (List.mem_append_right _ h))))))
set_option maxRecDepth 100000 in
set_option maxHeartbeats 4000000 in
/-- X0.walkKnot -/
theorem m_walkKnot (l : Launch) (E : kb_E) (X : Nat → Nat → Int32) (Y : Nat → Nat → Int64) (i n r k : Nat) (hi : i < 8) (hn : n ≤ 6) (hr : r < 16) (hk : k < kb_kn n r) (at0 : Nat → Nat) (hp : kb_perm n at0) (hsd : ∀ j, j < n → X (92 + 7 * i + 3) j = nI (at0 j)) : kb_Met l E 202 yX0_walkKnot wsX0_walkKnot ({ frames := 1, cells := 0, slots := 0, locals := 21 }) [.ref (E.2.2.2 (92 + 7 * i)), .int (nI r), .int (nI k)] (kb_ent E X Y) (fun v g' => v = none ∧ ∃ X', g' = kb_ent E X' Y ∧ (∀ q, q ≠ 92 + 7 * i + 3 → q ≠ 92 + 7 * i + 4 → q ≠ 92 + 7 * i + 5 → X' q = X q) ∧ (∀ j, j < n → X' (92 + 7 * i + 3) j = nI ((if kb_kd (X (92 + 7 * i + 2)) r k < 2 then kb_sw at0 (kb_lf r k) else at0) j)) ∧ X' (92 + 7 * i + 4) = upd (upd (X (92 + 7 * i + 4)) (at0 (kb_lf r k + kb_kd (X (92 + 7 * i + 2)) r k % 2)) (X (92 + 7 * i + 4) (at0 (kb_lf r k + kb_kd (X (92 + 7 * i + 2)) r k % 2)) + nI 5)) (at0 (kb_lf r k + (1 - kb_kd (X (92 + 7 * i + 2)) r k % 2))) (upd (X (92 + 7 * i + 4)) (at0 (kb_lf r k + kb_kd (X (92 + 7 * i + 2)) r k % 2)) (X (92 + 7 * i + 4) (at0 (kb_lf r k + kb_kd (X (92 + 7 * i + 2)) r k % 2)) + nI 5) (at0 (kb_lf r k + (1 - kb_kd (X (92 + 7 * i + 2)) r k % 2))) + nI 1) ∧ X' (92 + 7 * i + 5) = upd (X (92 + 7 * i + 5)) (3 * r + k) (X (92 + 7 * i + 1) (at0 (kb_lf r k + kb_kd (X (92 + 7 * i + 2)) r k % 2)))) := by
  refine kb_enter (cc := cX0_walkKnot) (maxL := 9) (ret := none) (by decide +kernel) rfl (by simp [Value.category]) (Nat.le_of_ble_eq_true rfl) ?_
  intro p e s m args below meth c C hini
  have hL : kb_lf r k + 1 < n := kb_lf_lt hk
  have hk3 : kb_kn n r ≤ 3 := kb_kn_le hn
  have hkd : kb_kd (X (92 + 7 * i + 2)) r k < 4 := (kb_kd_eq (X (92 + 7 * i + 2)) r k).2
  have hk2 : kb_kd (X (92 + 7 * i + 2)) r k % 2 < 2 := Nat.mod_lt _ (by decide)
  have hS : at0 (kb_lf r k + kb_kd (X (92 + 7 * i + 2)) r k % 2) < n := hp.1 _ (by omega)
  have hH : at0 (kb_lf r k + (1 - kb_kd (X (92 + 7 * i + 2)) r k % 2)) < n := hp.1 _ (by omega)
  have hA0 : at0 (kb_lf r k) < n := hp.1 _ (by omega)
  have hA1 : at0 (kb_lf r k + 1) < n := hp.1 _ (by omega)
  refine q_iload_n C dX0_walkKnot_0 rfl ?_
  refine q_iload_n C dX0_walkKnot_1 rfl ?_
  refine q_callSN (As := [_, _]) (nA := 2) (host := RX4) C dX0_walkKnot_2 (m_leftPlaceOf _ _ _ _ _) ggX0_walkKnot_X4_leftPlaceOf rfl (by decide +kernel) (List.mem_of_getElem? (i := 7) rfl) (List.mem_of_getElem? (i := 6) rfl) (by decide +kernel) rfl ⟨Nat.le_of_ble_eq_true rfl, Nat.le_of_ble_eq_true rfl⟩ (Nat.le_of_ble_eq_true rfl) ⟨Nat.le_of_ble_eq_true rfl, Nat.le_of_ble_eq_true rfl⟩ (fun v2 g2 h2 => ?_)
  obtain ⟨rfl, rfl⟩ := h2
  refine q_top (show Value.int _ = Value.int _ from congrArg Value.int (nv_leftPlaceOf r (by omega) k (by omega))) ?_
  refine q_istore_n C dX0_walkKnot_5 (by decide) rfl ?_
  refine q_aload_n C dX0_walkKnot_6 rfl ?_
  refine x_getR C (ci := 0) (k := 1) (C0 := RX0) (T := TX0) (NF := 8) (ref := RX0) (host := RX4) dX0_walkKnot_7 (fr_Bkin hi) rfl iX0_walkKnot_X0 (by decide) (List.mem_of_getElem? (i := 1) rfl) rfl ?_
  refine q_iload_n C dX0_walkKnot_10 rfl ?_
  refine x_ialdN C dX0_walkKnot_11 (ia_Bkin hi) (by decide) (by omega) ?_
  refine q_iload_n C dX0_walkKnot_12 rfl ?_
  refine q_callSN (As := [_, _]) (nA := 2) (host := RX4) C dX0_walkKnot_13 (m_kindIn _ _ _ _ _) ggX0_walkKnot_X4_kindIn rfl (by decide +kernel) (List.mem_of_getElem? (i := 7) rfl) (List.mem_of_getElem? (i := 9) rfl) (by decide +kernel) rfl ⟨Nat.le_of_ble_eq_true rfl, Nat.le_of_ble_eq_true rfl⟩ (Nat.le_of_ble_eq_true rfl) ⟨Nat.le_of_ble_eq_true rfl, Nat.le_of_ble_eq_true rfl⟩ (fun v13 g13 h13 => ?_)
  obtain ⟨rfl, rfl⟩ := h13
  refine q_top (show Value.int _ = Value.int _ from congrArg Value.int ((kb_kd_eq (X (92 + 7 * i + 2)) r k).1)) ?_
  refine q_istore C dX0_walkKnot_16 (by decide) rfl ?_
  refine q_aload_n C dX0_walkKnot_18 rfl ?_
  refine x_getR C (ci := 0) (k := 4) (C0 := RX0) (T := TX0) (NF := 8) (ref := RX0) (host := RX4) dX0_walkKnot_19 (fr_Bsta hi) rfl iX0_walkKnot_X0 (by decide) (List.mem_of_getElem? (i := 2) rfl) rfl ?_
  refine q_iload_n C dX0_walkKnot_22 rfl ?_
  refine x_ialdN C dX0_walkKnot_23 (ia_Bsta hi) (by decide) (by omega) ?_
  refine q_top (show Value.int _ = Value.int _ from congrArg Value.int (hsd _ (by omega))) ?_
  refine q_istore C dX0_walkKnot_24 (by decide) rfl ?_
  refine q_aload_n C dX0_walkKnot_26 rfl ?_
  refine x_getR C (ci := 0) (k := 4) (C0 := RX0) (T := TX0) (NF := 8) (ref := RX0) (host := RX4) dX0_walkKnot_27 (fr_Bsta hi) rfl iX0_walkKnot_X0 (by decide) (List.mem_of_getElem? (i := 2) rfl) rfl ?_
  refine q_iload_n C dX0_walkKnot_30 rfl ?_
  refine q_iconst C (v := nI 1) dX0_walkKnot_31 (by decide) ?_
  refine q_iaddN C dX0_walkKnot_32 ?_
  refine x_ialdN C dX0_walkKnot_33 (ia_Bsta hi) (by decide) (by omega) ?_
  refine q_top (show Value.int _ = Value.int _ from congrArg Value.int (hsd _ (by omega))) ?_
  refine q_istore C dX0_walkKnot_34 (by decide) rfl ?_
  refine q_aload_n C dX0_walkKnot_36 rfl ?_
  refine x_getR C (ci := 0) (k := 4) (C0 := RX0) (T := TX0) (NF := 8) (ref := RX0) (host := RX4) dX0_walkKnot_37 (fr_Bsta hi) rfl iX0_walkKnot_X0 (by decide) (List.mem_of_getElem? (i := 2) rfl) rfl ?_
  refine q_iload_n C dX0_walkKnot_40 rfl ?_
  refine q_iload C dX0_walkKnot_41 rfl ?_
  refine q_callSN (As := [_, _]) (nA := 2) (host := RX4) C dX0_walkKnot_43 (m_showingPlace _ _ _ _ _) ggX0_walkKnot_X4_showingPlace rfl (by decide +kernel) (List.mem_of_getElem? (i := 7) rfl) (List.mem_of_getElem? (i := 11) rfl) (by decide +kernel) rfl ⟨Nat.le_of_ble_eq_true rfl, Nat.le_of_ble_eq_true rfl⟩ (Nat.le_of_ble_eq_true rfl) ⟨Nat.le_of_ble_eq_true rfl, Nat.le_of_ble_eq_true rfl⟩ (fun v43 g43 h43 => ?_)
  obtain ⟨rfl, rfl⟩ := h43
  refine q_top (show Value.int _ = Value.int _ from congrArg Value.int (nv_showingPlace _ (by omega) _ hkd)) ?_
  refine x_ialdN C dX0_walkKnot_46 (ia_Bsta hi) (by decide) (by omega) ?_
  refine q_top (show Value.int _ = Value.int _ from congrArg Value.int (hsd _ (by omega))) ?_
  refine q_istore C dX0_walkKnot_47 (by decide) rfl ?_
  refine q_cut 63 (P := (fun f => f = nI (at0 (kb_lf r k + (1 - kb_kd (X (92 + 7 * i + 2)) r k % 2))))) (fun f63 hf63 => ?_) (fun J63 => ?_)
  · subst hf63
    refine q_istore C dX0_walkKnot_63 (by decide) rfl ?_
    refine q_aload_n C dX0_walkKnot_65 rfl ?_
    refine x_getR C (ci := 0) (k := 6) (C0 := RX0) (T := TX0) (NF := 8) (ref := RX0) (host := RX4) dX0_walkKnot_66 (fr_Bsho hi) rfl iX0_walkKnot_X0 (by decide) (List.mem_of_getElem? (i := 3) rfl) rfl ?_
    refine q_iload_n C dX0_walkKnot_69 rfl ?_
    refine q_iload_n C dX0_walkKnot_70 rfl ?_
    refine q_callSN (As := [_, _]) (nA := 2) (host := RX4) C dX0_walkKnot_71 (m_spotOf _ _ _ _ _) ggX0_walkKnot_X4_spotOf rfl (by decide +kernel) (List.mem_of_getElem? (i := 7) rfl) (List.mem_of_getElem? (i := 13) rfl) (by decide +kernel) rfl ⟨Nat.le_of_ble_eq_true rfl, Nat.le_of_ble_eq_true rfl⟩ (Nat.le_of_ble_eq_true rfl) ⟨Nat.le_of_ble_eq_true rfl, Nat.le_of_ble_eq_true rfl⟩ (fun v71 g71 h71 => ?_)
    obtain ⟨rfl, rfl⟩ := h71
    refine q_top (show Value.int _ = Value.int _ from congrArg Value.int (nv_spotOf r k)) ?_
    refine q_aload_n C dX0_walkKnot_74 rfl ?_
    refine x_getR C (ci := 0) (k := 0) (C0 := RX0) (T := TX0) (NF := 8) (ref := RX0) (host := RX4) dX0_walkKnot_75 (fr_Bcol hi) rfl iX0_walkKnot_X0 (by decide) (List.mem_of_getElem? (i := 4) rfl) rfl ?_
    refine q_iload C dX0_walkKnot_78 rfl ?_
    refine x_ialdN C dX0_walkKnot_80 (ia_Bcol hi) (by decide) (by omega) ?_
    refine x_iastN C dX0_walkKnot_81 (ia_Bsho hi) (by decide) (by omega) ?_
    refine q_aload_n C dX0_walkKnot_82 rfl ?_
    refine x_getR C (ci := 0) (k := 5) (C0 := RX0) (T := TX0) (NF := 8) (ref := RX0) (host := RX4) dX0_walkKnot_83 (fr_Bspe hi) rfl iX0_walkKnot_X0 (by decide) (List.mem_of_getElem? (i := 5) rfl) rfl ?_
    refine q_iload C dX0_walkKnot_86 rfl ?_
    refine q_dup2 C dX0_walkKnot_88 rfl rfl ?_
    refine x_ialdN C dX0_walkKnot_89 (ia_Bspe hi) (by decide) (by omega) ?_
    refine q_iconst C (v := nI 5) dX0_walkKnot_90 (by decide) ?_
    refine q_iadd C dX0_walkKnot_91 ?_
    refine x_iastN C dX0_walkKnot_92 (ia_Bspe hi) (by decide) (by omega) ?_
    refine q_aload_n C dX0_walkKnot_93 rfl ?_
    refine x_getR C (ci := 0) (k := 5) (C0 := RX0) (T := TX0) (NF := 8) (ref := RX0) (host := RX4) dX0_walkKnot_94 (fr_Bspe hi) rfl iX0_walkKnot_X0 (by decide) (List.mem_of_getElem? (i := 5) rfl) rfl ?_
    refine q_iload C dX0_walkKnot_97 rfl ?_
    refine q_dup2 C dX0_walkKnot_99 rfl rfl ?_
    refine x_ialdN C dX0_walkKnot_100 (ia_Bspe hi) (by decide) (by omega) ?_
    refine q_iconst C (v := nI 1) dX0_walkKnot_101 (by decide) ?_
    refine q_iadd C dX0_walkKnot_102 ?_
    refine x_iastN C dX0_walkKnot_103 (ia_Bspe hi) (by decide) (by omega) ?_
    refine q_iload C dX0_walkKnot_104 rfl ?_
    refine q_iconst C (v := nI 2) dX0_walkKnot_106 (by decide) ?_
    refine q_icmpgeN C (tgt := 128) dX0_walkKnot_107 (by decide) (by omega) (by omega) (fun c107 => ?_) (fun c107 => ?_)
    · exact q_vret C dX0_walkKnot_128 ⟨rfl, _, rfl, fun q h1 h2 h3 => by simp only [va_up, h1, h2, h3, if_false], fun j hj => by first | (rw [if_neg (by omega)]; simp [va_up]; exact hsd j hj) | (rw [if_pos c107]; simp [va_up, upd, kb_sw]; split <;> (try split) <;> (first | omega | rfl | exact hsd j hj | (simp_all; done))), by simp [va_up, upd], by simp [va_up, upd]⟩
    · refine q_aload_n C dX0_walkKnot_110 rfl ?_
      refine x_getR C (ci := 0) (k := 4) (C0 := RX0) (T := TX0) (NF := 8) (ref := RX0) (host := RX4) dX0_walkKnot_111 (fr_Bsta hi) rfl iX0_walkKnot_X0 (by decide) (List.mem_of_getElem? (i := 2) rfl) rfl ?_
      refine q_iload_n C dX0_walkKnot_114 rfl ?_
      refine q_iload C dX0_walkKnot_115 rfl ?_
      refine x_iastN C dX0_walkKnot_117 (ia_Bsta hi) (by decide) (by omega) ?_
      refine q_aload_n C dX0_walkKnot_118 rfl ?_
      refine x_getR C (ci := 0) (k := 4) (C0 := RX0) (T := TX0) (NF := 8) (ref := RX0) (host := RX4) dX0_walkKnot_119 (fr_Bsta hi) rfl iX0_walkKnot_X0 (by decide) (List.mem_of_getElem? (i := 2) rfl) rfl ?_
      refine q_iload_n C dX0_walkKnot_122 rfl ?_
      refine q_iconst C (v := nI 1) dX0_walkKnot_123 (by decide) ?_
      refine q_iaddN C dX0_walkKnot_124 ?_
      refine q_iload C dX0_walkKnot_125 rfl ?_
      refine x_iastN C dX0_walkKnot_127 (ia_Bsta hi) (by decide) (by omega) ?_
      exact q_vret C dX0_walkKnot_128 ⟨rfl, _, rfl, fun q h1 h2 h3 => by simp only [va_up, h1, h2, h3, if_false], fun j hj => by first | (rw [if_neg (by omega)]; simp [va_up]; exact hsd j hj) | (rw [if_pos c107]; simp [va_up, upd, kb_sw]; split <;> (try split) <;> (first | omega | rfl | exact hsd j hj | (simp_all; done))), by simp [va_up, upd], by simp [va_up, upd]⟩
  refine q_iload C dX0_walkKnot_49 rfl ?_
  refine q_iload C dX0_walkKnot_51 rfl ?_
  refine q_icmpneN C (tgt := 61) dX0_walkKnot_53 (by decide) (by omega) (by omega) (fun c53 => ?_) (fun c53 => ?_)
  · refine q_iload C dX0_walkKnot_61 rfl ?_
    exact J63 _ (by first | exact (kb_hid hp hL hk2).1 c53 | exact (kb_hid hp hL hk2).2 c53)
  · refine q_iload C dX0_walkKnot_56 rfl ?_
    refine q_goto C (tgt := 63) dX0_walkKnot_58 (by decide) ?_
    exact J63 _ (by first | exact (kb_hid hp hL hk2).1 c53 | exact (kb_hid hp hL hk2).2 c53)

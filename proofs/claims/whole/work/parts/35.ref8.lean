/-! ===== the reference: leadsBack ===== -/
def kb_fit (n : Nat) (told : Nat → Nat → Nat) (r s : Nat) : Prop := ∀ j, j < kb_kn n r → kb_ok n (told r j) r j s
/-- with the last j of h rows the state s can be tied to an end -/
def kb_cR (n h : Nat) (told : Nat → Nat → Nat) : Nat → Nat → Prop
  | 0, _ => True
  | j + 1, t => ∃ s b, s < 4 ^ n ∧ b < 2 ^ kb_kn n (h - (j + 1)) ∧ kb_cR n h told j s ∧ kb_fit n told (h - (j + 1)) s ∧ t = kb_ch n (h - (j + 1)) b s (kb_kn n (h - (j + 1)))
theorem kb_dec (m : Nat) : nI m + Int32.ofInt (-1) = nI m - nI 1 := by
  apply Int32.toBitVec_inj.mp
  simp [Int32.toBitVec_add, Int32.toBitVec_sub]
  rw [BitVec.sub_eq_add_neg]
  rfl
/-- row r of 'can' says P -/
def kb_rF (n : Nat) (X : Nat → Nat → Int32) (r : Nat) (P : Nat → Prop) : Prop := ∀ t, t < 4 ^ n → kb_flag (P t) (X 200 (4096 * r + t))
theorem kb_flag_iff {P Q : Prop} {f : Int32} (h : kb_flag P f) (e : P ↔ Q) : kb_flag Q f := by
  rcases h with h | h
  · exact Or.inl ⟨h.1, e.mp h.2⟩
  · exact Or.inr ⟨h.1, fun q => h.2 (e.mpr q)⟩
/-- 'can' is worked out for a picture of n threads and h rows, all else is as it was -/
def kb_led (n h : Nat) (told : Nat → Nat → Nat) (X X' : Nat → Nat → Int32) : Prop := (∀ q, q ≠ 200 → X' q = X q) ∧ ∀ j, j ≤ h → kb_rF n X' (h - j) (kb_cR n h told j)
theorem iX5_leadsBack_X5 : ∀ w ∈ wsX50, w ∈ wsX5_leadsBack := fun _ h => List.mem_cons_of_mem _ (by first | exact h | exact List.mem_append_right _ h | exact List.mem_append_left _ (List.mem_append_right _ h) | exact List.mem_append_left _ (List.mem_append_left _ (List.mem_append_right _ h)) | exact List.mem_append_left _ (List.mem_append_left _ (List.mem_append_left _ (List.mem_append_right _ h))) | exact List.mem_append_left _ (List.mem_append_left _ (List.mem_append_left _ (List.mem_append_left _ (List.mem_append_right _ h)))) | exact List.mem_append_left _ (List.mem_append_left _ (List.mem_append_left _ (List.mem_append_left _ (List.mem_append_left _ (List.mem_append_right _ h))))))
set_option maxRecDepth 100000 in
set_option maxHeartbeats 4000000 in
/-- X5.leadsBack -/
theorem m_leadsBack (l : Launch) (E : kb_E) (X : Nat → Nat → Int32) (Y : Nat → Nat → Int64) (b n h : Nat) (hb : b < 8) (hn : n ≤ 6) (hn2 : 2 ≤ n) (hh1 : 1 ≤ h) (hh16 : h ≤ 16) (hw : X 193 b = nI n) (hh : X 194 b = nI h) (told : Nat → Nat → Nat) (htd : ∀ r, r < 16 → ∀ k, k < 3 → X 195 (48 * b + 3 * r + k) = nI (told r k) ∧ told r k ≤ 4) : kb_Met l E 202 yX5_leadsBack wsX5_leadsBack ({ frames := 2, cells := 0, slots := 0, locals := 50 }) [.ref (E.2.2.2 188), .int (nI b)] (kb_ent E X Y) (fun v g' => v = none ∧ ∃ X', g' = kb_ent E X' Y ∧ kb_led n h told X X') := by
  refine kb_enter (cc := cX5_leadsBack) (maxL := 6) (ret := none) (by decide +kernel) rfl (by simp [Value.category]) (Nat.le_of_ble_eq_true rfl) ?_
  intro p e s m args below meth c C hini
  have h4n := kb_4n hn
  refine q_aload_n C dX5_leadsBack_0 rfl ?_
  refine x_getR C (ci := 5) (k := 7) (C0 := RX5) (T := TX5) (NF := 15) (ref := RX5) (host := RX4) dX5_leadsBack_1 fr_Mwid rfl iX5_leadsBack_X5 (by decide) (List.mem_of_getElem? (i := 1) rfl) rfl ?_
  refine q_iload_n C dX5_leadsBack_4 rfl ?_
  refine x_ialdN C dX5_leadsBack_5 ia_Mwid (by decide) (by omega) ?_
  refine q_top (show Value.int _ = Value.int _ from congrArg Value.int (hw)) ?_
  refine q_istore_n C dX5_leadsBack_6 (by decide) rfl ?_
  refine q_iconst C (v := nI 0) dX5_leadsBack_7 (by decide) ?_
  refine q_istore_n C dX5_leadsBack_8 (by decide) rfl ?_
  refine q_mask [true, true, true, true, false, false] (q_for (σ := Unit) (k0 := 0) (4 ^ n) (fun s0 _ X' Y' => Y = Y' ∧ (∀ q, q ≠ 200 → X' q = X q) ∧ ∀ t, t < s0 → X' 200 (4096 * h + t) = nI 1) (fun s0 _ => [some (.ref (E.2.2.2 188)), some (.int (nI b)), some (.int (nI n)), some (.int (nI s0)), none, none]) (Nat.zero_le _) () (⟨rfl, fun _ _ => rfl, fun t ht => absurd ht (Nat.not_lt_zero _)⟩) ?_ ?_)
  · intro s1 a1 X1 Y1 hk_s1 hk0_s1 hI_s1 ih_s1
    obtain ⟨rfl, hI1⟩ := hI_s1
    refine q_iload_n C dX5_leadsBack_9 rfl ?_
    refine q_aload_n C dX5_leadsBack_10 rfl ?_
    refine q_iload_n C dX5_leadsBack_11 rfl ?_
    refine x_callV (As := [_]) (nA := 1) (T := TX5) (NF := 15) C dX5_leadsBack_12 ob_M rfl (m_states _ _ _ Y b n hb hn ((congrFun (hI1.1 193 (by decide)) b).trans hw)) gX5_leadsBack_X5_states rfl (by decide +kernel) rfl ⟨Nat.le_of_ble_eq_true rfl, Nat.le_of_ble_eq_true rfl⟩ (Nat.le_of_ble_eq_true rfl) ⟨Nat.le_of_ble_eq_true rfl, Nat.le_of_ble_eq_true rfl⟩ (fun v12 g12 h12 => ?_)
    obtain ⟨rfl, rfl⟩ := h12
    refine q_icmpgeN C (tgt := 42) dX5_leadsBack_15 (by decide) (by omega) (by omega) (fun c15 => ?_) (fun c15 => ?_)
    · exact absurd c15 (by omega)
    · refine q_aload_n C dX5_leadsBack_18 rfl ?_
      refine x_getR C (ci := 5) (k := 14) (C0 := RX5) (T := TX5) (NF := 15) (ref := RX5) (host := RX4) dX5_leadsBack_19 fr_Mcan rfl iX5_leadsBack_X5 (by decide) (List.mem_of_getElem? (i := 2) rfl) rfl ?_
      refine q_sipush C (v := nI 4096) dX5_leadsBack_22 (by decide) ?_
      refine q_aload_n C dX5_leadsBack_25 rfl ?_
      refine x_getR C (ci := 5) (k := 8) (C0 := RX5) (T := TX5) (NF := 15) (ref := RX5) (host := RX4) dX5_leadsBack_26 fr_Mhig rfl iX5_leadsBack_X5 (by decide) (List.mem_of_getElem? (i := 3) rfl) rfl ?_
      refine q_iload_n C dX5_leadsBack_29 rfl ?_
      refine x_ialdN C dX5_leadsBack_30 ia_Mhig (by decide) (by omega) ?_
      refine q_top (show Value.int _ = Value.int _ from congrArg Value.int ((congrFun (hI1.1 194 (by decide)) b).trans hh)) ?_
      refine q_imulN C dX5_leadsBack_31 ?_
      refine q_iload_n C dX5_leadsBack_32 rfl ?_
      refine q_iaddN C dX5_leadsBack_33 ?_
      refine q_iconst C (v := nI 1) dX5_leadsBack_34 (by decide) ?_
      refine x_zastN C dX5_leadsBack_35 (by omega) (by decide) ?_
      refine q_iinc1 C dX5_leadsBack_36 rfl (by decide) rfl ?_
      refine q_goto C (tgt := 9) dX5_leadsBack_39 (by decide) ?_
      exact q_mask [true, true, true, true, false, false] (ih_s1 () _ _ ⟨rfl, fun q hq => by simp only [va_up, if_neg hq]; exact hI1.1 q hq, fun t ht => by
        simp only [va_up, if_true]
        by_cases e1 : t = s1
        · rw [upd, if_pos (by omega)]
        · rw [upd, if_neg (by omega)]
          exact hI1.2 t (by omega)⟩)
  · intro a1 X1 Y1 hI_s1
    obtain ⟨rfl, hI1⟩ := hI_s1
    refine q_iload_n C dX5_leadsBack_9 rfl ?_
    refine q_aload_n C dX5_leadsBack_10 rfl ?_
    refine q_iload_n C dX5_leadsBack_11 rfl ?_
    refine x_callV (As := [_]) (nA := 1) (T := TX5) (NF := 15) C dX5_leadsBack_12 ob_M rfl (m_states _ _ _ Y b n hb hn ((congrFun (hI1.1 193 (by decide)) b).trans hw)) gX5_leadsBack_X5_states rfl (by decide +kernel) rfl ⟨Nat.le_of_ble_eq_true rfl, Nat.le_of_ble_eq_true rfl⟩ (Nat.le_of_ble_eq_true rfl) ⟨Nat.le_of_ble_eq_true rfl, Nat.le_of_ble_eq_true rfl⟩ (fun v12 g12 h12 => ?_)
    obtain ⟨rfl, rfl⟩ := h12
    refine q_icmpgeN C (tgt := 42) dX5_leadsBack_15 (by decide) (by omega) (by omega) (fun c15 => ?_) (fun c15 => ?_)
    · refine q_aload_n C dX5_leadsBack_42 rfl ?_
      refine x_getR C (ci := 5) (k := 8) (C0 := RX5) (T := TX5) (NF := 15) (ref := RX5) (host := RX4) dX5_leadsBack_43 fr_Mhig rfl iX5_leadsBack_X5 (by decide) (List.mem_of_getElem? (i := 3) rfl) rfl ?_
      refine q_iload_n C dX5_leadsBack_46 rfl ?_
      refine x_ialdN C dX5_leadsBack_47 ia_Mhig (by decide) (by omega) ?_
      refine q_top (show Value.int _ = Value.int _ from congrArg Value.int ((congrFun (hI1.1 194 (by decide)) b).trans hh)) ?_
      refine q_iconst C (v := nI 1) dX5_leadsBack_48 (by decide) ?_
      refine q_isub C dX5_leadsBack_49 ?_
      refine q_istore_n C dX5_leadsBack_50 (by decide) rfl ?_
      refine q_mask [true, true, true, true, false, false] (q_for (σ := Unit) (k0 := 0) (h) (fun kk _ X' Y' => Y = Y' ∧ (∀ q, q ≠ 200 → X' q = X q) ∧ ∀ j, j ≤ kk → kb_rF n X' (h - j) (kb_cR n h told j)) (fun kk _ => [some (.ref (E.2.2.2 188)), some (.int (nI b)), some (.int (nI n)), some (.int (nI (h - kk) - nI 1)), none, none]) (Nat.zero_le _) () (⟨rfl, hI1.1, fun j hj t ht => by
  have e0 : j = 0 := by omega
  subst e0
  exact Or.inl ⟨hI1.2 t ht, trivial⟩⟩) ?_ ?_)
      · intro kk a2 X2 Y2 hk_kk hk0_kk hI_kk ih_kk
        obtain ⟨rfl, hI2⟩ := hI_kk
        obtain ⟨r, hr⟩ : ∃ r, r = h - (kk + 1) := ⟨_, rfl⟩
        rw [show nI (h - kk) - nI 1 = nI r from (pk_sub (by omega)).trans (by rw [hr]; rfl)]
        have hkn3 : kb_kn n r ≤ 3 := kb_kn_le hn
        refine q_iload_n C dX5_leadsBack_51 rfl ?_
        refine q_iflt C (tgt := 187) dX5_leadsBack_52 (by decide) (fun c52 => ?_) (fun c52 => ?_)
        · exact absurd c52 (nI_pos (by omega))
        · refine q_iconst C (v := nI 0) dX5_leadsBack_55 (by decide) ?_
          refine q_istore C dX5_leadsBack_56 (by decide) rfl ?_
          refine q_mask [true, true, true, true, true, false] (q_for (σ := Unit) (k0 := 0) (4 ^ n) (fun s0 _ X' Y' => Y = Y' ∧ (∀ q, q ≠ 200 → X' q = X q) ∧ (∀ j, j ≤ kk → kb_rF n X' (h - j) (kb_cR n h told j)) ∧ ∀ t, t < s0 → X' 200 (4096 * r + t) = nI 0) (fun s0 _ => [some (.ref (E.2.2.2 188)), some (.int (nI b)), some (.int (nI n)), some (.int (nI r)), some (.int (nI s0)), none]) (Nat.zero_le _) () (⟨rfl, hI2.1, hI2.2, fun t ht => absurd ht (Nat.not_lt_zero _)⟩) ?_ ?_)
          · intro s3 a3 X3 Y3 hk_s3 hk0_s3 hI_s3 ih_s3
            obtain ⟨rfl, hI3⟩ := hI_s3
            refine q_iload C dX5_leadsBack_58 rfl ?_
            refine q_aload_n C dX5_leadsBack_60 rfl ?_
            refine q_iload_n C dX5_leadsBack_61 rfl ?_
            refine x_callV (As := [_]) (nA := 1) (T := TX5) (NF := 15) C dX5_leadsBack_62 ob_M rfl (m_states _ _ _ Y b n hb hn ((congrFun (hI3.1 193 (by decide)) b).trans hw)) gX5_leadsBack_X5_states rfl (by decide +kernel) rfl ⟨Nat.le_of_ble_eq_true rfl, Nat.le_of_ble_eq_true rfl⟩ (Nat.le_of_ble_eq_true rfl) ⟨Nat.le_of_ble_eq_true rfl, Nat.le_of_ble_eq_true rfl⟩ (fun v62 g62 h62 => ?_)
            obtain ⟨rfl, rfl⟩ := h62
            refine q_icmpgeN C (tgt := 88) dX5_leadsBack_65 (by decide) (by omega) (by omega) (fun c65 => ?_) (fun c65 => ?_)
            · exact absurd c65 (by omega)
            · refine q_aload_n C dX5_leadsBack_68 rfl ?_
              refine x_getR C (ci := 5) (k := 14) (C0 := RX5) (T := TX5) (NF := 15) (ref := RX5) (host := RX4) dX5_leadsBack_69 fr_Mcan rfl iX5_leadsBack_X5 (by decide) (List.mem_of_getElem? (i := 2) rfl) rfl ?_
              refine q_sipush C (v := nI 4096) dX5_leadsBack_72 (by decide) ?_
              refine q_iload_n C dX5_leadsBack_75 rfl ?_
              refine q_imulN C dX5_leadsBack_76 ?_
              refine q_iload C dX5_leadsBack_77 rfl ?_
              refine q_iaddN C dX5_leadsBack_79 ?_
              refine q_iconst C (v := nI 0) dX5_leadsBack_80 (by decide) ?_
              refine x_zastN C dX5_leadsBack_81 (by omega) (by decide) ?_
              refine q_iinc1 C dX5_leadsBack_82 rfl (by decide) rfl ?_
              refine q_goto C (tgt := 58) dX5_leadsBack_85 (by decide) ?_
              exact q_mask [true, true, true, true, true, false] (ih_s3 () _ _ ⟨rfl, fun q hq => by simp only [va_up, if_neg hq]; exact hI3.1 q hq, fun j hj t ht => by
                simp only [va_up, if_true]
                rw [upd, if_neg (by omega)]
                exact hI3.2.1 j hj t ht, fun t ht => by
                simp only [va_up, if_true]
                by_cases e1 : t = s3
                · rw [upd, if_pos (by omega)]
                · rw [upd, if_neg (by omega)]
                  exact hI3.2.2 t (by omega)⟩)
          · intro a3 X3 Y3 hI_s3
            obtain ⟨rfl, hI3⟩ := hI_s3
            refine q_iload C dX5_leadsBack_58 rfl ?_
            refine q_aload_n C dX5_leadsBack_60 rfl ?_
            refine q_iload_n C dX5_leadsBack_61 rfl ?_
            refine x_callV (As := [_]) (nA := 1) (T := TX5) (NF := 15) C dX5_leadsBack_62 ob_M rfl (m_states _ _ _ Y b n hb hn ((congrFun (hI3.1 193 (by decide)) b).trans hw)) gX5_leadsBack_X5_states rfl (by decide +kernel) rfl ⟨Nat.le_of_ble_eq_true rfl, Nat.le_of_ble_eq_true rfl⟩ (Nat.le_of_ble_eq_true rfl) ⟨Nat.le_of_ble_eq_true rfl, Nat.le_of_ble_eq_true rfl⟩ (fun v62 g62 h62 => ?_)
            obtain ⟨rfl, rfl⟩ := h62
            refine q_icmpgeN C (tgt := 88) dX5_leadsBack_65 (by decide) (by omega) (by omega) (fun c65 => ?_) (fun c65 => ?_)
            · refine q_iconst C (v := nI 0) dX5_leadsBack_88 (by decide) ?_
              refine q_istore C dX5_leadsBack_89 (by decide) rfl ?_
              refine q_mask [true, true, true, true, true, false] (q_for (σ := Unit) (k0 := 0) (4 ^ n) (fun s0 _ X' Y' => Y = Y' ∧ (∀ q, q ≠ 200 → X' q = X q) ∧ (∀ j, j ≤ kk → kb_rF n X' (h - j) (kb_cR n h told j)) ∧ kb_rF n X' r (fun t => ∃ s' b', s' < s0 ∧ b' < 2 ^ kb_kn n r ∧ kb_cR n h told kk s' ∧ kb_fit n told r s' ∧ t = kb_ch n r b' s' (kb_kn n r))) (fun s0 _ => [some (.ref (E.2.2.2 188)), some (.int (nI b)), some (.int (nI n)), some (.int (nI r)), some (.int (nI s0)), none]) (Nat.zero_le _) () (⟨rfl, hI3.1, hI3.2.1, fun t ht => Or.inr ⟨hI3.2.2 t ht, fun ⟨_, _, q, _⟩ => absurd q (Nat.not_lt_zero _)⟩⟩) ?_ ?_)
              · intro s0 a4 X4 Y4 hk_s0 hk0_s0 hI_s0 ih_s0
                obtain ⟨rfl, hI4⟩ := hI_s0
                have hfc : kb_flag (kb_cR n h told kk s0) (X4 200 (4096 * (r + 1) + s0)) := by
                  have := hI4.2.1 kk (Nat.le_refl _) s0 hk_s0
                  rw [show h - kk = r + 1 by omega] at this
                  exact this
                refine q_iload C dX5_leadsBack_91 rfl ?_
                refine q_aload_n C dX5_leadsBack_93 rfl ?_
                refine q_iload_n C dX5_leadsBack_94 rfl ?_
                refine x_callV (As := [_]) (nA := 1) (T := TX5) (NF := 15) C dX5_leadsBack_95 ob_M rfl (m_states _ _ _ Y b n hb hn ((congrFun (hI4.1 193 (by decide)) b).trans hw)) gX5_leadsBack_X5_states rfl (by decide +kernel) rfl ⟨Nat.le_of_ble_eq_true rfl, Nat.le_of_ble_eq_true rfl⟩ (Nat.le_of_ble_eq_true rfl) ⟨Nat.le_of_ble_eq_true rfl, Nat.le_of_ble_eq_true rfl⟩ (fun v95 g95 h95 => ?_)
                obtain ⟨rfl, rfl⟩ := h95
                refine q_icmpgeN C (tgt := 181) dX5_leadsBack_98 (by decide) (by omega) (by omega) (fun c98 => ?_) (fun c98 => ?_)
                · exact absurd c98 (by omega)
                · refine q_aload_n C dX5_leadsBack_101 rfl ?_
                  refine x_getR C (ci := 5) (k := 14) (C0 := RX5) (T := TX5) (NF := 15) (ref := RX5) (host := RX4) dX5_leadsBack_102 fr_Mcan rfl iX5_leadsBack_X5 (by decide) (List.mem_of_getElem? (i := 2) rfl) rfl ?_
                  refine q_sipush C (v := nI 4096) dX5_leadsBack_105 (by decide) ?_
                  refine q_iload_n C dX5_leadsBack_108 rfl ?_
                  refine q_iconst C (v := nI 1) dX5_leadsBack_109 (by decide) ?_
                  refine q_iaddN C dX5_leadsBack_110 ?_
                  refine q_imulN C dX5_leadsBack_111 ?_
                  refine q_iload C dX5_leadsBack_112 rfl ?_
                  refine q_iaddN C dX5_leadsBack_114 ?_
                  refine x_zaldN C dX5_leadsBack_115 (by omega) ?_
                  refine q_ifeq C (tgt := 175) dX5_leadsBack_116 (by decide) (fun c116 => ?_) (fun c116 => ?_)
                  · refine q_iinc1 C dX5_leadsBack_175 rfl (by decide) rfl ?_
                    refine q_goto C (tgt := 91) dX5_leadsBack_178 (by decide) ?_
                    exact q_mask [true, true, true, true, true, false] (ih_s0 () _ _ ⟨rfl, hI4.1, hI4.2.1, fun t ht => kb_flag_iff (hI4.2.2 t ht) ⟨fun q => by
                      obtain ⟨s', b', q1, q2⟩ := q
                      exact ⟨s', b', by omega, q2⟩, fun q => by
                      obtain ⟨s', b', q1, q2⟩ := q
                      have : s' ≠ s0 := fun z => by
                        subst z
                        exact (kb_flag0 hfc c116) q2.2.1
                      exact ⟨s', b', by omega, q2⟩⟩⟩)
                  · refine q_aload_n C dX5_leadsBack_119 rfl ?_
                    refine q_iload_n C dX5_leadsBack_120 rfl ?_
                    refine q_iload_n C dX5_leadsBack_121 rfl ?_
                    refine q_iload C dX5_leadsBack_122 rfl ?_
                    refine x_callV (As := [_, _, _]) (nA := 3) (T := TX5) (NF := 15) C dX5_leadsBack_124 ob_M rfl (m_fits _ _ X4 Y b n r s0 hb hn hn2 (by omega) hk_s0 ((congrFun (hI4.1 193 (by decide)) b).trans hw) told (by rw [hI4.1 195 (by decide)]; exact htd)) gX5_leadsBack_X5_fits rfl (by decide +kernel) rfl ⟨Nat.le_of_ble_eq_true rfl, Nat.le_of_ble_eq_true rfl⟩ (Nat.le_of_ble_eq_true rfl) ⟨Nat.le_of_ble_eq_true rfl, Nat.le_of_ble_eq_true rfl⟩ (fun v124 g124 h124 => ?_)
                    obtain ⟨f124, rfl, hf124, rfl⟩ := h124
                    refine q_ifne C (tgt := 133) dX5_leadsBack_127 (by decide) (fun c127 => ?_) (fun c127 => ?_)
                    · have hcan : kb_cR n h told kk s0 := kb_flag1 hfc c116
                      have hfit : kb_fit n told r s0 := kb_flag1 hf124 c127
                      refine q_iconst C (v := nI 0) dX5_leadsBack_133 (by decide) ?_
                      refine q_istore C dX5_leadsBack_134 (by decide) rfl ?_
                      refine q_mask [true, true, true, true, true, true] (q_for (σ := Unit) (k0 := 0) (2 ^ kb_kn n r) (fun bt _ X' Y' => Y = Y' ∧ (∀ q, q ≠ 200 → X' q = X q) ∧ (∀ j, j ≤ kk → kb_rF n X' (h - j) (kb_cR n h told j)) ∧ kb_rF n X' r (fun t => (∃ s' b', s' < s0 ∧ b' < 2 ^ kb_kn n r ∧ kb_cR n h told kk s' ∧ kb_fit n told r s' ∧ t = kb_ch n r b' s' (kb_kn n r)) ∨ ∃ b', b' < bt ∧ t = kb_ch n r b' s0 (kb_kn n r))) (fun bt _ => [some (.ref (E.2.2.2 188)), some (.int (nI b)), some (.int (nI n)), some (.int (nI r)), some (.int (nI s0)), some (.int (nI bt))]) (Nat.zero_le _) () (⟨rfl, hI4.1, hI4.2.1, fun t ht => kb_flag_iff (hI4.2.2 t ht) ⟨fun q => Or.inl q, fun q => by
  rcases q with q | ⟨b', q1, _⟩
  · exact q
  · exact absurd q1 (Nat.not_lt_zero _)⟩⟩) ?_ ?_)
                      · intro bt a5 X5 Y5 hk_bt hk0_bt hI_bt ih_bt
                        obtain ⟨rfl, hI5⟩ := hI_bt
                        have hp8 : 2 ^ kb_kn n r ≤ 8 := Nat.pow_le_pow_right (by decide) hkn3
                        have hcl : kb_ch n r bt s0 (kb_kn n r) < 4 ^ n := kb_ch_lt hn hk_s0 _ (Nat.le_refl _)
                        refine q_iload C dX5_leadsBack_136 rfl ?_
                        refine q_iconst C (v := nI 1) dX5_leadsBack_138 (by decide) ?_
                        refine q_iload_n C dX5_leadsBack_139 rfl ?_
                        refine q_iload_n C dX5_leadsBack_140 rfl ?_
                        refine q_callS (As := [_, _]) (nA := 2) C dX5_leadsBack_141 (m_mknots _ _ _ _ _) gX5_leadsBack_X5_knots rfl (by decide +kernel) rfl ⟨Nat.le_of_ble_eq_true rfl, Nat.le_of_ble_eq_true rfl⟩ (Nat.le_of_ble_eq_true rfl) ⟨Nat.le_of_ble_eq_true rfl, Nat.le_of_ble_eq_true rfl⟩ (fun v141 g141 h141 => ?_)
                        obtain ⟨rfl, rfl⟩ := h141
                        refine q_top (show Value.int _ = Value.int _ from congrArg Value.int (nv_mknots n (by omega) r (by omega) (by omega))) ?_
                        refine q_ishl C dX5_leadsBack_144 ?_
                        refine q_top (show Value.int _ = Value.int _ from congrArg Value.int (nv_shl (by omega))) ?_
                        refine q_icmpgeN C (tgt := 175) dX5_leadsBack_145 (by decide) (by omega) (by omega) (fun c145 => ?_) (fun c145 => ?_)
                        · exact absurd c145 (by omega)
                        · refine q_aload_n C dX5_leadsBack_148 rfl ?_
                          refine x_getR C (ci := 5) (k := 14) (C0 := RX5) (T := TX5) (NF := 15) (ref := RX5) (host := RX4) dX5_leadsBack_149 fr_Mcan rfl iX5_leadsBack_X5 (by decide) (List.mem_of_getElem? (i := 2) rfl) rfl ?_
                          refine q_sipush C (v := nI 4096) dX5_leadsBack_152 (by decide) ?_
                          refine q_iload_n C dX5_leadsBack_155 rfl ?_
                          refine q_imulN C dX5_leadsBack_156 ?_
                          refine q_iload_n C dX5_leadsBack_157 rfl ?_
                          refine q_iload_n C dX5_leadsBack_158 rfl ?_
                          refine q_iload C dX5_leadsBack_159 rfl ?_
                          refine q_iload C dX5_leadsBack_161 rfl ?_
                          refine q_callS (As := [_, _, _, _]) (nA := 4) C dX5_leadsBack_163 (m_changed _ _ _ Y n r s0 bt hn hn2 (by omega) hk_s0 (by omega)) gX5_leadsBack_X5_changed rfl (by decide +kernel) rfl ⟨Nat.le_of_ble_eq_true rfl, Nat.le_of_ble_eq_true rfl⟩ (Nat.le_of_ble_eq_true rfl) ⟨Nat.le_of_ble_eq_true rfl, Nat.le_of_ble_eq_true rfl⟩ (fun v163 g163 h163 => ?_)
                          obtain ⟨rfl, rfl⟩ := h163
                          refine q_iaddN C dX5_leadsBack_166 ?_
                          refine q_iconst C (v := nI 1) dX5_leadsBack_167 (by decide) ?_
                          refine x_zastN C dX5_leadsBack_168 (by omega) (by decide) ?_
                          refine q_iinc1 C dX5_leadsBack_169 rfl (by decide) rfl ?_
                          refine q_goto C (tgt := 136) dX5_leadsBack_172 (by decide) ?_
                          exact q_mask [true, true, true, true, true, true] (ih_bt () _ _ ⟨rfl, fun q hq => by simp only [va_up, if_neg hq]; exact hI5.1 q hq, fun j hj t ht => by
                            simp only [va_up, if_true]
                            rw [upd, if_neg (by omega)]
                            exact hI5.2.1 j hj t ht, fun t ht => by
                            simp only [va_up, if_true]
                            by_cases e1 : t = kb_ch n r bt s0 (kb_kn n r)
                            · rw [upd, if_pos (by omega)]
                              exact Or.inl ⟨rfl, Or.inr ⟨bt, by omega, e1⟩⟩
                            · rw [upd, if_neg (by omega)]
                              refine kb_flag_iff (hI5.2.2 t ht) ⟨fun q => ?_, fun q => ?_⟩
                              · rcases q with q | ⟨b', q1, q2⟩
                                · exact Or.inl q
                                · exact Or.inr ⟨b', by omega, q2⟩
                              · rcases q with q | ⟨b', q1, q2⟩
                                · exact Or.inl q
                                · have : b' ≠ bt := fun z => e1 (by rw [q2, z])
                                  exact Or.inr ⟨b', by omega, q2⟩⟩)
                      · intro a5 X5 Y5 hI_bt
                        obtain ⟨rfl, hI5⟩ := hI_bt
                        have hp8 : 2 ^ kb_kn n r ≤ 8 := Nat.pow_le_pow_right (by decide) hkn3
                        refine q_iload C dX5_leadsBack_136 rfl ?_
                        refine q_iconst C (v := nI 1) dX5_leadsBack_138 (by decide) ?_
                        refine q_iload_n C dX5_leadsBack_139 rfl ?_
                        refine q_iload_n C dX5_leadsBack_140 rfl ?_
                        refine q_callS (As := [_, _]) (nA := 2) C dX5_leadsBack_141 (m_mknots _ _ _ _ _) gX5_leadsBack_X5_knots rfl (by decide +kernel) rfl ⟨Nat.le_of_ble_eq_true rfl, Nat.le_of_ble_eq_true rfl⟩ (Nat.le_of_ble_eq_true rfl) ⟨Nat.le_of_ble_eq_true rfl, Nat.le_of_ble_eq_true rfl⟩ (fun v141 g141 h141 => ?_)
                        obtain ⟨rfl, rfl⟩ := h141
                        refine q_top (show Value.int _ = Value.int _ from congrArg Value.int (nv_mknots n (by omega) r (by omega) (by omega))) ?_
                        refine q_ishl C dX5_leadsBack_144 ?_
                        refine q_top (show Value.int _ = Value.int _ from congrArg Value.int (nv_shl (by omega))) ?_
                        refine q_icmpgeN C (tgt := 175) dX5_leadsBack_145 (by decide) (by omega) (by omega) (fun c145 => ?_) (fun c145 => ?_)
                        · refine q_iinc1 C dX5_leadsBack_175 rfl (by decide) rfl ?_
                          refine q_goto C (tgt := 91) dX5_leadsBack_178 (by decide) ?_
                          exact q_mask [true, true, true, true, true, false] (ih_s0 () _ _ ⟨rfl, hI5.1, hI5.2.1, fun t ht => kb_flag_iff (hI5.2.2 t ht) ⟨fun q => by
                            rcases q with ⟨s', b', q1, q2, q3, q4, q5⟩ | ⟨b', q1, q2⟩
                            · exact ⟨s', b', by omega, q2, q3, q4, q5⟩
                            · exact ⟨s0, b', by omega, q1, hcan, hfit, q2⟩, fun q => by
                            obtain ⟨s', b', q1, q2, q3, q4, q5⟩ := q
                            rcases Nat.lt_or_ge s' s0 with z | z
                            · exact Or.inl ⟨s', b', z, q2, q3, q4, q5⟩
                            · have e9 : s' = s0 := by omega
                              subst e9
                              exact Or.inr ⟨b', q2, q5⟩⟩⟩)
                        · exact absurd c145 (by omega)
                    · refine q_goto C (tgt := 175) dX5_leadsBack_130 (by decide) ?_
                      refine q_iinc1 C dX5_leadsBack_175 rfl (by decide) rfl ?_
                      refine q_goto C (tgt := 91) dX5_leadsBack_178 (by decide) ?_
                      exact q_mask [true, true, true, true, true, false] (ih_s0 () _ _ ⟨rfl, hI4.1, hI4.2.1, fun t ht => kb_flag_iff (hI4.2.2 t ht) ⟨fun q => by
                        obtain ⟨s', b', q1, q2⟩ := q
                        exact ⟨s', b', by omega, q2⟩, fun q => by
                        obtain ⟨s', b', q1, q2⟩ := q
                        have : s' ≠ s0 := fun z => by
                          subst z
                          exact (kb_flag0 hf124 c127) q2.2.2.1
                        exact ⟨s', b', by omega, q2⟩⟩⟩)
              · intro a4 X4 Y4 hI_s0
                obtain ⟨rfl, hI4⟩ := hI_s0
                refine q_iload C dX5_leadsBack_91 rfl ?_
                refine q_aload_n C dX5_leadsBack_93 rfl ?_
                refine q_iload_n C dX5_leadsBack_94 rfl ?_
                refine x_callV (As := [_]) (nA := 1) (T := TX5) (NF := 15) C dX5_leadsBack_95 ob_M rfl (m_states _ _ _ Y b n hb hn ((congrFun (hI4.1 193 (by decide)) b).trans hw)) gX5_leadsBack_X5_states rfl (by decide +kernel) rfl ⟨Nat.le_of_ble_eq_true rfl, Nat.le_of_ble_eq_true rfl⟩ (Nat.le_of_ble_eq_true rfl) ⟨Nat.le_of_ble_eq_true rfl, Nat.le_of_ble_eq_true rfl⟩ (fun v95 g95 h95 => ?_)
                obtain ⟨rfl, rfl⟩ := h95
                refine q_icmpgeN C (tgt := 181) dX5_leadsBack_98 (by decide) (by omega) (by omega) (fun c98 => ?_) (fun c98 => ?_)
                · refine q_iinc C dX5_leadsBack_181 rfl (by decide) rfl ?_
                  refine q_goto C (tgt := 51) dX5_leadsBack_184 (by decide) ?_
                  subst hr
                  have ih9 := ih_kk () X4 Y ⟨rfl, hI4.1, fun j hj => by
                    rcases Nat.lt_or_ge j (kk + 1) with z | z
                    · exact hI4.2.1 j (by omega)
                    · have e9 : j = kk + 1 := by omega
                      subst e9
                      intro t ht
                      refine kb_flag_iff (hI4.2.2 t ht) ?_
                      exact ⟨fun ⟨s', b', q⟩ => ⟨s', b', q⟩, fun ⟨s', b', q⟩ => ⟨s', b', q⟩⟩⟩
                  rw [kb_dec]
                  exact q_mask [true, true, true, true, false, false] ih9
                · exact absurd c98 (by omega)
            · exact absurd c65 (by omega)
      · intro a2 X2 Y2 hI_kk
        obtain ⟨rfl, hI2⟩ := hI_kk
        have hneg : nI (h - h) - nI 1 < 0 := by rw [Nat.sub_self]; decide
        refine q_iload_n C dX5_leadsBack_51 rfl ?_
        refine q_iflt C (tgt := 187) dX5_leadsBack_52 (by decide) (fun c52 => ?_) (fun c52 => ?_)
        · exact q_vret C dX5_leadsBack_187 ⟨rfl, _, rfl, hI2⟩
        · exact absurd hneg c52
    · exact absurd c15 (by omega)

/-! ===== the reference: used, unlike, copy, row, picture ===== -/
def kb_cntR (f : Nat → Nat → Nat) (r : Nat) : Nat → Nat
  | 0 => 0
  | k + 1 => kb_cntR f r k + f r k
def kb_cnt (f : Nat → Nat → Nat) (n : Nat) : Nat → Nat
  | 0 => 0
  | r + 1 => kb_cnt f n r + kb_cntR f r (kb_kn n r)
theorem iX5_used_X5 : ∀ w ∈ wsX50, w ∈ wsX5_used := fun _ h => List.mem_cons_of_mem _ (by first | exact h | exact List.mem_append_right _ h | exact List.mem_append_left _ (List.mem_append_right _ h) | exact List.mem_append_left _ (List.mem_append_left _ (List.mem_append_right _ h)) | exact List.mem_append_left _ (List.mem_append_left _ (List.mem_append_left _ (List.mem_append_right _ h))) | exact List.mem_append_left _ (List.mem_append_left _ (List.mem_append_left _ (List.mem_append_left _ (List.mem_append_right _ h)))) | exact List.mem_append_left _ (List.mem_append_left _ (List.mem_append_left _ (List.mem_append_left _ (List.mem_append_left _ (List.mem_append_right _ h))))))
set_option maxRecDepth 100000 in
set_option maxHeartbeats 4000000 in
/-- X5.used -/
theorem m_mused (l : Launch) (E : kb_E) (X : Nat → Nat → Int32) (Y : Nat → Nat → Int64) (b t : Int32) (hMI : kb_MI X) : kb_Met l E 202 yX5_used wsX5_used ({ frames := 2, cells := 0, slots := 0, locals := 47 }) [.ref (E.2.2.2 188), .int b, .int t] (kb_ent E X Y) (kb_out E X Y (kb_okB X b ∧ (¬ t < 0 ∧ ¬ X 189 (kb_tn b) ≤ t)) True (fun v X' => v = nI (kb_use (kb_mkd X (kb_tn b)) (kb_tn (X 189 (kb_tn b))) (kb_tn t) (kb_tn (X 190 (kb_tn b)))) ∧ kb_MS X X')) := by
  refine kb_enter (cc := cX5_used) (maxL := 6) (ret := (some .int)) (by decide +kernel) rfl (by simp [Value.category]) (Nat.le_of_ble_eq_true rfl) ?_
  intro p e s m args below meth c C hini
  refine q_aload_n C dX5_used_0 rfl ?_
  refine q_iload_n C dX5_used_1 rfl ?_
  refine x_callV (As := [_]) (nA := 1) (T := TX5) (NF := 15) C dX5_used_2 ob_M rfl (m_isBand _ _ X Y b) gX5_used_X5_isBand rfl (by decide +kernel) rfl ⟨Nat.le_of_ble_eq_true rfl, Nat.le_of_ble_eq_true rfl⟩ (Nat.le_of_ble_eq_true rfl) ⟨Nat.le_of_ble_eq_true rfl, Nat.le_of_ble_eq_true rfl⟩ (fun v2 g2 h2 => ?_)
  rcases h2 with ⟨hc2, rfl, rfl⟩ | ⟨hc2, rfl, rfl⟩
  · obtain ⟨b', hb', rfl, hb8⟩ := kb_okB_nat hMI hc2
    have eb : kb_tn (nI b') = b' := kb_tn_nI (by omega)
    have hnb := hMI.2.1 b' hb'
    refine q_ifeq C (tgt := 35) dX5_used_5 (by decide) (fun c5 => ?_) (fun c5 => ?_)
    · exact absurd c5 (by decide)
    · refine q_aload_n C dX5_used_8 rfl ?_
      refine q_cut 28 (P := kb_flag (¬ t < 0 ∧ ¬ X 189 (kb_tn (nI b')) ≤ t)) (fun f28 hf28 => ?_) (fun J28 => ?_)
      · refine q_iconst C (v := nI 1) dX5_used_28 (by decide) ?_
        refine x_callV (As := [_, _]) (nA := 2) (T := TX5) (NF := 15) C dX5_used_29 ob_M rfl (m_right _ _ (kb_thr X (nI 0)) Y ((¬ t < 0 ∧ ¬ X 189 (kb_tn (nI b')) ≤ t)) _ _ (by exact kb_thr_at) (by decide) hf28) gX5_used_X5_right rfl (by decide +kernel) rfl ⟨Nat.le_of_ble_eq_true rfl, Nat.le_of_ble_eq_true rfl⟩ (Nat.le_of_ble_eq_true rfl) ⟨Nat.le_of_ble_eq_true rfl, Nat.le_of_ble_eq_true rfl⟩ (fun v29 g29 h29 => ?_)
        rcases h29 with ⟨hc29, rfl, rfl⟩ | ⟨hc29, rfl, rfl⟩
        · have hc29' := hc29
          rw [eb] at hc29'
          obtain ⟨t', ht', rfl⟩ := kb_lt_nat hc29'.1 hc29'.2 hnb.1.1
          have hth : kb_thr X (nI 0) 189 b' = nI (kb_tn (X 189 b')) := by rw [kb_thr_ne (by decide)]; exact hnb.1.1
          have hrw : kb_thr X (nI 0) 190 b' = nI (kb_tn (X 190 b')) := by rw [kb_thr_ne (by decide)]; exact hnb.2.2.1
          have hr16 : kb_tn (X 190 b') ≤ 16 := hnb.2.2.2
          have hn6 : kb_tn (X 189 b') ≤ 6 := hnb.1.2
          have hn2 : 2 ≤ kb_tn (X 189 b') := hnb.2.1
          have hkd : ∀ r, r < 16 → ∀ k, k < 3 → kb_thr X (nI 0) 192 (48 * b' + 3 * r + k) = nI (kb_mkd X b' r k) ∧ kb_mkd X b' r k < 4 := fun r hr k hk => by rw [kb_thr_ne (by decide)]; exact ⟨(hMI.2.2.2.1 _ (by omega)).1, Nat.lt_succ_of_le (hMI.2.2.2.1 _ (by omega)).2⟩
          refine q_ifne C (tgt := 37) dX5_used_32 (by decide) (fun c32 => ?_) (fun c32 => ?_)
          · refine q_iconst C (v := nI 0) dX5_used_37 (by decide) ?_
            refine q_istore_n C dX5_used_38 (by decide) rfl ?_
            refine q_iconst C (v := nI 0) dX5_used_39 (by decide) ?_
            refine q_istore C dX5_used_40 (by decide) rfl ?_
            refine q_mask [true, true, true, true, true, false] (q_for (σ := Unit) (k0 := 0) (kb_tn (X 190 b')) (fun r _ X' Y' => Y = Y' ∧ ∀ q, q ≠ 197 → X' q = kb_thr X (nI 0) q) (fun r _ => [some (.ref (E.2.2.2 188)), some (.int (nI b')), some (.int (nI t')), some (.int (nI (kb_use (kb_mkd X b') (kb_tn (X 189 b')) t' r))), some (.int (nI r)), none]) (Nat.zero_le _) () (⟨rfl, fun _ _ => rfl⟩) ?_ ?_)
            · intro r a2 X2 Y2 hk_r hk0_r hI_r ih_r
              obtain ⟨rfl, hI2⟩ := hI_r
              have hkn3 : kb_kn (kb_tn (X 189 b')) r ≤ 3 := kb_kn_le hn6
              refine q_iload C dX5_used_42 rfl ?_
              refine q_aload_n C dX5_used_44 rfl ?_
              refine x_getR C (ci := 5) (k := 4) (C0 := RX5) (T := TX5) (NF := 15) (ref := RX5) (host := RX4) dX5_used_45 fr_Mrow rfl iX5_used_X5 (by decide) (List.mem_of_getElem? (i := 2) rfl) rfl ?_
              refine q_iload_n C dX5_used_48 rfl ?_
              refine x_ialdN C dX5_used_49 ia_Mrow (by decide) (by omega) ?_
              refine q_top (show Value.int _ = Value.int _ from congrArg Value.int ((congrFun (hI2 190 (by decide)) b').trans hrw)) ?_
              refine q_icmpgeN C (tgt := 131) dX5_used_50 (by decide) (by omega) (by omega) (fun c50 => ?_) (fun c50 => ?_)
              · exact absurd c50 (by omega)
              · refine q_aload_n C dX5_used_53 rfl ?_
                refine q_iload_n C dX5_used_54 rfl ?_
                refine q_iload C dX5_used_55 rfl ?_
                refine x_callV (As := [_, _]) (nA := 2) (T := TX5) (NF := 15) C dX5_used_57 ob_M rfl (m_stands _ _ X2 Y b' (kb_tn (X 189 b')) r hb8 hn6 hn2 (by omega) ((congrFun (hI2 189 (by decide)) b').trans hth) (kb_mkd X b') (by rw [hI2 192 (by decide)]; exact hkd)) gX5_used_X5_stands rfl (by decide +kernel) rfl ⟨Nat.le_of_ble_eq_true rfl, Nat.le_of_ble_eq_true rfl⟩ (Nat.le_of_ble_eq_true rfl) ⟨Nat.le_of_ble_eq_true rfl, Nat.le_of_ble_eq_true rfl⟩ (fun v57 g57 h57 => ?_)
                obtain ⟨rfl, X4, rfl, h4⟩ := h57
                refine q_iconst C (v := nI 0) dX5_used_60 (by decide) ?_
                refine q_istore C dX5_used_61 (by decide) rfl ?_
                refine q_mask [true, true, true, true, true, true] (q_for (σ := Unit) (k0 := 0) (kb_kn (kb_tn (X 189 b')) r) (fun k _ X' Y' => Y = Y' ∧ X4 = X') (fun k _ => [some (.ref (E.2.2.2 188)), some (.int (nI b')), some (.int (nI t')), some (.int (nI (kb_use (kb_mkd X b') (kb_tn (X 189 b')) t' r + kb_useR (kb_mkd X b') (kb_tn (X 189 b')) r t' k))), some (.int (nI r)), some (.int (nI k))]) (Nat.zero_le _) () (⟨rfl, rfl⟩) ?_ ?_)
                · intro k2 a3 X3 Y3 hk_k2 hk0_k2 hI_k2 ih_k2
                  obtain ⟨rfl, rfl⟩ := hI_k2
                  refine q_iload C dX5_used_63 rfl ?_
                  refine q_aload_n C dX5_used_65 rfl ?_
                  refine x_getR C (ci := 5) (k := 3) (C0 := RX5) (T := TX5) (NF := 15) (ref := RX5) (host := RX4) dX5_used_66 fr_Mthr rfl iX5_used_X5 (by decide) (List.mem_of_getElem? (i := 1) rfl) rfl ?_
                  refine q_iload_n C dX5_used_69 rfl ?_
                  refine x_ialdN C dX5_used_70 ia_Mthr (by decide) (by omega) ?_
                  refine q_top (show Value.int _ = Value.int _ from congrArg Value.int ((congrFun (h4.1 189 (by decide)) b').trans ((congrFun (hI2 189 (by decide)) b').trans hth))) ?_
                  refine q_iload C dX5_used_71 rfl ?_
                  refine q_callS (As := [_, _]) (nA := 2) C dX5_used_73 (m_mknots _ _ _ _ _) gX5_used_X5_knots rfl (by decide +kernel) rfl ⟨Nat.le_of_ble_eq_true rfl, Nat.le_of_ble_eq_true rfl⟩ (Nat.le_of_ble_eq_true rfl) ⟨Nat.le_of_ble_eq_true rfl, Nat.le_of_ble_eq_true rfl⟩ (fun v73 g73 h73 => ?_)
                  obtain ⟨rfl, rfl⟩ := h73
                  refine q_top (show Value.int _ = Value.int _ from congrArg Value.int (nv_mknots _ (by omega) r (by omega) (by omega))) ?_
                  refine q_icmpgeN C (tgt := 125) dX5_used_76 (by decide) (by omega) (by omega) (fun c76 => ?_) (fun c76 => ?_)
                  · exact absurd c76 (by omega)
                  · refine q_iload_n C dX5_used_79 rfl ?_
                    refine q_aload_n C dX5_used_80 rfl ?_
                    refine q_iload_n C dX5_used_81 rfl ?_
                    refine q_iload C dX5_used_82 rfl ?_
                    refine q_iload C dX5_used_84 rfl ?_
                    refine q_iconst C (v := nI 1) dX5_used_86 (by decide) ?_
                    refine x_callV (As := [_, _, _, _]) (nA := 4) (T := TX5) (NF := 15) C dX5_used_87 ob_M rfl (m_of _ _ X4 Y b' (kb_tn (X 189 b')) r k2 1 hb8 hn6 (by omega) hk_k2 (by omega) (by decide) (kb_mkd X b') (by rw [h4.1 192 (by decide), hI2 192 (by decide)]; exact hkd) (kb_at (kb_mkd X b') (kb_tn (X 189 b')) r) h4.2) gX5_used_X5_of rfl (by decide +kernel) rfl ⟨Nat.le_of_ble_eq_true rfl, Nat.le_of_ble_eq_true rfl⟩ (Nat.le_of_ble_eq_true rfl) ⟨Nat.le_of_ble_eq_true rfl, Nat.le_of_ble_eq_true rfl⟩ (fun v87 g87 h87 => ?_)
                    obtain ⟨rfl, rfl⟩ := h87
                    refine q_iload_n C dX5_used_90 rfl ?_
                    refine q_icmpneN C (tgt := 98) dX5_used_91 (by decide) (by have := kb_sh_lt (kd := kb_mkd X b') hk_k2; show kb_sh _ _ _ _ < _; omega) (by omega) (fun c91 => ?_) (fun c91 => ?_)
                    · refine q_aload_n C dX5_used_98 rfl ?_
                      refine q_iload_n C dX5_used_99 rfl ?_
                      refine q_iload C dX5_used_100 rfl ?_
                      refine q_iload C dX5_used_102 rfl ?_
                      refine q_iconst C (v := nI 0) dX5_used_104 (by decide) ?_
                      refine x_callV (As := [_, _, _, _]) (nA := 4) (T := TX5) (NF := 15) C dX5_used_105 ob_M rfl (m_of _ _ X4 Y b' (kb_tn (X 189 b')) r k2 0 hb8 hn6 (by omega) hk_k2 (by omega) (by decide) (kb_mkd X b') (by rw [h4.1 192 (by decide), hI2 192 (by decide)]; exact hkd) (kb_at (kb_mkd X b') (kb_tn (X 189 b')) r) h4.2) gX5_used_X5_of rfl (by decide +kernel) rfl ⟨Nat.le_of_ble_eq_true rfl, Nat.le_of_ble_eq_true rfl⟩ (Nat.le_of_ble_eq_true rfl) ⟨Nat.le_of_ble_eq_true rfl, Nat.le_of_ble_eq_true rfl⟩ (fun v105 g105 h105 => ?_)
                      obtain ⟨rfl, rfl⟩ := h105
                      refine q_iload_n C dX5_used_108 rfl ?_
                      refine q_icmpneN C (tgt := 116) dX5_used_109 (by decide) (by have := kb_hd_lt (kd := kb_mkd X b') hk_k2; show kb_hd _ _ _ _ < _; omega) (by omega) (fun c109 => ?_) (fun c109 => ?_)
                      · refine q_iconst C (v := nI 0) dX5_used_116 (by decide) ?_
                        refine q_iaddN C dX5_used_117 ?_
                        refine q_istore_n C dX5_used_118 (by decide) rfl ?_
                        refine q_iinc1 C dX5_used_119 rfl (by decide) rfl ?_
                        refine q_goto C (tgt := 63) dX5_used_122 (by decide) ?_
                        first
                        | (have eu : kb_us (kb_mkd X b') (kb_tn (X 189 b')) r k2 t' = 5 := by unfold kb_us; rw [if_pos (show t' = kb_sh _ _ _ _ from c91.symm)]
                           have eU : kb_use (kb_mkd X b') (kb_tn (X 189 b')) t' r + kb_useR (kb_mkd X b') (kb_tn (X 189 b')) r t' k2 + 5 = kb_use (kb_mkd X b') (kb_tn (X 189 b')) t' r + kb_useR (kb_mkd X b') (kb_tn (X 189 b')) r t' (k2 + 1) := (Nat.add_assoc _ _ _).trans (congrArg (fun z => kb_use (kb_mkd X b') (kb_tn (X 189 b')) t' r + (kb_useR (kb_mkd X b') (kb_tn (X 189 b')) r t' k2 + z)) eu.symm)
                           rw [eU])
                        | (have eu : kb_us (kb_mkd X b') (kb_tn (X 189 b')) r k2 t' = 1 := by unfold kb_us; rw [if_neg (show ¬ t' = kb_sh _ _ _ _ from fun q => c91 q.symm), if_pos (show t' = kb_hd _ _ _ _ from c109.symm)]
                           have eU : kb_use (kb_mkd X b') (kb_tn (X 189 b')) t' r + kb_useR (kb_mkd X b') (kb_tn (X 189 b')) r t' k2 + 1 = kb_use (kb_mkd X b') (kb_tn (X 189 b')) t' r + kb_useR (kb_mkd X b') (kb_tn (X 189 b')) r t' (k2 + 1) := (Nat.add_assoc _ _ _).trans (congrArg (fun z => kb_use (kb_mkd X b') (kb_tn (X 189 b')) t' r + (kb_useR (kb_mkd X b') (kb_tn (X 189 b')) r t' k2 + z)) eu.symm)
                           rw [eU])
                        | (have eu : kb_us (kb_mkd X b') (kb_tn (X 189 b')) r k2 t' = 0 := by unfold kb_us; rw [if_neg (show ¬ t' = kb_sh _ _ _ _ from fun q => c91 q.symm), if_neg (show ¬ t' = kb_hd _ _ _ _ from fun q => c109 q.symm)]
                           have eU : kb_use (kb_mkd X b') (kb_tn (X 189 b')) t' r + kb_useR (kb_mkd X b') (kb_tn (X 189 b')) r t' k2 + 0 = kb_use (kb_mkd X b') (kb_tn (X 189 b')) t' r + kb_useR (kb_mkd X b') (kb_tn (X 189 b')) r t' (k2 + 1) := (Nat.add_assoc _ _ _).trans (congrArg (fun z => kb_use (kb_mkd X b') (kb_tn (X 189 b')) t' r + (kb_useR (kb_mkd X b') (kb_tn (X 189 b')) r t' k2 + z)) eu.symm)
                           rw [eU])
                        exact q_mask [true, true, true, true, true, true] (ih_k2 () _ _ (show _ ∧ _ from ⟨rfl, rfl⟩))
                      · refine q_iconst C (v := nI 1) dX5_used_112 (by decide) ?_
                        refine q_goto C (tgt := 117) dX5_used_113 (by decide) ?_
                        refine q_iaddN C dX5_used_117 ?_
                        refine q_istore_n C dX5_used_118 (by decide) rfl ?_
                        refine q_iinc1 C dX5_used_119 rfl (by decide) rfl ?_
                        refine q_goto C (tgt := 63) dX5_used_122 (by decide) ?_
                        first
                        | (have eu : kb_us (kb_mkd X b') (kb_tn (X 189 b')) r k2 t' = 5 := by unfold kb_us; rw [if_pos (show t' = kb_sh _ _ _ _ from c91.symm)]
                           have eU : kb_use (kb_mkd X b') (kb_tn (X 189 b')) t' r + kb_useR (kb_mkd X b') (kb_tn (X 189 b')) r t' k2 + 5 = kb_use (kb_mkd X b') (kb_tn (X 189 b')) t' r + kb_useR (kb_mkd X b') (kb_tn (X 189 b')) r t' (k2 + 1) := (Nat.add_assoc _ _ _).trans (congrArg (fun z => kb_use (kb_mkd X b') (kb_tn (X 189 b')) t' r + (kb_useR (kb_mkd X b') (kb_tn (X 189 b')) r t' k2 + z)) eu.symm)
                           rw [eU])
                        | (have eu : kb_us (kb_mkd X b') (kb_tn (X 189 b')) r k2 t' = 1 := by unfold kb_us; rw [if_neg (show ¬ t' = kb_sh _ _ _ _ from fun q => c91 q.symm), if_pos (show t' = kb_hd _ _ _ _ from c109.symm)]
                           have eU : kb_use (kb_mkd X b') (kb_tn (X 189 b')) t' r + kb_useR (kb_mkd X b') (kb_tn (X 189 b')) r t' k2 + 1 = kb_use (kb_mkd X b') (kb_tn (X 189 b')) t' r + kb_useR (kb_mkd X b') (kb_tn (X 189 b')) r t' (k2 + 1) := (Nat.add_assoc _ _ _).trans (congrArg (fun z => kb_use (kb_mkd X b') (kb_tn (X 189 b')) t' r + (kb_useR (kb_mkd X b') (kb_tn (X 189 b')) r t' k2 + z)) eu.symm)
                           rw [eU])
                        | (have eu : kb_us (kb_mkd X b') (kb_tn (X 189 b')) r k2 t' = 0 := by unfold kb_us; rw [if_neg (show ¬ t' = kb_sh _ _ _ _ from fun q => c91 q.symm), if_neg (show ¬ t' = kb_hd _ _ _ _ from fun q => c109 q.symm)]
                           have eU : kb_use (kb_mkd X b') (kb_tn (X 189 b')) t' r + kb_useR (kb_mkd X b') (kb_tn (X 189 b')) r t' k2 + 0 = kb_use (kb_mkd X b') (kb_tn (X 189 b')) t' r + kb_useR (kb_mkd X b') (kb_tn (X 189 b')) r t' (k2 + 1) := (Nat.add_assoc _ _ _).trans (congrArg (fun z => kb_use (kb_mkd X b') (kb_tn (X 189 b')) t' r + (kb_useR (kb_mkd X b') (kb_tn (X 189 b')) r t' k2 + z)) eu.symm)
                           rw [eU])
                        exact q_mask [true, true, true, true, true, true] (ih_k2 () _ _ (show _ ∧ _ from ⟨rfl, rfl⟩))
                    · refine q_iconst C (v := nI 5) dX5_used_94 (by decide) ?_
                      refine q_goto C (tgt := 117) dX5_used_95 (by decide) ?_
                      refine q_iaddN C dX5_used_117 ?_
                      refine q_istore_n C dX5_used_118 (by decide) rfl ?_
                      refine q_iinc1 C dX5_used_119 rfl (by decide) rfl ?_
                      refine q_goto C (tgt := 63) dX5_used_122 (by decide) ?_
                      first
                      | (have eu : kb_us (kb_mkd X b') (kb_tn (X 189 b')) r k2 t' = 5 := by unfold kb_us; rw [if_pos (show t' = kb_sh _ _ _ _ from c91.symm)]
                         have eU : kb_use (kb_mkd X b') (kb_tn (X 189 b')) t' r + kb_useR (kb_mkd X b') (kb_tn (X 189 b')) r t' k2 + 5 = kb_use (kb_mkd X b') (kb_tn (X 189 b')) t' r + kb_useR (kb_mkd X b') (kb_tn (X 189 b')) r t' (k2 + 1) := (Nat.add_assoc _ _ _).trans (congrArg (fun z => kb_use (kb_mkd X b') (kb_tn (X 189 b')) t' r + (kb_useR (kb_mkd X b') (kb_tn (X 189 b')) r t' k2 + z)) eu.symm)
                         rw [eU])
                      | (have eu : kb_us (kb_mkd X b') (kb_tn (X 189 b')) r k2 t' = 1 := by unfold kb_us; rw [if_neg (show ¬ t' = kb_sh _ _ _ _ from fun q => c91 q.symm), if_pos (show t' = kb_hd _ _ _ _ from c109.symm)]
                         have eU : kb_use (kb_mkd X b') (kb_tn (X 189 b')) t' r + kb_useR (kb_mkd X b') (kb_tn (X 189 b')) r t' k2 + 1 = kb_use (kb_mkd X b') (kb_tn (X 189 b')) t' r + kb_useR (kb_mkd X b') (kb_tn (X 189 b')) r t' (k2 + 1) := (Nat.add_assoc _ _ _).trans (congrArg (fun z => kb_use (kb_mkd X b') (kb_tn (X 189 b')) t' r + (kb_useR (kb_mkd X b') (kb_tn (X 189 b')) r t' k2 + z)) eu.symm)
                         rw [eU])
                      | (have eu : kb_us (kb_mkd X b') (kb_tn (X 189 b')) r k2 t' = 0 := by unfold kb_us; rw [if_neg (show ¬ t' = kb_sh _ _ _ _ from fun q => c91 q.symm), if_neg (show ¬ t' = kb_hd _ _ _ _ from fun q => c109 q.symm)]
                         have eU : kb_use (kb_mkd X b') (kb_tn (X 189 b')) t' r + kb_useR (kb_mkd X b') (kb_tn (X 189 b')) r t' k2 + 0 = kb_use (kb_mkd X b') (kb_tn (X 189 b')) t' r + kb_useR (kb_mkd X b') (kb_tn (X 189 b')) r t' (k2 + 1) := (Nat.add_assoc _ _ _).trans (congrArg (fun z => kb_use (kb_mkd X b') (kb_tn (X 189 b')) t' r + (kb_useR (kb_mkd X b') (kb_tn (X 189 b')) r t' k2 + z)) eu.symm)
                         rw [eU])
                      exact q_mask [true, true, true, true, true, true] (ih_k2 () _ _ (show _ ∧ _ from ⟨rfl, rfl⟩))
                · intro a3 X3 Y3 hI_k2
                  obtain ⟨rfl, rfl⟩ := hI_k2
                  refine q_iload C dX5_used_63 rfl ?_
                  refine q_aload_n C dX5_used_65 rfl ?_
                  refine x_getR C (ci := 5) (k := 3) (C0 := RX5) (T := TX5) (NF := 15) (ref := RX5) (host := RX4) dX5_used_66 fr_Mthr rfl iX5_used_X5 (by decide) (List.mem_of_getElem? (i := 1) rfl) rfl ?_
                  refine q_iload_n C dX5_used_69 rfl ?_
                  refine x_ialdN C dX5_used_70 ia_Mthr (by decide) (by omega) ?_
                  refine q_top (show Value.int _ = Value.int _ from congrArg Value.int ((congrFun (h4.1 189 (by decide)) b').trans ((congrFun (hI2 189 (by decide)) b').trans hth))) ?_
                  refine q_iload C dX5_used_71 rfl ?_
                  refine q_callS (As := [_, _]) (nA := 2) C dX5_used_73 (m_mknots _ _ _ _ _) gX5_used_X5_knots rfl (by decide +kernel) rfl ⟨Nat.le_of_ble_eq_true rfl, Nat.le_of_ble_eq_true rfl⟩ (Nat.le_of_ble_eq_true rfl) ⟨Nat.le_of_ble_eq_true rfl, Nat.le_of_ble_eq_true rfl⟩ (fun v73 g73 h73 => ?_)
                  obtain ⟨rfl, rfl⟩ := h73
                  refine q_top (show Value.int _ = Value.int _ from congrArg Value.int (nv_mknots _ (by omega) r (by omega) (by omega))) ?_
                  refine q_icmpgeN C (tgt := 125) dX5_used_76 (by decide) (by omega) (by omega) (fun c76 => ?_) (fun c76 => ?_)
                  · refine q_iinc1 C dX5_used_125 rfl (by decide) rfl ?_
                    refine q_goto C (tgt := 42) dX5_used_128 (by decide) ?_
                    exact q_mask [true, true, true, true, true, false] (ih_r () _ _ ⟨rfl, fun q hq => (h4.1 q hq).trans (hI2 q hq)⟩)
                  · exact absurd c76 (by omega)
            · intro a2 X2 Y2 hI_r
              obtain ⟨rfl, hI2⟩ := hI_r
              refine q_iload C dX5_used_42 rfl ?_
              refine q_aload_n C dX5_used_44 rfl ?_
              refine x_getR C (ci := 5) (k := 4) (C0 := RX5) (T := TX5) (NF := 15) (ref := RX5) (host := RX4) dX5_used_45 fr_Mrow rfl iX5_used_X5 (by decide) (List.mem_of_getElem? (i := 2) rfl) rfl ?_
              refine q_iload_n C dX5_used_48 rfl ?_
              refine x_ialdN C dX5_used_49 ia_Mrow (by decide) (by omega) ?_
              refine q_top (show Value.int _ = Value.int _ from congrArg Value.int ((congrFun (hI2 190 (by decide)) b').trans hrw)) ?_
              refine q_icmpgeN C (tgt := 131) dX5_used_50 (by decide) (by omega) (by omega) (fun c50 => ?_) (fun c50 => ?_)
              · refine q_iload_n C dX5_used_131 rfl ?_
                exact q_iret C dX5_used_132 ⟨_, rfl, Or.inr (Or.inr ⟨⟨hc2, hc29⟩, trivial, _, rfl, (congrFun (hI2 188 (by decide)) 0).trans kb_thr_at, by rw [eb, kb_tn_nI (by omega)], (kb_MS.thr X _).trans ⟨fun n a _ => hI2 n (by omega), hI2 201 (by decide), fun k _ => by rw [hI2 188 (by decide)]⟩⟩)⟩
              · exact absurd c50 (by omega)
          · exact absurd c32 (by decide)
        · refine q_ifne C (tgt := 37) dX5_used_32 (by decide) (fun c32 => ?_) (fun c32 => ?_)
          · exact absurd (show nI 0 = 0 by decide) c32
          · refine q_iconst C (v := nI 0) dX5_used_35 (by decide) ?_
            exact q_iret C dX5_used_36 ⟨_, rfl, Or.inl ⟨fun h => hc29 h.2, by rw [kb_thr_thr]⟩⟩
      refine q_iload_n C dX5_used_9 rfl ?_
      refine q_iflt C (tgt := 27) dX5_used_10 (by decide) (fun c10 => ?_) (fun c10 => ?_)
      · refine q_iconst C (v := nI 0) dX5_used_27 (by decide) ?_
        exact J28 _ (by rw [eb]; first | exact Or.inl ⟨rfl, c10, c20⟩ | exact Or.inr ⟨rfl, fun h => h.1 c10⟩ | exact Or.inr ⟨rfl, fun h => h.2 c20⟩)
      · refine q_iload_n C dX5_used_13 rfl ?_
        refine q_aload_n C dX5_used_14 rfl ?_
        refine x_getR C (ci := 5) (k := 3) (C0 := RX5) (T := TX5) (NF := 15) (ref := RX5) (host := RX4) dX5_used_15 fr_Mthr rfl iX5_used_X5 (by decide) (List.mem_of_getElem? (i := 1) rfl) rfl ?_
        refine q_iload_n C dX5_used_18 rfl ?_
        refine x_ialdN C dX5_used_19 ia_Mthr (by decide) (by omega) ?_
        refine q_icmpge C (tgt := 27) dX5_used_20 (by decide) (fun c20 => ?_) (fun c20 => ?_)
        · refine q_iconst C (v := nI 0) dX5_used_27 (by decide) ?_
          exact J28 _ (by rw [eb]; first | exact Or.inl ⟨rfl, c10, c20⟩ | exact Or.inr ⟨rfl, fun h => h.1 c10⟩ | exact Or.inr ⟨rfl, fun h => h.2 c20⟩)
        · refine q_iconst C (v := nI 1) dX5_used_23 (by decide) ?_
          refine q_goto C (tgt := 28) dX5_used_24 (by decide) ?_
          exact J28 _ (by rw [eb]; first | exact Or.inl ⟨rfl, c10, c20⟩ | exact Or.inr ⟨rfl, fun h => h.1 c10⟩ | exact Or.inr ⟨rfl, fun h => h.2 c20⟩)
  · refine q_ifeq C (tgt := 35) dX5_used_5 (by decide) (fun c5 => ?_) (fun c5 => ?_)
    · refine q_iconst C (v := nI 0) dX5_used_35 (by decide) ?_
      exact q_iret C dX5_used_36 ⟨_, rfl, Or.inl ⟨fun h => hc2 h.1, rfl⟩⟩
    · exact absurd (show nI 0 = 0 by decide) c5
/-- do knots r, k of bands b, d show unlike colours -/
def kb_unl (X : Nat → Nat → Int32) (b d n r k : Nat) : Nat := if X 191 (6 * b + kb_sh (kb_mkd X b) n r k) = X 191 (6 * d + kb_sh (kb_mkd X d) n r k) then 0 else 1
theorem iX5_unlike_X5 : ∀ w ∈ wsX50, w ∈ wsX5_unlike := fun _ h => List.mem_cons_of_mem _ (by first | exact h | exact List.mem_append_right _ h | exact List.mem_append_left _ (List.mem_append_right _ h) | exact List.mem_append_left _ (List.mem_append_left _ (List.mem_append_right _ h)) | exact List.mem_append_left _ (List.mem_append_left _ (List.mem_append_left _ (List.mem_append_right _ h))) | exact List.mem_append_left _ (List.mem_append_left _ (List.mem_append_left _ (List.mem_append_left _ (List.mem_append_right _ h)))) | exact List.mem_append_left _ (List.mem_append_left _ (List.mem_append_left _ (List.mem_append_left _ (List.mem_append_left _ (List.mem_append_right _ h))))))
set_option maxRecDepth 100000 in
set_option maxHeartbeats 4000000 in
/-- X5.unlike -/
theorem m_munlike (l : Launch) (E : kb_E) (X : Nat → Nat → Int32) (Y : Nat → Nat → Int64) (b d : Int32) (hMI : kb_MI X) : kb_Met l E 202 yX5_unlike wsX5_unlike ({ frames := 3, cells := 0, slots := 0, locals := 70 }) [.ref (E.2.2.2 188), .int b, .int d] (kb_ent E X Y) (kb_out E X Y (kb_okB X b ∧ (kb_okB X d)) (X 189 (kb_tn b) = X 189 (kb_tn d) ∧ X 190 (kb_tn b) = X 190 (kb_tn d)) (fun v X' => v = nI (kb_cnt (fun r k => kb_unl X (kb_tn b) (kb_tn d) (kb_tn (X 189 (kb_tn b))) r k) (kb_tn (X 189 (kb_tn b))) (kb_tn (X 190 (kb_tn b)))) ∧ kb_MS X X')) := by
  refine kb_enter (cc := cX5_unlike) (maxL := 6) (ret := (some .int)) (by decide +kernel) rfl (by simp [Value.category]) (Nat.le_of_ble_eq_true rfl) ?_
  intro p e s m args below meth c C hini
  refine q_aload_n C dX5_unlike_0 rfl ?_
  refine q_iload_n C dX5_unlike_1 rfl ?_
  refine x_callV (As := [_]) (nA := 1) (T := TX5) (NF := 15) C dX5_unlike_2 ob_M rfl (m_isBand _ _ X Y b) gX5_unlike_X5_isBand rfl (by decide +kernel) rfl ⟨Nat.le_of_ble_eq_true rfl, Nat.le_of_ble_eq_true rfl⟩ (Nat.le_of_ble_eq_true rfl) ⟨Nat.le_of_ble_eq_true rfl, Nat.le_of_ble_eq_true rfl⟩ (fun v2 g2 h2 => ?_)
  rcases h2 with ⟨hc2, rfl, rfl⟩ | ⟨hc2, rfl, rfl⟩
  · obtain ⟨b', hb', rfl, hb8⟩ := kb_okB_nat hMI hc2
    have eb : kb_tn (nI b') = b' := kb_tn_nI (by omega)
    have hnb := hMI.2.1 b' hb'
    refine q_ifeq C (tgt := 76) dX5_unlike_5 (by decide) (fun c5 => ?_) (fun c5 => ?_)
    · exact absurd c5 (by decide)
    · refine q_aload_n C dX5_unlike_8 rfl ?_
      refine q_cut 26 (P := kb_flag (kb_okB X d)) (fun f26 hf26 => ?_) (fun J26 => ?_)
      · refine q_iconst C (v := nI 1) dX5_unlike_26 (by decide) ?_
        refine x_callV (As := [_, _]) (nA := 2) (T := TX5) (NF := 15) C dX5_unlike_27 ob_M rfl (m_right _ _ (kb_thr X (nI 0)) Y ((kb_okB X d)) _ _ (by exact kb_thr_at) (by decide) hf26) gX5_unlike_X5_right rfl (by decide +kernel) rfl ⟨Nat.le_of_ble_eq_true rfl, Nat.le_of_ble_eq_true rfl⟩ (Nat.le_of_ble_eq_true rfl) ⟨Nat.le_of_ble_eq_true rfl, Nat.le_of_ble_eq_true rfl⟩ (fun v27 g27 h27 => ?_)
        rcases h27 with ⟨hc27, rfl, rfl⟩ | ⟨hc27, rfl, rfl⟩
        · obtain ⟨d', hd', rfl, hd8⟩ := kb_okB_nat hMI hc27
          have ed : kb_tn (nI d') = d' := kb_tn_nI (by omega)
          have hnd := hMI.2.1 d' hd'
          refine q_ifeq C (tgt := 76) dX5_unlike_30 (by decide) (fun c30 => ?_) (fun c30 => ?_)
          · exact absurd c30 (by decide)
          · refine q_aload_n C dX5_unlike_33 rfl ?_
            refine q_cut 69 (P := kb_flag (X 189 (kb_tn (nI b')) = X 189 (kb_tn (nI d')) ∧ X 190 (kb_tn (nI b')) = X 190 (kb_tn (nI d')))) (fun f69 hf69 => ?_) (fun J69 => ?_)
            · refine q_iconst C (v := nI 2) dX5_unlike_69 (by decide) ?_
              refine x_callV (As := [_, _]) (nA := 2) (T := TX5) (NF := 15) C dX5_unlike_70 ob_M rfl (m_right _ _ (kb_thr X (nI 0)) Y ((X 189 (kb_tn (nI b')) = X 189 (kb_tn (nI d')) ∧ X 190 (kb_tn (nI b')) = X 190 (kb_tn (nI d')))) _ _ (by exact kb_thr_at) (by decide) hf69) gX5_unlike_X5_right rfl (by decide +kernel) rfl ⟨Nat.le_of_ble_eq_true rfl, Nat.le_of_ble_eq_true rfl⟩ (Nat.le_of_ble_eq_true rfl) ⟨Nat.le_of_ble_eq_true rfl, Nat.le_of_ble_eq_true rfl⟩ (fun v70 g70 h70 => ?_)
              rcases h70 with ⟨hc70, rfl, rfl⟩ | ⟨hc70, rfl, rfl⟩
              · have hc70' := hc70
                rw [eb, ed] at hc70'
                have hth : kb_thr X (nI 0) 189 b' = nI (kb_tn (X 189 b')) := by rw [kb_thr_ne (by decide)]; exact hnb.1.1
                have hrw : kb_thr X (nI 0) 190 b' = nI (kb_tn (X 190 b')) := by rw [kb_thr_ne (by decide)]; exact hnb.2.2.1
                have hr16 : kb_tn (X 190 b') ≤ 16 := hnb.2.2.2
                have hn6 : kb_tn (X 189 b') ≤ 6 := hnb.1.2
                have hn2 : 2 ≤ kb_tn (X 189 b') := hnb.2.1
                have hkd : ∀ r, r < 16 → ∀ k, k < 3 → kb_thr X (nI 0) 192 (48 * b' + 3 * r + k) = nI (kb_mkd X b' r k) ∧ kb_mkd X b' r k < 4 := fun r hr k hk => by rw [kb_thr_ne (by decide)]; exact ⟨(hMI.2.2.2.1 _ (by omega)).1, Nat.lt_succ_of_le (hMI.2.2.2.1 _ (by omega)).2⟩
                have hthD : kb_thr X (nI 0) 189 d' = nI (kb_tn (X 189 d')) := by rw [kb_thr_ne (by decide)]; exact hnd.1.1
                have hrwD : kb_thr X (nI 0) 190 d' = nI (kb_tn (X 190 d')) := by rw [kb_thr_ne (by decide)]; exact hnd.2.2.1
                have hr16D : kb_tn (X 190 d') ≤ 16 := hnd.2.2.2
                have hn6D : kb_tn (X 189 d') ≤ 6 := hnd.1.2
                have hn2D : 2 ≤ kb_tn (X 189 d') := hnd.2.1
                have hkdD : ∀ r, r < 16 → ∀ k, k < 3 → kb_thr X (nI 0) 192 (48 * d' + 3 * r + k) = nI (kb_mkd X d' r k) ∧ kb_mkd X d' r k < 4 := fun r hr k hk => by rw [kb_thr_ne (by decide)]; exact ⟨(hMI.2.2.2.1 _ (by omega)).1, Nat.lt_succ_of_le (hMI.2.2.2.1 _ (by omega)).2⟩
                rw [← hc70'.1] at hthD
                rw [← hc70'.1] at hn6D hn2D
                refine q_ifne C (tgt := 78) dX5_unlike_73 (by decide) (fun c73 => ?_) (fun c73 => ?_)
                · refine q_iconst C (v := nI 0) dX5_unlike_78 (by decide) ?_
                  refine q_istore_n C dX5_unlike_79 (by decide) rfl ?_
                  refine q_iconst C (v := nI 0) dX5_unlike_80 (by decide) ?_
                  refine q_istore C dX5_unlike_81 (by decide) rfl ?_
                  refine q_mask [true, true, true, true, true, false] (q_for (σ := Unit) (k0 := 0) (kb_tn (X 190 b')) (fun r _ X' Y' => Y = Y' ∧ ∀ q, q ≠ 197 → X' q = kb_thr X (nI 0) q) (fun r _ => [some (.ref (E.2.2.2 188)), some (.int (nI b')), some (.int (nI d')), some (.int (nI (kb_cnt (fun r k => kb_unl X b' d' (kb_tn (X 189 b')) r k) (kb_tn (X 189 b')) r))), some (.int (nI r)), none]) (Nat.zero_le _) () (⟨rfl, fun _ _ => rfl⟩) ?_ ?_)
                  · intro r a2 X2 Y2 hk_r hk0_r hI_r ih_r
                    obtain ⟨rfl, hI2⟩ := hI_r
                    have hkn3 : kb_kn (kb_tn (X 189 b')) r ≤ 3 := kb_kn_le hn6
                    refine q_iload C dX5_unlike_83 rfl ?_
                    refine q_aload_n C dX5_unlike_85 rfl ?_
                    refine x_getR C (ci := 5) (k := 4) (C0 := RX5) (T := TX5) (NF := 15) (ref := RX5) (host := RX4) dX5_unlike_86 fr_Mrow rfl iX5_unlike_X5 (by decide) (List.mem_of_getElem? (i := 3) rfl) rfl ?_
                    refine q_iload_n C dX5_unlike_89 rfl ?_
                    refine x_ialdN C dX5_unlike_90 ia_Mrow (by decide) (by omega) ?_
                    refine q_top (show Value.int _ = Value.int _ from congrArg Value.int ((congrFun (hI2 190 (by decide)) b').trans hrw)) ?_
                    refine q_icmpgeN C (tgt := 149) dX5_unlike_91 (by decide) (by omega) (by omega) (fun c91 => ?_) (fun c91 => ?_)
                    · exact absurd c91 (by omega)
                    · refine q_iconst C (v := nI 0) dX5_unlike_94 (by decide) ?_
                      refine q_istore C dX5_unlike_95 (by decide) rfl ?_
                      refine q_mask [true, true, true, true, true, true] (q_for (σ := Unit) (k0 := 0) (kb_kn (kb_tn (X 189 b')) r) (fun k _ X' Y' => Y = Y' ∧ ∀ q, q ≠ 197 → X' q = kb_thr X (nI 0) q) (fun k _ => [some (.ref (E.2.2.2 188)), some (.int (nI b')), some (.int (nI d')), some (.int (nI (kb_cnt (fun r k => kb_unl X b' d' (kb_tn (X 189 b')) r k) (kb_tn (X 189 b')) r + kb_cntR (fun r k => kb_unl X b' d' (kb_tn (X 189 b')) r k) r k))), some (.int (nI r)), some (.int (nI k))]) (Nat.zero_le _) () (⟨rfl, hI2⟩) ?_ ?_)
                      · intro k2 a3 X3 Y3 hk_k2 hk0_k2 hI_k2 ih_k2
                        obtain ⟨rfl, hI3⟩ := hI_k2
                        refine q_iload C dX5_unlike_97 rfl ?_
                        refine q_aload_n C dX5_unlike_99 rfl ?_
                        refine x_getR C (ci := 5) (k := 3) (C0 := RX5) (T := TX5) (NF := 15) (ref := RX5) (host := RX4) dX5_unlike_100 fr_Mthr rfl iX5_unlike_X5 (by decide) (List.mem_of_getElem? (i := 2) rfl) rfl ?_
                        refine q_iload_n C dX5_unlike_103 rfl ?_
                        refine x_ialdN C dX5_unlike_104 ia_Mthr (by decide) (by omega) ?_
                        refine q_top (show Value.int _ = Value.int _ from congrArg Value.int ((congrFun (hI3 189 (by decide)) b').trans hth)) ?_
                        refine q_iload C dX5_unlike_105 rfl ?_
                        refine q_callS (As := [_, _]) (nA := 2) C dX5_unlike_107 (m_mknots _ _ _ _ _) gX5_unlike_X5_knots rfl (by decide +kernel) rfl ⟨Nat.le_of_ble_eq_true rfl, Nat.le_of_ble_eq_true rfl⟩ (Nat.le_of_ble_eq_true rfl) ⟨Nat.le_of_ble_eq_true rfl, Nat.le_of_ble_eq_true rfl⟩ (fun v107 g107 h107 => ?_)
                        obtain ⟨rfl, rfl⟩ := h107
                        refine q_top (show Value.int _ = Value.int _ from congrArg Value.int (nv_mknots _ (by omega) r (by omega) (by omega))) ?_
                        refine q_icmpgeN C (tgt := 143) dX5_unlike_110 (by decide) (by omega) (by omega) (fun c110 => ?_) (fun c110 => ?_)
                        · exact absurd c110 (by omega)
                        · refine q_aload_n C dX5_unlike_113 rfl ?_
                          refine q_iload_n C dX5_unlike_114 rfl ?_
                          refine q_iload C dX5_unlike_115 rfl ?_
                          refine q_iload C dX5_unlike_117 rfl ?_
                          refine x_callV (As := [_, _, _]) (nA := 3) (T := TX5) (NF := 15) C dX5_unlike_119 ob_M rfl (m_showsOf _ _ X3 Y b' (kb_tn (X 189 b')) r k2 hb8 hn6 hn2 (by omega) hk_k2 ((congrFun (hI3 189 (by decide)) b').trans hth) (kb_mkd X b') (by rw [hI3 192 (by decide)]; exact hkd)) gX5_unlike_X5_showsOf rfl (by decide +kernel) rfl ⟨Nat.le_of_ble_eq_true rfl, Nat.le_of_ble_eq_true rfl⟩ (Nat.le_of_ble_eq_true rfl) ⟨Nat.le_of_ble_eq_true rfl, Nat.le_of_ble_eq_true rfl⟩ (fun v119 g119 h119 => ?_)
                          obtain ⟨rfl, X4, rfl, h4⟩ := h119
                          refine q_aload_n C dX5_unlike_122 rfl ?_
                          refine q_iload_n C dX5_unlike_123 rfl ?_
                          refine q_iload C dX5_unlike_124 rfl ?_
                          refine q_iload C dX5_unlike_126 rfl ?_
                          refine x_callV (As := [_, _, _]) (nA := 3) (T := TX5) (NF := 15) C dX5_unlike_128 ob_M rfl (m_showsOf _ _ X4 Y d' (kb_tn (X 189 b')) r k2 hd8 hn6 hn2 (by omega) hk_k2 ((congrFun (h4.1 189 (by decide)) d').trans ((congrFun (hI3 189 (by decide)) d').trans hthD)) (kb_mkd X d') (by rw [h4.1 192 (by decide), hI3 192 (by decide)]; exact hkdD)) gX5_unlike_X5_showsOf rfl (by decide +kernel) rfl ⟨Nat.le_of_ble_eq_true rfl, Nat.le_of_ble_eq_true rfl⟩ (Nat.le_of_ble_eq_true rfl) ⟨Nat.le_of_ble_eq_true rfl, Nat.le_of_ble_eq_true rfl⟩ (fun v128 g128 h128 => ?_)
                          obtain ⟨rfl, X5, rfl, h5⟩ := h128
                          refine q_icmpeq C (tgt := 137) dX5_unlike_131 (by decide) (fun c131 => ?_) (fun c131 => ?_)
                          · refine q_iinc1 C dX5_unlike_137 rfl (by decide) rfl ?_
                            refine q_goto C (tgt := 97) dX5_unlike_140 (by decide) ?_
                            have e191 : X4 191 = X 191 := (h4.1 191 (by decide)).trans ((hI3 191 (by decide)).trans (kb_thr_ne (by decide)))
                            have e191' : X3 191 = X 191 := (hI3 191 (by decide)).trans (kb_thr_ne (by decide))
                            rw [e191, e191'] at c131
                            first
                            | (have eu : kb_unl X b' d' (kb_tn (X 189 b')) r k2 = 0 := by unfold kb_unl; rw [if_pos c131]
                               have eU : kb_cnt (fun r k => kb_unl X b' d' (kb_tn (X 189 b')) r k) (kb_tn (X 189 b')) r + kb_cntR (fun r k => kb_unl X b' d' (kb_tn (X 189 b')) r k) r k2 = kb_cnt (fun r k => kb_unl X b' d' (kb_tn (X 189 b')) r k) (kb_tn (X 189 b')) r + kb_cntR (fun r k => kb_unl X b' d' (kb_tn (X 189 b')) r k) r (k2 + 1) := (congrArg (fun z => kb_cnt (fun r k => kb_unl X b' d' (kb_tn (X 189 b')) r k) (kb_tn (X 189 b')) r + (kb_cntR (fun r k => kb_unl X b' d' (kb_tn (X 189 b')) r k) r k2 + z)) eu.symm)
                               rw [eU])
                            | (have eu : kb_unl X b' d' (kb_tn (X 189 b')) r k2 = 1 := by unfold kb_unl; rw [if_neg c131]
                               have eU : kb_cnt (fun r k => kb_unl X b' d' (kb_tn (X 189 b')) r k) (kb_tn (X 189 b')) r + kb_cntR (fun r k => kb_unl X b' d' (kb_tn (X 189 b')) r k) r k2 + 1 = kb_cnt (fun r k => kb_unl X b' d' (kb_tn (X 189 b')) r k) (kb_tn (X 189 b')) r + kb_cntR (fun r k => kb_unl X b' d' (kb_tn (X 189 b')) r k) r (k2 + 1) := (Nat.add_assoc _ _ _).trans (congrArg (fun z => kb_cnt (fun r k => kb_unl X b' d' (kb_tn (X 189 b')) r k) (kb_tn (X 189 b')) r + (kb_cntR (fun r k => kb_unl X b' d' (kb_tn (X 189 b')) r k) r k2 + z)) eu.symm)
                               rw [eU])
                            exact q_mask [true, true, true, true, true, true] (ih_k2 () _ _ ⟨rfl, fun q hq => (h5.1 q hq).trans ((h4.1 q hq).trans (hI3 q hq))⟩)
                          · refine q_iinc1 C dX5_unlike_134 rfl (by decide) rfl ?_
                            refine q_iinc1 C dX5_unlike_137 rfl (by decide) rfl ?_
                            refine q_goto C (tgt := 97) dX5_unlike_140 (by decide) ?_
                            have e191 : X4 191 = X 191 := (h4.1 191 (by decide)).trans ((hI3 191 (by decide)).trans (kb_thr_ne (by decide)))
                            have e191' : X3 191 = X 191 := (hI3 191 (by decide)).trans (kb_thr_ne (by decide))
                            rw [e191, e191'] at c131
                            first
                            | (have eu : kb_unl X b' d' (kb_tn (X 189 b')) r k2 = 0 := by unfold kb_unl; rw [if_pos c131]
                               have eU : kb_cnt (fun r k => kb_unl X b' d' (kb_tn (X 189 b')) r k) (kb_tn (X 189 b')) r + kb_cntR (fun r k => kb_unl X b' d' (kb_tn (X 189 b')) r k) r k2 = kb_cnt (fun r k => kb_unl X b' d' (kb_tn (X 189 b')) r k) (kb_tn (X 189 b')) r + kb_cntR (fun r k => kb_unl X b' d' (kb_tn (X 189 b')) r k) r (k2 + 1) := (congrArg (fun z => kb_cnt (fun r k => kb_unl X b' d' (kb_tn (X 189 b')) r k) (kb_tn (X 189 b')) r + (kb_cntR (fun r k => kb_unl X b' d' (kb_tn (X 189 b')) r k) r k2 + z)) eu.symm)
                               rw [eU])
                            | (have eu : kb_unl X b' d' (kb_tn (X 189 b')) r k2 = 1 := by unfold kb_unl; rw [if_neg c131]
                               have eU : kb_cnt (fun r k => kb_unl X b' d' (kb_tn (X 189 b')) r k) (kb_tn (X 189 b')) r + kb_cntR (fun r k => kb_unl X b' d' (kb_tn (X 189 b')) r k) r k2 + 1 = kb_cnt (fun r k => kb_unl X b' d' (kb_tn (X 189 b')) r k) (kb_tn (X 189 b')) r + kb_cntR (fun r k => kb_unl X b' d' (kb_tn (X 189 b')) r k) r (k2 + 1) := (Nat.add_assoc _ _ _).trans (congrArg (fun z => kb_cnt (fun r k => kb_unl X b' d' (kb_tn (X 189 b')) r k) (kb_tn (X 189 b')) r + (kb_cntR (fun r k => kb_unl X b' d' (kb_tn (X 189 b')) r k) r k2 + z)) eu.symm)
                               rw [eU])
                            exact q_mask [true, true, true, true, true, true] (ih_k2 () _ _ ⟨rfl, fun q hq => (h5.1 q hq).trans ((h4.1 q hq).trans (hI3 q hq))⟩)
                      · intro a3 X3 Y3 hI_k2
                        obtain ⟨rfl, hI3⟩ := hI_k2
                        refine q_iload C dX5_unlike_97 rfl ?_
                        refine q_aload_n C dX5_unlike_99 rfl ?_
                        refine x_getR C (ci := 5) (k := 3) (C0 := RX5) (T := TX5) (NF := 15) (ref := RX5) (host := RX4) dX5_unlike_100 fr_Mthr rfl iX5_unlike_X5 (by decide) (List.mem_of_getElem? (i := 2) rfl) rfl ?_
                        refine q_iload_n C dX5_unlike_103 rfl ?_
                        refine x_ialdN C dX5_unlike_104 ia_Mthr (by decide) (by omega) ?_
                        refine q_top (show Value.int _ = Value.int _ from congrArg Value.int ((congrFun (hI3 189 (by decide)) b').trans hth)) ?_
                        refine q_iload C dX5_unlike_105 rfl ?_
                        refine q_callS (As := [_, _]) (nA := 2) C dX5_unlike_107 (m_mknots _ _ _ _ _) gX5_unlike_X5_knots rfl (by decide +kernel) rfl ⟨Nat.le_of_ble_eq_true rfl, Nat.le_of_ble_eq_true rfl⟩ (Nat.le_of_ble_eq_true rfl) ⟨Nat.le_of_ble_eq_true rfl, Nat.le_of_ble_eq_true rfl⟩ (fun v107 g107 h107 => ?_)
                        obtain ⟨rfl, rfl⟩ := h107
                        refine q_top (show Value.int _ = Value.int _ from congrArg Value.int (nv_mknots _ (by omega) r (by omega) (by omega))) ?_
                        refine q_icmpgeN C (tgt := 143) dX5_unlike_110 (by decide) (by omega) (by omega) (fun c110 => ?_) (fun c110 => ?_)
                        · refine q_iinc1 C dX5_unlike_143 rfl (by decide) rfl ?_
                          refine q_goto C (tgt := 83) dX5_unlike_146 (by decide) ?_
                          exact q_mask [true, true, true, true, true, false] (ih_r () _ _ ⟨rfl, hI3⟩)
                        · exact absurd c110 (by omega)
                  · intro a2 X2 Y2 hI_r
                    obtain ⟨rfl, hI2⟩ := hI_r
                    refine q_iload C dX5_unlike_83 rfl ?_
                    refine q_aload_n C dX5_unlike_85 rfl ?_
                    refine x_getR C (ci := 5) (k := 4) (C0 := RX5) (T := TX5) (NF := 15) (ref := RX5) (host := RX4) dX5_unlike_86 fr_Mrow rfl iX5_unlike_X5 (by decide) (List.mem_of_getElem? (i := 3) rfl) rfl ?_
                    refine q_iload_n C dX5_unlike_89 rfl ?_
                    refine x_ialdN C dX5_unlike_90 ia_Mrow (by decide) (by omega) ?_
                    refine q_top (show Value.int _ = Value.int _ from congrArg Value.int ((congrFun (hI2 190 (by decide)) b').trans hrw)) ?_
                    refine q_icmpgeN C (tgt := 149) dX5_unlike_91 (by decide) (by omega) (by omega) (fun c91 => ?_) (fun c91 => ?_)
                    · refine q_iload_n C dX5_unlike_149 rfl ?_
                      exact q_iret C dX5_unlike_150 ⟨_, rfl, Or.inr (Or.inr ⟨⟨hc2, hc27⟩, hc70, _, rfl, (congrFun (hI2 188 (by decide)) 0).trans kb_thr_at, by rw [eb, ed], (kb_MS.thr X _).trans ⟨fun n a _ => hI2 n (by omega), hI2 201 (by decide), fun k _ => by rw [hI2 188 (by decide)]⟩⟩)⟩
                    · exact absurd c91 (by omega)
                · exact absurd c73 (by decide)
              · refine q_ifne C (tgt := 78) dX5_unlike_73 (by decide) (fun c73 => ?_) (fun c73 => ?_)
                · exact absurd (show nI 0 = 0 by decide) c73
                · refine q_iconst C (v := nI 0) dX5_unlike_76 (by decide) ?_
                  exact q_iret C dX5_unlike_77 ⟨_, rfl, Or.inr (Or.inl ⟨⟨hc2, hc27⟩, fun h => hc70 h, by rw [kb_thr_thr]⟩)⟩
            refine q_aload_n C dX5_unlike_34 rfl ?_
            refine x_getR C (ci := 5) (k := 3) (C0 := RX5) (T := TX5) (NF := 15) (ref := RX5) (host := RX4) dX5_unlike_35 fr_Mthr rfl iX5_unlike_X5 (by decide) (List.mem_of_getElem? (i := 2) rfl) rfl ?_
            refine q_iload_n C dX5_unlike_38 rfl ?_
            refine x_ialdN C dX5_unlike_39 ia_Mthr (by decide) (by omega) ?_
            refine q_aload_n C dX5_unlike_40 rfl ?_
            refine x_getR C (ci := 5) (k := 3) (C0 := RX5) (T := TX5) (NF := 15) (ref := RX5) (host := RX4) dX5_unlike_41 fr_Mthr rfl iX5_unlike_X5 (by decide) (List.mem_of_getElem? (i := 2) rfl) rfl ?_
            refine q_iload_n C dX5_unlike_44 rfl ?_
            refine x_ialdN C dX5_unlike_45 ia_Mthr (by decide) (by omega) ?_
            refine q_icmpne C (tgt := 68) dX5_unlike_46 (by decide) (fun c46 => ?_) (fun c46 => ?_)
            · refine q_iconst C (v := nI 0) dX5_unlike_68 (by decide) ?_
              exact J69 _ (by rw [eb, ed]; first | exact Or.inl ⟨rfl, c46, c61⟩ | exact Or.inr ⟨rfl, fun h => c46 h.1⟩ | exact Or.inr ⟨rfl, fun h => c61 h.2⟩)
            · refine q_aload_n C dX5_unlike_49 rfl ?_
              refine x_getR C (ci := 5) (k := 4) (C0 := RX5) (T := TX5) (NF := 15) (ref := RX5) (host := RX4) dX5_unlike_50 fr_Mrow rfl iX5_unlike_X5 (by decide) (List.mem_of_getElem? (i := 3) rfl) rfl ?_
              refine q_iload_n C dX5_unlike_53 rfl ?_
              refine x_ialdN C dX5_unlike_54 ia_Mrow (by decide) (by omega) ?_
              refine q_aload_n C dX5_unlike_55 rfl ?_
              refine x_getR C (ci := 5) (k := 4) (C0 := RX5) (T := TX5) (NF := 15) (ref := RX5) (host := RX4) dX5_unlike_56 fr_Mrow rfl iX5_unlike_X5 (by decide) (List.mem_of_getElem? (i := 3) rfl) rfl ?_
              refine q_iload_n C dX5_unlike_59 rfl ?_
              refine x_ialdN C dX5_unlike_60 ia_Mrow (by decide) (by omega) ?_
              refine q_icmpne C (tgt := 68) dX5_unlike_61 (by decide) (fun c61 => ?_) (fun c61 => ?_)
              · refine q_iconst C (v := nI 0) dX5_unlike_68 (by decide) ?_
                exact J69 _ (by rw [eb, ed]; first | exact Or.inl ⟨rfl, c46, c61⟩ | exact Or.inr ⟨rfl, fun h => c46 h.1⟩ | exact Or.inr ⟨rfl, fun h => c61 h.2⟩)
              · refine q_iconst C (v := nI 1) dX5_unlike_64 (by decide) ?_
                refine q_goto C (tgt := 69) dX5_unlike_65 (by decide) ?_
                exact J69 _ (by rw [eb, ed]; first | exact Or.inl ⟨rfl, c46, c61⟩ | exact Or.inr ⟨rfl, fun h => c46 h.1⟩ | exact Or.inr ⟨rfl, fun h => c61 h.2⟩)
        · refine q_ifeq C (tgt := 76) dX5_unlike_30 (by decide) (fun c30 => ?_) (fun c30 => ?_)
          · refine q_iconst C (v := nI 0) dX5_unlike_76 (by decide) ?_
            exact q_iret C dX5_unlike_77 ⟨_, rfl, Or.inl ⟨fun h => hc27 h.2, by rw [kb_thr_thr]⟩⟩
          · exact absurd (show nI 0 = 0 by decide) c30
      refine q_iload_n C dX5_unlike_9 rfl ?_
      refine q_iflt C (tgt := 25) dX5_unlike_10 (by decide) (fun c10 => ?_) (fun c10 => ?_)
      · refine q_iconst C (v := nI 0) dX5_unlike_25 (by decide) ?_
        exact J26 _ (by first | exact Or.inl ⟨rfl, c10, c18⟩ | exact Or.inr ⟨rfl, fun h => h.1 c10⟩ | exact Or.inr ⟨rfl, fun h => h.2 c18⟩)
      · refine q_iload_n C dX5_unlike_13 rfl ?_
        refine q_aload_n C dX5_unlike_14 rfl ?_
        refine x_getI C (ci := 5) (k := 1) (C0 := RX5) (T := TX5) (NF := 15) (ref := RX5) (host := RX4) dX5_unlike_15 fi_Mbc rfl iX5_unlike_X5 (by decide) (List.mem_of_getElem? (i := 1) rfl) rfl ?_
        refine q_icmpge C (tgt := 25) dX5_unlike_18 (by decide) (fun c18 => ?_) (fun c18 => ?_)
        · refine q_iconst C (v := nI 0) dX5_unlike_25 (by decide) ?_
          exact J26 _ (by first | exact Or.inl ⟨rfl, c10, c18⟩ | exact Or.inr ⟨rfl, fun h => h.1 c10⟩ | exact Or.inr ⟨rfl, fun h => h.2 c18⟩)
        · refine q_iconst C (v := nI 1) dX5_unlike_21 (by decide) ?_
          refine q_goto C (tgt := 26) dX5_unlike_22 (by decide) ?_
          exact J26 _ (by first | exact Or.inl ⟨rfl, c10, c18⟩ | exact Or.inr ⟨rfl, fun h => h.1 c10⟩ | exact Or.inr ⟨rfl, fun h => h.2 c18⟩)
  · refine q_ifeq C (tgt := 76) dX5_unlike_5 (by decide) (fun c5 => ?_) (fun c5 => ?_)
    · refine q_iconst C (v := nI 0) dX5_unlike_76 (by decide) ?_
      exact q_iret C dX5_unlike_77 ⟨_, rfl, Or.inl ⟨fun h => hc2 h.1, rfl⟩⟩
    · exact absurd (show nI 0 = 0 by decide) c5

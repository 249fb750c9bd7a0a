/-! ===== the reference: copy, row, picture, home ===== -/
/-- picture p has got the colours that band d shows in the knots for which P holds, and keeps the others -/
def kb_cpd (X X' : Nat → Nat → Int32) (p d n : Nat) (P : Nat → Nat → Prop) : Prop := (∀ q, q ≠ 197 → q ≠ 195 → X' q = kb_thr X (nI 0) q) ∧ (∀ r k, P r k → X' 195 (48 * p + 3 * r + k) = X 191 (6 * d + kb_sh (kb_mkd X d) n r k)) ∧ ∀ q, (∀ r k, P r k → q ≠ 48 * p + 3 * r + k) → X' 195 q = X 195 q
theorem kb_cpd.mono {X X' : Nat → Nat → Int32} {p d n : Nat} {P P' : Nat → Nat → Prop} (h : kb_cpd X X' p d n P) (hp : ∀ r k, P r k ↔ P' r k) : kb_cpd X X' p d n P' := ⟨h.1, fun r k q => h.2.1 r k ((hp r k).mpr q), fun q hq => h.2.2 q (fun r k z => hq r k ((hp r k).mp z))⟩
theorem iX5_copy_X5 : ∀ w ∈ wsX50, w ∈ wsX5_copy := fun _ h => List.mem_cons_of_mem _ (by first | exact h | exact List.mem_append_right _ h | exact List.mem_append_left _ (List.mem_append_right _ h) | exact List.mem_append_left _ (List.mem_append_left _ (List.mem_append_right _ h)) | exact List.mem_append_left _ (List.mem_append_left _ (List.mem_append_left _ (List.mem_append_right _ h))) | exact List.mem_append_left _ (List.mem_append_left _ (List.mem_append_left _ (List.mem_append_left _ (List.mem_append_right _ h)))) | exact List.mem_append_left _ (List.mem_append_left _ (List.mem_append_left _ (List.mem_append_left _ (List.mem_append_left _ (List.mem_append_right _ h))))))
set_option maxRecDepth 100000 in
set_option maxHeartbeats 4000000 in
/-- X5.copy -/
theorem m_mcopy (l : Launch) (E : kb_E) (X : Nat → Nat → Int32) (Y : Nat → Nat → Int64) (b d : Int32) (hMI : kb_MI X) : kb_Met l E 202 yX5_copy wsX5_copy ({ frames := 3, cells := 0, slots := 0, locals := 70 }) [.ref (E.2.2.2 188), .int b, .int d] (kb_ent E X Y) (kb_out E X Y (kb_okP X b ∧ (kb_okB X d)) True (fun v X' => (¬ (X 193 (kb_tn b) = X 189 (kb_tn d) ∧ X 194 (kb_tn b) = X 190 (kb_tn d)) → v = nI 0 ∧ X' = kb_thr X (nI 0)) ∧ ((X 193 (kb_tn b) = X 189 (kb_tn d) ∧ X 194 (kb_tn b) = X 190 (kb_tn d)) → v = nI 1 ∧ kb_cpd X X' (kb_tn b) (kb_tn d) (kb_tn (X 189 (kb_tn d))) (fun r' k' => r' < kb_tn (X 190 (kb_tn d)) ∧ k' < kb_kn (kb_tn (X 189 (kb_tn d))) r')))) := by
  refine kb_enter (cc := cX5_copy) (maxL := 5) (ret := (some .boolean)) (by decide +kernel) rfl (by simp [Value.category]) (Nat.le_of_ble_eq_true rfl) ?_
  intro p e s m args below meth c C hini
  refine q_aload_n C dX5_copy_0 rfl ?_
  refine q_iload_n C dX5_copy_1 rfl ?_
  refine x_callV (As := [_]) (nA := 1) (T := TX5) (NF := 15) C dX5_copy_2 ob_M rfl (m_isPicture _ _ X Y b) gX5_copy_X5_isPicture rfl (by decide +kernel) rfl ⟨Nat.le_of_ble_eq_true rfl, Nat.le_of_ble_eq_true rfl⟩ (Nat.le_of_ble_eq_true rfl) ⟨Nat.le_of_ble_eq_true rfl, Nat.le_of_ble_eq_true rfl⟩ (fun v2 g2 h2 => ?_)
  rcases h2 with ⟨hc2, rfl, rfl⟩ | ⟨hc2, rfl, rfl⟩
  · obtain ⟨b', hb', rfl, hb8⟩ := kb_okP_nat hMI hc2
    have eb : kb_tn (nI b') = b' := kb_tn_nI (by omega)
    have hnp := hMI.2.2.2.2.1 b' hb'
    refine q_ifeq C (tgt := 33) dX5_copy_5 (by decide) (fun c5 => ?_) (fun c5 => ?_)
    · exact absurd c5 (by decide)
    · refine q_aload_n C dX5_copy_8 rfl ?_
      refine q_cut 26 (P := kb_flag (kb_okB X d)) (fun f26 hf26 => ?_) (fun J26 => ?_)
      · refine q_iconst C (v := nI 1) dX5_copy_26 (by decide) ?_
        refine x_callV (As := [_, _]) (nA := 2) (T := TX5) (NF := 15) C dX5_copy_27 ob_M rfl (m_right _ _ (kb_thr X (nI 0)) Y ((kb_okB X d)) _ _ (by exact kb_thr_at) (by decide) hf26) gX5_copy_X5_right rfl (by decide +kernel) rfl ⟨Nat.le_of_ble_eq_true rfl, Nat.le_of_ble_eq_true rfl⟩ (Nat.le_of_ble_eq_true rfl) ⟨Nat.le_of_ble_eq_true rfl, Nat.le_of_ble_eq_true rfl⟩ (fun v27 g27 h27 => ?_)
        rcases h27 with ⟨hc27, rfl, rfl⟩ | ⟨hc27, rfl, rfl⟩
        · obtain ⟨d', hd', rfl, hd8⟩ := kb_okB_nat hMI hc27
          have ed : kb_tn (nI d') = d' := kb_tn_nI (by omega)
          have hnb := hMI.2.1 d' hd'
          have hth : kb_thr X (nI 0) 189 d' = nI (kb_tn (X 189 d')) := by rw [kb_thr_ne (by decide)]; exact hnb.1.1
          have hrw : kb_thr X (nI 0) 190 d' = nI (kb_tn (X 190 d')) := by rw [kb_thr_ne (by decide)]; exact hnb.2.2.1
          have hr16 : kb_tn (X 190 d') ≤ 16 := hnb.2.2.2
          have hn6 : kb_tn (X 189 d') ≤ 6 := hnb.1.2
          have hn2 : 2 ≤ kb_tn (X 189 d') := hnb.2.1
          have hkd : ∀ r, r < 16 → ∀ k, k < 3 → kb_thr X (nI 0) 192 (48 * d' + 3 * r + k) = nI (kb_mkd X d' r k) ∧ kb_mkd X d' r k < 4 := fun r hr k hk => by rw [kb_thr_ne (by decide)]; exact ⟨(hMI.2.2.2.1 _ (by omega)).1, Nat.lt_succ_of_le (hMI.2.2.2.1 _ (by omega)).2⟩
          refine q_ifne C (tgt := 35) dX5_copy_30 (by decide) (fun c30 => ?_) (fun c30 => ?_)
          · refine q_aload_n C dX5_copy_35 rfl ?_
            refine x_getR C (ci := 5) (k := 7) (C0 := RX5) (T := TX5) (NF := 15) (ref := RX5) (host := RX4) dX5_copy_36 fr_Mwid rfl iX5_copy_X5 (by decide) (List.mem_of_getElem? (i := 2) rfl) rfl ?_
            refine q_iload_n C dX5_copy_39 rfl ?_
            refine x_ialdN C dX5_copy_40 ia_Mwid (by decide) (by omega) ?_
            refine q_aload_n C dX5_copy_41 rfl ?_
            refine x_getR C (ci := 5) (k := 3) (C0 := RX5) (T := TX5) (NF := 15) (ref := RX5) (host := RX4) dX5_copy_42 fr_Mthr rfl iX5_copy_X5 (by decide) (List.mem_of_getElem? (i := 3) rfl) rfl ?_
            refine q_iload_n C dX5_copy_45 rfl ?_
            refine x_ialdN C dX5_copy_46 ia_Mthr (by decide) (by omega) ?_
            refine q_icmpne C (tgt := 65) dX5_copy_47 (by decide) (fun c47 => ?_) (fun c47 => ?_)
            · refine q_iconst C (v := nI 0) dX5_copy_65 (by decide) ?_
              exact q_zret C dX5_copy_66 (by decide) ⟨_, rfl, Or.inr (Or.inr ⟨⟨hc2, hc27⟩, trivial, _, rfl, kb_thr_at, fun _ => ⟨rfl, rfl⟩, fun h => absurd h (by rw [eb, ed]; first | exact fun q => c47 q.1 | exact fun q => c62 q.2)⟩)⟩
            · refine q_aload_n C dX5_copy_50 rfl ?_
              refine x_getR C (ci := 5) (k := 8) (C0 := RX5) (T := TX5) (NF := 15) (ref := RX5) (host := RX4) dX5_copy_51 fr_Mhig rfl iX5_copy_X5 (by decide) (List.mem_of_getElem? (i := 4) rfl) rfl ?_
              refine q_iload_n C dX5_copy_54 rfl ?_
              refine x_ialdN C dX5_copy_55 ia_Mhig (by decide) (by omega) ?_
              refine q_aload_n C dX5_copy_56 rfl ?_
              refine x_getR C (ci := 5) (k := 4) (C0 := RX5) (T := TX5) (NF := 15) (ref := RX5) (host := RX4) dX5_copy_57 fr_Mrow rfl iX5_copy_X5 (by decide) (List.mem_of_getElem? (i := 5) rfl) rfl ?_
              refine q_iload_n C dX5_copy_60 rfl ?_
              refine x_ialdN C dX5_copy_61 ia_Mrow (by decide) (by omega) ?_
              refine q_icmpeq C (tgt := 67) dX5_copy_62 (by decide) (fun c62 => ?_) (fun c62 => ?_)
              · refine q_iconst C (v := nI 0) dX5_copy_67 (by decide) ?_
                refine q_istore_n C dX5_copy_68 (by decide) rfl ?_
                refine q_mask [true, true, true, true, false] (q_for (σ := Unit) (k0 := 0) (kb_tn (X 190 d')) (fun r _ X' Y' => Y = Y' ∧ kb_cpd X X' b' d' (kb_tn (X 189 d')) (fun r' k' => r' < r ∧ k' < kb_kn (kb_tn (X 189 d')) r')) (fun r _ => [some (.ref (E.2.2.2 188)), some (.int (nI b')), some (.int (nI d')), some (.int (nI r)), none]) (Nat.zero_le _) () (⟨rfl, fun _ _ _ => rfl, fun r' k' h => absurd h.1 (Nat.not_lt_zero _), fun q _ => congrFun (kb_thr_ne (show 195 ≠ 188 by decide)) q⟩) ?_ ?_)
                · intro r a2 X2 Y2 hk_r hk0_r hI_r ih_r
                  obtain ⟨rfl, hI2⟩ := hI_r
                  have hkn3 : kb_kn (kb_tn (X 189 d')) r ≤ 3 := kb_kn_le hn6
                  refine q_iload_n C dX5_copy_69 rfl ?_
                  refine q_aload_n C dX5_copy_70 rfl ?_
                  refine x_getR C (ci := 5) (k := 4) (C0 := RX5) (T := TX5) (NF := 15) (ref := RX5) (host := RX4) dX5_copy_71 fr_Mrow rfl iX5_copy_X5 (by decide) (List.mem_of_getElem? (i := 5) rfl) rfl ?_
                  refine q_iload_n C dX5_copy_74 rfl ?_
                  refine x_ialdN C dX5_copy_75 ia_Mrow (by decide) (by omega) ?_
                  refine q_top (show Value.int _ = Value.int _ from congrArg Value.int ((congrFun (hI2.1 190 (by decide) (by decide)) d').trans hrw)) ?_
                  refine q_icmpgeN C (tgt := 133) dX5_copy_76 (by decide) (by omega) (by omega) (fun c76 => ?_) (fun c76 => ?_)
                  · exact absurd c76 (by omega)
                  · refine q_iconst C (v := nI 0) dX5_copy_79 (by decide) ?_
                    refine q_istore C dX5_copy_80 (by decide) rfl ?_
                    refine q_mask [true, true, true, true, true] (q_for (σ := Unit) (k0 := 0) (kb_kn (kb_tn (X 189 d')) r) (fun k _ X' Y' => Y = Y' ∧ kb_cpd X X' b' d' (kb_tn (X 189 d')) (fun r' k' => (r' < r ∧ k' < kb_kn (kb_tn (X 189 d')) r') ∨ (r' = r ∧ k' < k))) (fun k _ => [some (.ref (E.2.2.2 188)), some (.int (nI b')), some (.int (nI d')), some (.int (nI r)), some (.int (nI k))]) (Nat.zero_le _) () (⟨rfl, hI2.mono (fun r' k' => by omega)⟩) ?_ ?_)
                    · intro k2 a3 X3 Y3 hk_k2 hk0_k2 hI_k2 ih_k2
                      obtain ⟨rfl, hI3⟩ := hI_k2
                      refine q_iload C dX5_copy_82 rfl ?_
                      refine q_aload_n C dX5_copy_84 rfl ?_
                      refine x_getR C (ci := 5) (k := 3) (C0 := RX5) (T := TX5) (NF := 15) (ref := RX5) (host := RX4) dX5_copy_85 fr_Mthr rfl iX5_copy_X5 (by decide) (List.mem_of_getElem? (i := 3) rfl) rfl ?_
                      refine q_iload_n C dX5_copy_88 rfl ?_
                      refine x_ialdN C dX5_copy_89 ia_Mthr (by decide) (by omega) ?_
                      refine q_top (show Value.int _ = Value.int _ from congrArg Value.int ((congrFun (hI3.1 189 (by decide) (by decide)) d').trans hth)) ?_
                      refine q_iload_n C dX5_copy_90 rfl ?_
                      refine q_callS (As := [_, _]) (nA := 2) C dX5_copy_91 (m_mknots _ _ _ _ _) gX5_copy_X5_knots rfl (by decide +kernel) rfl ⟨Nat.le_of_ble_eq_true rfl, Nat.le_of_ble_eq_true rfl⟩ (Nat.le_of_ble_eq_true rfl) ⟨Nat.le_of_ble_eq_true rfl, Nat.le_of_ble_eq_true rfl⟩ (fun v91 g91 h91 => ?_)
                      obtain ⟨rfl, rfl⟩ := h91
                      refine q_top (show Value.int _ = Value.int _ from congrArg Value.int (nv_mknots _ (by omega) r (by omega) (by omega))) ?_
                      refine q_icmpgeN C (tgt := 127) dX5_copy_94 (by decide) (by omega) (by omega) (fun c94 => ?_) (fun c94 => ?_)
                      · exact absurd c94 (by omega)
                      · refine q_aload_n C dX5_copy_97 rfl ?_
                        refine x_getR C (ci := 5) (k := 9) (C0 := RX5) (T := TX5) (NF := 15) (ref := RX5) (host := RX4) dX5_copy_98 fr_Msee rfl iX5_copy_X5 (by decide) (List.mem_of_getElem? (i := 6) rfl) rfl ?_
                        refine q_bipush C (v := nI 48) dX5_copy_101 (by decide) ?_
                        refine q_iload_n C dX5_copy_103 rfl ?_
                        refine q_imulN C dX5_copy_104 ?_
                        refine q_iconst C (v := nI 3) dX5_copy_105 (by decide) ?_
                        refine q_iload_n C dX5_copy_106 rfl ?_
                        refine q_imulN C dX5_copy_107 ?_
                        refine q_iaddN C dX5_copy_108 ?_
                        refine q_iload C dX5_copy_109 rfl ?_
                        refine q_iaddN C dX5_copy_111 ?_
                        refine q_aload_n C dX5_copy_112 rfl ?_
                        refine q_iload_n C dX5_copy_113 rfl ?_
                        refine q_iload_n C dX5_copy_114 rfl ?_
                        refine q_iload C dX5_copy_115 rfl ?_
                        refine x_callV (As := [_, _, _]) (nA := 3) (T := TX5) (NF := 15) C dX5_copy_117 ob_M rfl (m_showsOf _ _ X3 Y d' (kb_tn (X 189 d')) r k2 hd8 hn6 hn2 (by omega) hk_k2 ((congrFun (hI3.1 189 (by decide) (by decide)) d').trans hth) (kb_mkd X d') (by rw [hI3.1 192 (by decide) (by decide)]; exact hkd)) gX5_copy_X5_showsOf rfl (by decide +kernel) rfl ⟨Nat.le_of_ble_eq_true rfl, Nat.le_of_ble_eq_true rfl⟩ (Nat.le_of_ble_eq_true rfl) ⟨Nat.le_of_ble_eq_true rfl, Nat.le_of_ble_eq_true rfl⟩ (fun v117 g117 h117 => ?_)
                        obtain ⟨rfl, X4, rfl, h4⟩ := h117
                        refine x_iastN C dX5_copy_120 ia_Msee (by decide) (by omega) ?_
                        refine q_iinc1 C dX5_copy_121 rfl (by decide) rfl ?_
                        refine q_goto C (tgt := 82) dX5_copy_124 (by decide) ?_
                        exact q_mask [true, true, true, true, true] (ih_k2 () _ _ ⟨rfl, fun q h1 h2 => by simp only [va_up, if_neg h2]; exact (h4.1 q h1).trans (hI3.1 q h1 h2), fun r' k' hp => by
                          simp only [va_up, if_true]
                          have hkr := kb_kn_le (r := r') hn6
                          by_cases e1 : 48 * b' + 3 * r' + k' = 48 * b' + 3 * r + k2
                          · have e2 : r' = r ∧ k' = k2 := by omega
                            obtain ⟨rfl, rfl⟩ := e2
                            simp only [upd, if_true]
                            rw [hI3.1 191 (by decide) (by decide), kb_thr_ne (by decide)]
                          · simp only [upd, if_neg e1]
                            rw [h4.1 195 (by decide)]
                            exact hI3.2.1 r' k' (by omega), fun q hq => by
                          simp only [va_up, if_true]
                          have e1 : q ≠ 48 * b' + 3 * r + k2 := hq r k2 (Or.inr ⟨rfl, by omega⟩)
                          simp only [upd, if_neg e1]
                          rw [h4.1 195 (by decide)]
                          exact hI3.2.2 q (fun r' k' hp => hq r' k' (by omega))⟩)
                    · intro a3 X3 Y3 hI_k2
                      obtain ⟨rfl, hI3⟩ := hI_k2
                      refine q_iload C dX5_copy_82 rfl ?_
                      refine q_aload_n C dX5_copy_84 rfl ?_
                      refine x_getR C (ci := 5) (k := 3) (C0 := RX5) (T := TX5) (NF := 15) (ref := RX5) (host := RX4) dX5_copy_85 fr_Mthr rfl iX5_copy_X5 (by decide) (List.mem_of_getElem? (i := 3) rfl) rfl ?_
                      refine q_iload_n C dX5_copy_88 rfl ?_
                      refine x_ialdN C dX5_copy_89 ia_Mthr (by decide) (by omega) ?_
                      refine q_top (show Value.int _ = Value.int _ from congrArg Value.int ((congrFun (hI3.1 189 (by decide) (by decide)) d').trans hth)) ?_
                      refine q_iload_n C dX5_copy_90 rfl ?_
                      refine q_callS (As := [_, _]) (nA := 2) C dX5_copy_91 (m_mknots _ _ _ _ _) gX5_copy_X5_knots rfl (by decide +kernel) rfl ⟨Nat.le_of_ble_eq_true rfl, Nat.le_of_ble_eq_true rfl⟩ (Nat.le_of_ble_eq_true rfl) ⟨Nat.le_of_ble_eq_true rfl, Nat.le_of_ble_eq_true rfl⟩ (fun v91 g91 h91 => ?_)
                      obtain ⟨rfl, rfl⟩ := h91
                      refine q_top (show Value.int _ = Value.int _ from congrArg Value.int (nv_mknots _ (by omega) r (by omega) (by omega))) ?_
                      refine q_icmpgeN C (tgt := 127) dX5_copy_94 (by decide) (by omega) (by omega) (fun c94 => ?_) (fun c94 => ?_)
                      · refine q_iinc1 C dX5_copy_127 rfl (by decide) rfl ?_
                        refine q_goto C (tgt := 69) dX5_copy_130 (by decide) ?_
                        exact q_mask [true, true, true, true, false] (ih_r () _ _ ⟨rfl, hI3.mono (fun r' k' => ⟨fun q => by rcases q with q | ⟨rfl, q⟩ <;> omega, fun q => by
                          rcases Nat.lt_or_ge r' r with z | z
                          · exact Or.inl ⟨z, q.2⟩
                          · have e9 : r' = r := by omega
                            subst e9
                            exact Or.inr ⟨rfl, q.2⟩⟩)⟩)
                      · exact absurd c94 (by omega)
                · intro a2 X2 Y2 hI_r
                  obtain ⟨rfl, hI2⟩ := hI_r
                  refine q_iload_n C dX5_copy_69 rfl ?_
                  refine q_aload_n C dX5_copy_70 rfl ?_
                  refine x_getR C (ci := 5) (k := 4) (C0 := RX5) (T := TX5) (NF := 15) (ref := RX5) (host := RX4) dX5_copy_71 fr_Mrow rfl iX5_copy_X5 (by decide) (List.mem_of_getElem? (i := 5) rfl) rfl ?_
                  refine q_iload_n C dX5_copy_74 rfl ?_
                  refine x_ialdN C dX5_copy_75 ia_Mrow (by decide) (by omega) ?_
                  refine q_top (show Value.int _ = Value.int _ from congrArg Value.int ((congrFun (hI2.1 190 (by decide) (by decide)) d').trans hrw)) ?_
                  refine q_icmpgeN C (tgt := 133) dX5_copy_76 (by decide) (by omega) (by omega) (fun c76 => ?_) (fun c76 => ?_)
                  · refine q_iconst C (v := nI 1) dX5_copy_133 (by decide) ?_
                    exact q_zret C dX5_copy_134 (by decide) ⟨_, rfl, Or.inr (Or.inr ⟨⟨hc2, hc27⟩, trivial, _, rfl, (congrFun (hI2.1 188 (by decide) (by decide)) 0).trans kb_thr_at, fun h => absurd (show _ ∧ _ by rw [eb, ed]; exact ⟨c47, c62⟩) h, fun _ => ⟨rfl, by rw [eb, ed]; exact hI2⟩⟩)⟩
                  · exact absurd c76 (by omega)
              · refine q_iconst C (v := nI 0) dX5_copy_65 (by decide) ?_
                exact q_zret C dX5_copy_66 (by decide) ⟨_, rfl, Or.inr (Or.inr ⟨⟨hc2, hc27⟩, trivial, _, rfl, kb_thr_at, fun _ => ⟨rfl, rfl⟩, fun h => absurd h (by rw [eb, ed]; first | exact fun q => c47 q.1 | exact fun q => c62 q.2)⟩)⟩
          · exact absurd c30 (by decide)
        · refine q_ifne C (tgt := 35) dX5_copy_30 (by decide) (fun c30 => ?_) (fun c30 => ?_)
          · exact absurd (show nI 0 = 0 by decide) c30
          · refine q_iconst C (v := nI 0) dX5_copy_33 (by decide) ?_
            exact q_zret C dX5_copy_34 (by decide) ⟨_, rfl, Or.inl ⟨fun h => hc27 h.2, by rw [kb_thr_thr]⟩⟩
      refine q_iload_n C dX5_copy_9 rfl ?_
      refine q_iflt C (tgt := 25) dX5_copy_10 (by decide) (fun c10 => ?_) (fun c10 => ?_)
      · refine q_iconst C (v := nI 0) dX5_copy_25 (by decide) ?_
        exact J26 _ (by first | exact Or.inl ⟨rfl, c10, c18⟩ | exact Or.inr ⟨rfl, fun h => h.1 c10⟩ | exact Or.inr ⟨rfl, fun h => h.2 c18⟩)
      · refine q_iload_n C dX5_copy_13 rfl ?_
        refine q_aload_n C dX5_copy_14 rfl ?_
        refine x_getI C (ci := 5) (k := 1) (C0 := RX5) (T := TX5) (NF := 15) (ref := RX5) (host := RX4) dX5_copy_15 fi_Mbc rfl iX5_copy_X5 (by decide) (List.mem_of_getElem? (i := 1) rfl) rfl ?_
        refine q_icmpge C (tgt := 25) dX5_copy_18 (by decide) (fun c18 => ?_) (fun c18 => ?_)
        · refine q_iconst C (v := nI 0) dX5_copy_25 (by decide) ?_
          exact J26 _ (by first | exact Or.inl ⟨rfl, c10, c18⟩ | exact Or.inr ⟨rfl, fun h => h.1 c10⟩ | exact Or.inr ⟨rfl, fun h => h.2 c18⟩)
        · refine q_iconst C (v := nI 1) dX5_copy_21 (by decide) ?_
          refine q_goto C (tgt := 26) dX5_copy_22 (by decide) ?_
          exact J26 _ (by first | exact Or.inl ⟨rfl, c10, c18⟩ | exact Or.inr ⟨rfl, fun h => h.1 c10⟩ | exact Or.inr ⟨rfl, fun h => h.2 c18⟩)
  · refine q_ifeq C (tgt := 33) dX5_copy_5 (by decide) (fun c5 => ?_) (fun c5 => ?_)
    · refine q_iconst C (v := nI 0) dX5_copy_33 (by decide) ?_
      exact q_zret C dX5_copy_34 (by decide) ⟨_, rfl, Or.inl ⟨fun h => hc2 h.1, rfl⟩⟩
    · exact absurd (show nI 0 = 0 by decide) c5
/-- a row of kinds is laid at place q of the kinds -/
def kb_mrow (X X' : Nat → Nat → Int32) (q0 m : Nat) (bits : Int32) : Prop := (∀ q, q ≠ 192 → X' q = kb_thr X (nI 0) q) ∧ ∀ q, X' 192 q = if q0 ≤ q ∧ q < q0 + m then kb_kindIn bits (nI (q - q0)) else X 192 q
theorem iX5_row_X5 : ∀ w ∈ wsX50, w ∈ wsX5_row := fun _ h => List.mem_cons_of_mem _ (by first | exact h | exact List.mem_append_right _ h | exact List.mem_append_left _ (List.mem_append_right _ h) | exact List.mem_append_left _ (List.mem_append_left _ (List.mem_append_right _ h)) | exact List.mem_append_left _ (List.mem_append_left _ (List.mem_append_left _ (List.mem_append_right _ h))) | exact List.mem_append_left _ (List.mem_append_left _ (List.mem_append_left _ (List.mem_append_left _ (List.mem_append_right _ h)))) | exact List.mem_append_left _ (List.mem_append_left _ (List.mem_append_left _ (List.mem_append_left _ (List.mem_append_left _ (List.mem_append_right _ h))))))
set_option maxRecDepth 100000 in
set_option maxHeartbeats 4000000 in
/-- X5.row -/
theorem m_mrow (l : Launch) (E : kb_E) (X : Nat → Nat → Int32) (Y : Nat → Nat → Int64) (b bits : Int32) (hMI : kb_MI X) : kb_Met l E 202 yX5_row wsX5_row ({ frames := 2, cells := 0, slots := 0, locals := 43 }) [.ref (E.2.2.2 188), .int b, .int bits] (kb_ent E X Y) (kb_out E X Y (kb_okB X b) True (fun v X' => (kb_tn (X 190 (kb_tn b)) = 16 → v = -1 ∧ X' = kb_thr X (nI 0)) ∧ (¬ kb_tn (X 190 (kb_tn b)) = 16 → v = nI (kb_tn (X 190 (kb_tn b)) + 1) ∧ ∃ X1, kb_mrow X X1 (48 * kb_tn b + 3 * kb_tn (X 190 (kb_tn b))) 3 bits ∧ X' = va_up X1 190 (upd (X 190) (kb_tn b) (nI (kb_tn (X 190 (kb_tn b)) + 1)))))) := by
  refine kb_enter (cc := cX5_row) (maxL := 4) (ret := (some .int)) (by decide +kernel) rfl (by simp [Value.category]) (Nat.le_of_ble_eq_true rfl) ?_
  intro p e s m args below meth c C hini
  refine q_aload_n C dX5_row_0 rfl ?_
  refine q_iload_n C dX5_row_1 rfl ?_
  refine x_callV (As := [_]) (nA := 1) (T := TX5) (NF := 15) C dX5_row_2 ob_M rfl (m_isBand _ _ X Y b) gX5_row_X5_isBand rfl (by decide +kernel) rfl ⟨Nat.le_of_ble_eq_true rfl, Nat.le_of_ble_eq_true rfl⟩ (Nat.le_of_ble_eq_true rfl) ⟨Nat.le_of_ble_eq_true rfl, Nat.le_of_ble_eq_true rfl⟩ (fun v2 g2 h2 => ?_)
  rcases h2 with ⟨hc2, rfl, rfl⟩ | ⟨hc2, rfl, rfl⟩
  · obtain ⟨b', hb', rfl, hb8⟩ := kb_okB_nat hMI hc2
    have eb : kb_tn (nI b') = b' := kb_tn_nI (by omega)
    have hnb := hMI.2.1 b' hb'
    have hth : kb_thr X (nI 0) 189 b' = nI (kb_tn (X 189 b')) := by rw [kb_thr_ne (by decide)]; exact hnb.1.1
    have hrw : kb_thr X (nI 0) 190 b' = nI (kb_tn (X 190 b')) := by rw [kb_thr_ne (by decide)]; exact hnb.2.2.1
    have hr16 : kb_tn (X 190 b') ≤ 16 := hnb.2.2.2
    have hn6 : kb_tn (X 189 b') ≤ 6 := hnb.1.2
    have hn2 : 2 ≤ kb_tn (X 189 b') := hnb.2.1
    have hkd : ∀ r, r < 16 → ∀ k, k < 3 → kb_thr X (nI 0) 192 (48 * b' + 3 * r + k) = nI (kb_mkd X b' r k) ∧ kb_mkd X b' r k < 4 := fun r hr k hk => by rw [kb_thr_ne (by decide)]; exact ⟨(hMI.2.2.2.1 _ (by omega)).1, Nat.lt_succ_of_le (hMI.2.2.2.1 _ (by omega)).2⟩
    refine q_ifne C (tgt := 10) dX5_row_5 (by decide) (fun c5 => ?_) (fun c5 => ?_)
    · refine q_aload_n C dX5_row_10 rfl ?_
      refine x_getR C (ci := 5) (k := 4) (C0 := RX5) (T := TX5) (NF := 15) (ref := RX5) (host := RX4) dX5_row_11 fr_Mrow rfl iX5_row_X5 (by decide) (List.mem_of_getElem? (i := 1) rfl) rfl ?_
      refine q_iload_n C dX5_row_14 rfl ?_
      refine x_ialdN C dX5_row_15 ia_Mrow (by decide) (by omega) ?_
      refine q_top (show Value.int _ = Value.int _ from congrArg Value.int (hrw)) ?_
      refine q_bipush C (v := nI 16) dX5_row_16 (by decide) ?_
      refine q_icmpneN C (tgt := 23) dX5_row_18 (by decide) (by omega) (by omega) (fun c18 => ?_) (fun c18 => ?_)
      · refine q_iconst C (v := nI 0) dX5_row_23 (by decide) ?_
        refine q_istore_n C dX5_row_24 (by decide) rfl ?_
        refine q_mask [true, true, true, true] (q_for (σ := Unit) (k0 := 0) (3) (fun k _ X' Y' => Y = Y' ∧ kb_mrow X X' (48 * b' + 3 * kb_tn (X 190 b')) k bits) (fun k _ => [some (.ref (E.2.2.2 188)), some (.int (nI b')), some (.int bits), some (.int (nI k))]) (Nat.zero_le _) () (⟨rfl, fun _ _ => rfl, fun q => by rw [if_neg (by omega)]; exact congrFun (kb_thr_ne (show 192 ≠ 188 by decide)) q⟩) ?_ ?_)
        · intro k a X1 Y1 hk_k hk0_k hI_k ih_k
          obtain ⟨rfl, hI1⟩ := hI_k
          refine q_iload_n C dX5_row_25 rfl ?_
          refine q_iconst C (v := nI 3) dX5_row_26 (by decide) ?_
          refine q_icmpgeN C (tgt := 63) dX5_row_27 (by decide) (by omega) (by omega) (fun c27 => ?_) (fun c27 => ?_)
          · exact absurd c27 (by omega)
          · refine q_aload_n C dX5_row_30 rfl ?_
            refine x_getR C (ci := 5) (k := 6) (C0 := RX5) (T := TX5) (NF := 15) (ref := RX5) (host := RX4) dX5_row_31 fr_Mkin rfl iX5_row_X5 (by decide) (List.mem_of_getElem? (i := 2) rfl) rfl ?_
            refine q_bipush C (v := nI 48) dX5_row_34 (by decide) ?_
            refine q_iload_n C dX5_row_36 rfl ?_
            refine q_imulN C dX5_row_37 ?_
            refine q_iconst C (v := nI 3) dX5_row_38 (by decide) ?_
            refine q_aload_n C dX5_row_39 rfl ?_
            refine x_getR C (ci := 5) (k := 4) (C0 := RX5) (T := TX5) (NF := 15) (ref := RX5) (host := RX4) dX5_row_40 fr_Mrow rfl iX5_row_X5 (by decide) (List.mem_of_getElem? (i := 1) rfl) rfl ?_
            refine q_iload_n C dX5_row_43 rfl ?_
            refine x_ialdN C dX5_row_44 ia_Mrow (by decide) (by omega) ?_
            refine q_top (show Value.int _ = Value.int _ from congrArg Value.int ((congrFun (hI1.1 190 (by decide)) b').trans hrw)) ?_
            refine q_imulN C dX5_row_45 ?_
            refine q_iaddN C dX5_row_46 ?_
            refine q_iload_n C dX5_row_47 rfl ?_
            refine q_iaddN C dX5_row_48 ?_
            refine q_iload_n C dX5_row_49 rfl ?_
            refine q_iconst C (v := nI 2) dX5_row_50 (by decide) ?_
            refine q_iload_n C dX5_row_51 rfl ?_
            refine q_imulN C dX5_row_52 ?_
            refine q_ishr C dX5_row_53 ?_
            refine q_iconst C (v := nI 3) dX5_row_54 (by decide) ?_
            refine q_iand C dX5_row_55 ?_
            refine x_iastN C dX5_row_56 ia_Mkin (by decide) (by omega) ?_
            refine q_iinc1 C dX5_row_57 rfl (by decide) rfl ?_
            refine q_goto C (tgt := 25) dX5_row_60 (by decide) ?_
            exact q_mask [true, true, true, true] (ih_k () _ _ ⟨rfl, fun q h1 => by simp only [va_up, if_neg h1]; exact hI1.1 q h1, fun q => by
              simp only [va_up, if_true]
              by_cases e1 : q = (48 * b' + 3 * kb_tn (X 190 b')) + k
              · subst e1
                rw [if_pos (by omega), show (48 * b' + 3 * kb_tn (X 190 b')) + k - (48 * b' + 3 * kb_tn (X 190 b')) = k by omega]
                simp only [upd, if_true, kb_kindIn, pk_mul]
              · simp only [upd, if_neg e1]
                rw [hI1.2 q]
                by_cases e2 : (48 * b' + 3 * kb_tn (X 190 b')) ≤ q ∧ q < (48 * b' + 3 * kb_tn (X 190 b')) + k
                · rw [if_pos e2, if_pos (by omega)]
                · rw [if_neg e2, if_neg (by omega)]⟩)
        · intro a X1 Y1 hI_k
          obtain ⟨rfl, hI1⟩ := hI_k
          refine q_iload_n C dX5_row_25 rfl ?_
          refine q_iconst C (v := nI 3) dX5_row_26 (by decide) ?_
          refine q_icmpgeN C (tgt := 63) dX5_row_27 (by decide) (by omega) (by omega) (fun c27 => ?_) (fun c27 => ?_)
          · refine q_aload_n C dX5_row_63 rfl ?_
            refine x_getR C (ci := 5) (k := 4) (C0 := RX5) (T := TX5) (NF := 15) (ref := RX5) (host := RX4) dX5_row_64 fr_Mrow rfl iX5_row_X5 (by decide) (List.mem_of_getElem? (i := 1) rfl) rfl ?_
            refine q_iload_n C dX5_row_67 rfl ?_
            refine q_dup2 C dX5_row_68 rfl rfl ?_
            refine x_ialdN C dX5_row_69 ia_Mrow (by decide) (by omega) ?_
            refine q_top (show Value.int _ = Value.int _ from congrArg Value.int ((congrFun (hI1.1 190 (by decide)) b').trans hrw)) ?_
            refine q_iconst C (v := nI 1) dX5_row_70 (by decide) ?_
            refine q_iaddN C dX5_row_71 ?_
            refine x_iastN C dX5_row_72 ia_Mrow (by decide) (by omega) ?_
            refine q_aload_n C dX5_row_73 rfl ?_
            refine x_getR C (ci := 5) (k := 4) (C0 := RX5) (T := TX5) (NF := 15) (ref := RX5) (host := RX4) dX5_row_74 fr_Mrow rfl iX5_row_X5 (by decide) (List.mem_of_getElem? (i := 1) rfl) rfl ?_
            refine q_iload_n C dX5_row_77 rfl ?_
            refine x_ialdN C dX5_row_78 ia_Mrow (by decide) (by omega) ?_
            refine q_top (show Value.int _ = Value.int _ from congrArg Value.int ((show va_up X1 190 (upd (X1 190) b' (nI (kb_tn (X 190 b') + 1))) 190 b' = nI (kb_tn (X 190 b') + 1) from by simp [va_up, upd]))) ?_
            exact q_iret C dX5_row_79 ⟨_, rfl, Or.inr (Or.inr ⟨hc2, trivial, _, rfl, by simp only [va_up, if_neg (show (188 : Nat) ≠ 190 by decide)]; exact (congrFun (hI1.1 188 (by decide)) 0).trans kb_thr_at, fun h => absurd h (by rw [eb]; exact c18), fun _ => by rw [eb]; exact ⟨rfl, X1, hI1, by rw [hI1.1 190 (by decide), kb_thr_ne (by decide)]⟩⟩)⟩
          · exact absurd c27 (by omega)
      · refine q_iconst C (v := -1) dX5_row_21 (by decide) ?_
        exact q_iret C dX5_row_22 ⟨_, rfl, Or.inr (Or.inr ⟨hc2, trivial, _, rfl, kb_thr_at, fun _ => ⟨rfl, rfl⟩, fun h => absurd h (by rw [eb]; omega)⟩)⟩
    · exact absurd c5 (by decide)
  · refine q_ifne C (tgt := 10) dX5_row_5 (by decide) (fun c5 => ?_) (fun c5 => ?_)
    · exact absurd (show nI 0 = 0 by decide) c5
    · refine q_iconst C (v := nI 0) dX5_row_8 (by decide) ?_
      exact q_iret C dX5_row_9 ⟨_, rfl, Or.inl ⟨fun h => hc2 h, rfl⟩⟩

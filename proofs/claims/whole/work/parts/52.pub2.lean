/-! ===== the class's methods, second half ===== -/
/-- 1 if bands i and j show otherwise at knot r, k -/
def kb_cun (X : Nat → Nat → Int32) (i j n r k : Nat) : Nat := if X (92 + 7 * i + 1) (kb_sh (kb_kd (X (92 + 7 * i + 2))) n r k) = X (92 + 7 * j + 1) (kb_sh (kb_kd (X (92 + 7 * j + 2))) n r k) then 0 else 1
theorem kb_cntR_le {f : Nat → Nat → Nat} {r : Nat} (hf : ∀ k, f r k ≤ 1) : ∀ k, kb_cntR f r k ≤ k
  | 0 => Nat.le_refl _
  | k + 1 => by
    have h1 := kb_cntR_le hf k
    have h2 := hf k
    show kb_cntR f r k + f r k ≤ k + 1
    omega
theorem iX4_unlike_X0 : ∀ w ∈ wsX00, w ∈ wsX4_unlike := fun _ h => List.mem_cons_of_mem _ (by first | exact h | exact List.mem_append_right _ h | exact List.mem_append_left _ (List.mem_append_right _ h) | exact List.mem_append_left _ (List.mem_append_left _ (List.mem_append_right _ h)) | exact List.mem_append_left _ (List.mem_append_left _ (List.mem_append_left _ (List.mem_append_right _ h))) | exact List.mem_append_left _ (List.mem_append_left _ (List.mem_append_left _ (List.mem_append_left _ (List.mem_append_right _ h)))) | exact List.mem_append_left _ (List.mem_append_left _ (List.mem_append_left _ (List.mem_append_left _ (List.mem_append_left _ (List.mem_append_right _ h))))))
set_option maxRecDepth 100000 in
set_option maxHeartbeats 4000000 in
/-- X4.unlike -/
theorem m_unlike (l : Launch) (E : kb_E) (X : Nat → Nat → Int32) (Y : Nat → Nat → Int64) (b d : Int32) (hCB : kb_CB X) : kb_MetG l E 202 yX4_unlike wsX4_unlike ({ frames := 8, cells := 3, slots := 18, locals := 124 }) [.ref (E.2.2.2 0), .int b, .int d] (kb_ent E X Y) (fun v g' => (kb_e b (X 0 3) ∧ kb_e d (X 0 3)) ∧ (X (92 + 7 * kb_tn b) 2 = X (92 + 7 * kb_tn d) 2 ∧ X (92 + 7 * kb_tn b) 3 = X (92 + 7 * kb_tn d) 3) ∧ v = some (.int (nI (kb_cnt (fun r k => kb_cun X (kb_tn b) (kb_tn d) (kb_tn (X (92 + 7 * kb_tn b) 2)) r k) (kb_tn (X (92 + 7 * kb_tn b) 2)) (kb_tn (X (92 + 7 * kb_tn b) 3))))) ∧ ∃ X', g' = kb_ent E X' Y ∧ ∀ z, z ≠ 92 + 7 * kb_tn b + 3 → z ≠ 92 + 7 * kb_tn b + 4 → z ≠ 92 + 7 * kb_tn b + 5 → z ≠ 92 + 7 * kb_tn d + 3 → z ≠ 92 + 7 * kb_tn d + 4 → z ≠ 92 + 7 * kb_tn d + 5 → X' z = X z) (kb_tG E X Y (kb_e b (X 0 3) ∧ kb_e d (X 0 3)) (X (92 + 7 * kb_tn b) 2 = X (92 + 7 * kb_tn d) 2 ∧ X (92 + 7 * kb_tn b) 3 = X (92 + 7 * kb_tn d) 3)) := by
  refine kb_enterG (cc := cX4_unlike) (maxL := 10) (ret := (some .int)) (by decide +kernel) rfl (by simp [Value.category]) (Nat.le_of_ble_eq_true rfl) ?_
  intro p e s m args below meth c C hx
  refine q_aload_n C dX4_unlike_0 rfl ?_
  refine q_iload_n C dX4_unlike_1 rfl ?_
  refine x_callVG (As := [_]) (nA := 1) (T := TX4) (NF := 5) C hx dX4_unlike_2 ob_K rfl (m_bandAt _ _ X Y b hCB.1) gX4_unlike_X4_bandAt rfl (by decide +kernel) rfl ⟨Nat.le_of_ble_eq_true rfl, Nat.le_of_ble_eq_true rfl⟩ (Nat.le_of_ble_eq_true rfl) ⟨Nat.le_of_ble_eq_true rfl, Nat.le_of_ble_eq_true rfl⟩ ⟨Nat.le_of_ble_eq_true rfl, Nat.le_of_ble_eq_true rfl⟩ (fun Z g9 h => ⟨h.1, h.2.elim (fun z => Or.inl ⟨z.1, fun hc => z.2 hc.1⟩) (fun z => absurd trivial z.2.2)⟩) (fun v2 g2 h2 => ?_)
  obtain ⟨hB, rfl, rfl⟩ := h2
  obtain ⟨hbn, hbl⟩ := hB.nat hCB.1.1
  have hb8 : kb_tn b < 8 := Nat.lt_of_lt_of_le hbl hCB.1.2
  obtain ⟨⟨hth, hn⟩, hn2, hro, hr16⟩ := hCB.2 _ hbl
  refine q_astore_n C dX4_unlike_5 (by decide) rfl ?_
  refine q_aload_n C dX4_unlike_6 rfl ?_
  refine q_iload_n C dX4_unlike_7 rfl ?_
  refine x_callVG (As := [_]) (nA := 1) (T := TX4) (NF := 5) C hx dX4_unlike_8 ob_K rfl (m_bandAt _ _ X Y d hCB.1) gX4_unlike_X4_bandAt rfl (by decide +kernel) rfl ⟨Nat.le_of_ble_eq_true rfl, Nat.le_of_ble_eq_true rfl⟩ (Nat.le_of_ble_eq_true rfl) ⟨Nat.le_of_ble_eq_true rfl, Nat.le_of_ble_eq_true rfl⟩ ⟨Nat.le_of_ble_eq_true rfl, Nat.le_of_ble_eq_true rfl⟩ (fun Z g9 h => ⟨h.1, h.2.elim (fun z => Or.inl ⟨z.1, fun hc => z.2 hc.2⟩) (fun z => absurd trivial z.2.2)⟩) (fun v8 g8 h8 => ?_)
  obtain ⟨hBd, rfl, rfl⟩ := h8
  obtain ⟨hbnd, hbld⟩ := hBd.nat hCB.1.1
  have hb8d : kb_tn d < 8 := Nat.lt_of_lt_of_le hbld hCB.1.2
  obtain ⟨⟨hthd, hnd⟩, hn2d, hrod, hr16d⟩ := hCB.2 _ hbld
  refine q_astore C dX4_unlike_11 (by decide) rfl ?_
  refine q_aload_n C dX4_unlike_13 rfl ?_
  refine x_getIN C (ci := 0) (k := 2) (C0 := RX0) (T := TX0) (NF := 8) (ref := RX0) (host := RX4) dX4_unlike_14 (fi_Bthr hb8) rfl iX4_unlike_X0 (by decide) (by decide +kernel) rfl ?_
  refine q_aload C dX4_unlike_17 rfl ?_
  refine x_getIN C (ci := 0) (k := 2) (C0 := RX0) (T := TX0) (NF := 8) (ref := RX0) (host := RX4) dX4_unlike_19 (fi_Bthr hb8d) rfl iX4_unlike_X0 (by decide) (by decide +kernel) rfl ?_
  refine q_icmpne C (tgt := 37) dX4_unlike_22 (by decide) (fun c22 => ?_) (fun c22 => ?_)
  · exact q_throwG (cls := kb_IAE) C hx dX4_unlike_37 dX4_unlike_40 dX4_unlike_41 dX4_unlike_43 dX4_unlike_46 (by decide +kernel) (List.mem_of_getElem? (i := 1) rfl) (List.mem_of_getElem? (i := 2) rfl) C.2.2.2.2.2.2.2.2.2.2.2.2.2.2.2.2.2.2.1 (fun w h => List.mem_cons_of_mem _ (by first | exact List.mem_append_right _ h | exact List.mem_append_left _ (List.mem_append_right _ h) | exact List.mem_append_left _ (List.mem_append_left _ (List.mem_append_right _ h)) | exact List.mem_append_left _ (List.mem_append_left _ (List.mem_append_left _ (List.mem_append_right _ h))) | exact List.mem_append_left _ (List.mem_append_left _ (List.mem_append_left _ (List.mem_append_left _ (List.mem_append_right _ h)))))) (by decide +kernel) (by decide +kernel) (by decide) (by decide) (by decide) (by decide) (by decide) (by decide) ⟨rfl, Or.inr ⟨rfl, ⟨hB, hBd⟩, fun h => c22 h.1⟩⟩
  · refine q_aload_n C dX4_unlike_25 rfl ?_
    refine x_getIN C (ci := 0) (k := 3) (C0 := RX0) (T := TX0) (NF := 8) (ref := RX0) (host := RX4) dX4_unlike_26 (fi_Brow hb8) rfl iX4_unlike_X0 (by decide) (by decide +kernel) rfl ?_
    refine q_aload C dX4_unlike_29 rfl ?_
    refine x_getIN C (ci := 0) (k := 3) (C0 := RX0) (T := TX0) (NF := 8) (ref := RX0) (host := RX4) dX4_unlike_31 (fi_Brow hb8d) rfl iX4_unlike_X0 (by decide) (by decide +kernel) rfl ?_
    refine q_icmpeq C (tgt := 47) dX4_unlike_34 (by decide) (fun c34 => ?_) (fun c34 => ?_)
    · refine q_aload_n C dX4_unlike_47 rfl ?_
      refine q_aload_n C dX4_unlike_48 rfl ?_
      refine x_getIN C (ci := 0) (k := 3) (C0 := RX0) (T := TX0) (NF := 8) (ref := RX0) (host := RX4) dX4_unlike_49 (fi_Brow hb8) rfl iX4_unlike_X0 (by decide) (by decide +kernel) rfl ?_
      refine q_top (show Value.int _ = Value.int _ from congrArg Value.int (hro)) ?_
      refine x_callV (As := [_]) (nA := 1) (T := TX0) (NF := 8) C dX4_unlike_52 (ob_B hb8) rfl (m_walk _ _ X Y (kb_tn b) (kb_tn (X (92 + 7 * kb_tn b) 2)) (kb_tn (X (92 + 7 * kb_tn b) 3)) hb8 hn hn2 hr16 hth) gX4_unlike_X0_walk rfl (by decide +kernel) rfl ⟨Nat.le_of_ble_eq_true rfl, Nat.le_of_ble_eq_true rfl⟩ (Nat.le_of_ble_eq_true rfl) ⟨Nat.le_of_ble_eq_true rfl, Nat.le_of_ble_eq_true rfl⟩ (fun v52 g52 h52 => ?_)
      obtain ⟨rfl, Xw, rfl, hw⟩ := h52
      have hoD : ∀ j, Xw (92 + 7 * kb_tn d) j = X (92 + 7 * kb_tn d) j := fun j => by rw [hw.1 _ (by omega) (by omega) (by omega)]
      have hoB : ∀ j, Xw (92 + 7 * kb_tn b) j = X (92 + 7 * kb_tn b) j := fun j => by rw [hw.1 _ (by omega) (by omega) (by omega)]
      refine q_aload C dX4_unlike_55 rfl ?_
      refine q_aload C dX4_unlike_57 rfl ?_
      refine x_getIN C (ci := 0) (k := 3) (C0 := RX0) (T := TX0) (NF := 8) (ref := RX0) (host := RX4) dX4_unlike_59 (fi_Brow hb8d) rfl iX4_unlike_X0 (by decide) (by decide +kernel) rfl ?_
      refine q_top (show Value.int _ = Value.int _ from congrArg Value.int ((hoD 3).trans (c34.symm.trans hro))) ?_
      refine x_callV (As := [_]) (nA := 1) (T := TX0) (NF := 8) C dX4_unlike_62 (ob_B hb8d) rfl (m_walk _ _ Xw Y (kb_tn d) (kb_tn (X (92 + 7 * kb_tn b) 2)) (kb_tn (X (92 + 7 * kb_tn b) 3)) hb8d hn hn2 hr16 ((hoD 2).trans (c22.symm.trans hth))) gX4_unlike_X0_walk rfl (by decide +kernel) rfl ⟨Nat.le_of_ble_eq_true rfl, Nat.le_of_ble_eq_true rfl⟩ (Nat.le_of_ble_eq_true rfl) ⟨Nat.le_of_ble_eq_true rfl, Nat.le_of_ble_eq_true rfl⟩ (fun v62 g62 h62 => ?_)
      obtain ⟨rfl, Xv, rfl, hv⟩ := h62
      have hvB : ∀ j, Xv (92 + 7 * kb_tn b) j = X (92 + 7 * kb_tn b) j := fun j => by rw [hv.1 _ (by omega) (by omega) (by omega)]; exact hoB j
      have hD1 : Xw (92 + 7 * kb_tn d + 1) = X (92 + 7 * kb_tn d + 1) := hw.1 _ (by omega) (by omega) (by omega)
      have hD2 : Xw (92 + 7 * kb_tn d + 2) = X (92 + 7 * kb_tn d + 2) := hw.1 _ (by omega) (by omega) (by omega)
      have hsd : ∀ r, r < (kb_tn (X (92 + 7 * kb_tn b) 3)) → ∀ k, k < kb_kn (kb_tn (X (92 + 7 * kb_tn b) 2)) r → Xv (92 + 7 * kb_tn d + 5) (3 * r + k) = X (92 + 7 * kb_tn d + 1) (kb_sh (kb_kd (X (92 + 7 * kb_tn d + 2))) (kb_tn (X (92 + 7 * kb_tn b) 2)) r k) := fun r hr k hk => by
        rw [hv.2.2.2 r hr k hk, hD1, hD2]
      have hsb : ∀ r, r < (kb_tn (X (92 + 7 * kb_tn b) 3)) → ∀ k, k < kb_kn (kb_tn (X (92 + 7 * kb_tn b) 2)) r → Xv (92 + 7 * kb_tn b + 5) (3 * r + k) = X (92 + 7 * kb_tn b + 1) (kb_sh (kb_kd (X (92 + 7 * kb_tn b + 2))) (kb_tn (X (92 + 7 * kb_tn b) 2)) r k) := fun r hr k hk => by
        by_cases e9 : kb_tn b = kb_tn d
        · have h9 := hsd r hr k hk
          rw [← e9] at h9
          exact h9
        · rw [hv.1 _ (by omega) (by omega) (by omega)]
          exact hw.2.2.2 r hr k hk
      refine q_iconst C (v := nI 0) dX4_unlike_65 (by decide) ?_
      refine q_istore C dX4_unlike_66 (by decide) rfl ?_
      refine q_iconst C (v := nI 0) dX4_unlike_68 (by decide) ?_
      refine q_istore C dX4_unlike_69 (by decide) rfl ?_
      refine q_mask [true, true, true, true, true, true, true, false, false, false] (q_for (σ := Unit) (k0 := 0) ((kb_tn (X (92 + 7 * kb_tn b) 3))) (fun r _ X' Y' => Xv = X' ∧ Y = Y') (fun r _ => [some (.ref (E.2.2.2 0)), some (.int b), some (.int d), some (.ref (E.2.2.2 (92 + 7 * kb_tn b))), some (.ref (E.2.2.2 (92 + 7 * kb_tn d))), some (.int (nI (kb_cnt (fun r k => kb_cun X (kb_tn b) (kb_tn d) (kb_tn (X (92 + 7 * kb_tn b) 2)) r k) (kb_tn (X (92 + 7 * kb_tn b) 2)) r))), some (.int (nI r)), none, none, none]) (Nat.zero_le _) () (⟨rfl, rfl⟩) ?_ ?_)
      · intro r a1 X1 Y1 hk_r hk0_r hI_r ih_r
        obtain ⟨rfl, rfl⟩ := hI_r
        refine q_iload C dX4_unlike_71 rfl ?_
        refine q_aload_n C dX4_unlike_73 rfl ?_
        refine x_getIN C (ci := 0) (k := 3) (C0 := RX0) (T := TX0) (NF := 8) (ref := RX0) (host := RX4) dX4_unlike_74 (fi_Brow hb8) rfl iX4_unlike_X0 (by decide) (by decide +kernel) rfl ?_
        refine q_top (show Value.int _ = Value.int _ from congrArg Value.int ((hvB 3).trans hro)) ?_
        refine q_icmpgeN C (tgt := 143) dX4_unlike_77 (by decide) (by omega) (by omega) (fun c77 => ?_) (fun c77 => ?_)
        · exact absurd c77 (by omega)
        · refine q_aload_n C dX4_unlike_80 rfl ?_
          refine x_getIN C (ci := 0) (k := 2) (C0 := RX0) (T := TX0) (NF := 8) (ref := RX0) (host := RX4) dX4_unlike_81 (fi_Bthr hb8) rfl iX4_unlike_X0 (by decide) (by decide +kernel) rfl ?_
          refine q_top (show Value.int _ = Value.int _ from congrArg Value.int ((hvB 2).trans hth)) ?_
          refine q_iload C dX4_unlike_84 rfl ?_
          refine q_callS (As := [_, _]) (nA := 2) C dX4_unlike_86 (m_knotsIn _ _ _ _ _) gX4_unlike_X4_knotsIn rfl (by decide +kernel) rfl ⟨Nat.le_of_ble_eq_true rfl, Nat.le_of_ble_eq_true rfl⟩ (Nat.le_of_ble_eq_true rfl) ⟨Nat.le_of_ble_eq_true rfl, Nat.le_of_ble_eq_true rfl⟩ (fun v86 g86 h86 => ?_)
          obtain ⟨rfl, rfl⟩ := h86
          refine q_top (show Value.int _ = Value.int _ from congrArg Value.int (nv_knotsIn (kb_tn (X (92 + 7 * kb_tn b) 2)) (by omega) r (by omega) (by omega))) ?_
          refine q_istore C dX4_unlike_89 (by decide) rfl ?_
          refine q_iconst C (v := nI 0) dX4_unlike_91 (by decide) ?_
          refine q_istore C dX4_unlike_92 (by decide) rfl ?_
          refine q_mask [true, true, true, true, true, true, true, true, true, false] (q_for (σ := Unit) (k0 := 0) (kb_kn (kb_tn (X (92 + 7 * kb_tn b) 2)) r) (fun k _ X' Y' => Xv = X' ∧ Y = Y') (fun k _ => [some (.ref (E.2.2.2 0)), some (.int b), some (.int d), some (.ref (E.2.2.2 (92 + 7 * kb_tn b))), some (.ref (E.2.2.2 (92 + 7 * kb_tn d))), some (.int (nI (kb_cnt (fun r k => kb_cun X (kb_tn b) (kb_tn d) (kb_tn (X (92 + 7 * kb_tn b) 2)) r k) (kb_tn (X (92 + 7 * kb_tn b) 2)) r + kb_cntR (fun r k => kb_cun X (kb_tn b) (kb_tn d) (kb_tn (X (92 + 7 * kb_tn b) 2)) r k) r k))), some (.int (nI r)), some (.int (nI (kb_kn (kb_tn (X (92 + 7 * kb_tn b) 2)) r))), some (.int (nI k)), none]) (Nat.zero_le _) () (⟨rfl, rfl⟩) ?_ ?_)
          · intro k a2 X2 Y2 hk_k hk0_k hI_k ih_k
            obtain ⟨rfl, rfl⟩ := hI_k
            have hkn3 : kb_kn (kb_tn (X (92 + 7 * kb_tn b) 2)) r ≤ 3 := kb_kn_le hn
            have es : kb_cntR (fun r k => kb_cun X (kb_tn b) (kb_tn d) (kb_tn (X (92 + 7 * kb_tn b) 2)) r k) r (k + 1) = kb_cntR (fun r k => kb_cun X (kb_tn b) (kb_tn d) (kb_tn (X (92 + 7 * kb_tn b) 2)) r k) r k + kb_cun X (kb_tn b) (kb_tn d) (kb_tn (X (92 + 7 * kb_tn b) 2)) r k := rfl
            refine q_iload C dX4_unlike_94 rfl ?_
            refine q_iload C dX4_unlike_96 rfl ?_
            refine q_icmpgeN C (tgt := 137) dX4_unlike_98 (by decide) (by omega) (by omega) (fun c98 => ?_) (fun c98 => ?_)
            · exact absurd c98 (by omega)
            · refine q_iload C dX4_unlike_101 rfl ?_
              refine q_iload C dX4_unlike_103 rfl ?_
              refine q_callS (As := [_, _]) (nA := 2) C dX4_unlike_105 (m_spotOf _ _ _ _ _) gX4_unlike_X4_spotOf rfl (by decide +kernel) rfl ⟨Nat.le_of_ble_eq_true rfl, Nat.le_of_ble_eq_true rfl⟩ (Nat.le_of_ble_eq_true rfl) ⟨Nat.le_of_ble_eq_true rfl, Nat.le_of_ble_eq_true rfl⟩ (fun v105 g105 h105 => ?_)
              obtain ⟨rfl, rfl⟩ := h105
              refine q_top (show Value.int _ = Value.int _ from congrArg Value.int (nv_spotOf _ _)) ?_
              refine q_istore C dX4_unlike_108 (by decide) rfl ?_
              refine q_aload_n C dX4_unlike_110 rfl ?_
              refine x_getRN C (ci := 0) (k := 6) (C0 := RX0) (T := TX0) (NF := 8) (ref := RX0) (host := RX4) dX4_unlike_111 (fr_Bsho hb8) rfl iX4_unlike_X0 (by decide) (by decide +kernel) rfl ?_
              refine q_iload C dX4_unlike_114 rfl ?_
              refine x_ialdN C dX4_unlike_116 (ia_Bsho hb8) (by decide) (by omega) ?_
              refine q_aload C dX4_unlike_117 rfl ?_
              refine x_getRN C (ci := 0) (k := 6) (C0 := RX0) (T := TX0) (NF := 8) (ref := RX0) (host := RX4) dX4_unlike_119 (fr_Bsho hb8d) rfl iX4_unlike_X0 (by decide) (by decide +kernel) rfl ?_
              refine q_iload C dX4_unlike_122 rfl ?_
              refine x_ialdN C dX4_unlike_124 (ia_Bsho hb8d) (by decide) (by omega) ?_
              refine q_icmpeq C (tgt := 131) dX4_unlike_125 (by decide) (fun c125 => ?_) (fun c125 => ?_)
              · refine q_iinc1 C dX4_unlike_131 rfl (by decide) rfl ?_
                refine q_goto C (tgt := 94) dX4_unlike_134 (by decide) ?_
                have ih9 := ih_k () Xv Y ⟨rfl, rfl⟩
                rw [es, show kb_cun X (kb_tn b) (kb_tn d) (kb_tn (X (92 + 7 * kb_tn b) 2)) r k = 0 from by
                  unfold kb_cun
                  rw [hsb r (by omega) k hk_k, hsd r (by omega) k hk_k] at c125
                  first | rw [if_pos c125] | rw [if_neg c125]] at ih9
                exact q_mask [true, true, true, true, true, true, true, true, true, false] ih9
              · refine q_iinc1 C dX4_unlike_128 rfl (by decide) rfl ?_
                refine q_iinc1 C dX4_unlike_131 rfl (by decide) rfl ?_
                refine q_goto C (tgt := 94) dX4_unlike_134 (by decide) ?_
                have ih9 := ih_k () Xv Y ⟨rfl, rfl⟩
                rw [es, show kb_cun X (kb_tn b) (kb_tn d) (kb_tn (X (92 + 7 * kb_tn b) 2)) r k = 1 from by
                  unfold kb_cun
                  rw [hsb r (by omega) k hk_k, hsd r (by omega) k hk_k] at c125
                  first | rw [if_pos c125] | rw [if_neg c125]] at ih9
                exact q_mask [true, true, true, true, true, true, true, true, true, false] ih9
          · intro a2 X2 Y2 hI_k
            obtain ⟨rfl, rfl⟩ := hI_k
            have hkn3 : kb_kn (kb_tn (X (92 + 7 * kb_tn b) 2)) r ≤ 3 := kb_kn_le hn
            refine q_iload C dX4_unlike_94 rfl ?_
            refine q_iload C dX4_unlike_96 rfl ?_
            refine q_icmpgeN C (tgt := 137) dX4_unlike_98 (by decide) (by omega) (by omega) (fun c98 => ?_) (fun c98 => ?_)
            · refine q_iinc1 C dX4_unlike_137 rfl (by decide) rfl ?_
              refine q_goto C (tgt := 71) dX4_unlike_140 (by decide) ?_
              exact q_mask [true, true, true, true, true, true, true, false, false, false] (ih_r () _ _ ⟨rfl, rfl⟩)
            · exact absurd c98 (by omega)
      · intro a1 X1 Y1 hI_r
        obtain ⟨rfl, rfl⟩ := hI_r
        refine q_iload C dX4_unlike_71 rfl ?_
        refine q_aload_n C dX4_unlike_73 rfl ?_
        refine x_getIN C (ci := 0) (k := 3) (C0 := RX0) (T := TX0) (NF := 8) (ref := RX0) (host := RX4) dX4_unlike_74 (fi_Brow hb8) rfl iX4_unlike_X0 (by decide) (by decide +kernel) rfl ?_
        refine q_top (show Value.int _ = Value.int _ from congrArg Value.int ((hvB 3).trans hro)) ?_
        refine q_icmpgeN C (tgt := 143) dX4_unlike_77 (by decide) (by omega) (by omega) (fun c77 => ?_) (fun c77 => ?_)
        · refine q_iload C dX4_unlike_143 rfl ?_
          exact q_retX (by decide) (by decide) (q_iret C dX4_unlike_145 ⟨⟨hB, hBd⟩, ⟨c22, c34⟩, rfl, _, rfl, fun z h1 h2 h3 h4 h5 h6 => (hv.1 z h4 h5 h6).trans (hw.1 z h1 h2 h3)⟩)
        · exact absurd c77 (by omega)
    · exact q_throwG (cls := kb_IAE) C hx dX4_unlike_37 dX4_unlike_40 dX4_unlike_41 dX4_unlike_43 dX4_unlike_46 (by decide +kernel) (List.mem_of_getElem? (i := 1) rfl) (List.mem_of_getElem? (i := 2) rfl) C.2.2.2.2.2.2.2.2.2.2.2.2.2.2.2.2.2.2.1 (fun w h => List.mem_cons_of_mem _ (by first | exact List.mem_append_right _ h | exact List.mem_append_left _ (List.mem_append_right _ h) | exact List.mem_append_left _ (List.mem_append_left _ (List.mem_append_right _ h)) | exact List.mem_append_left _ (List.mem_append_left _ (List.mem_append_left _ (List.mem_append_right _ h))) | exact List.mem_append_left _ (List.mem_append_left _ (List.mem_append_left _ (List.mem_append_left _ (List.mem_append_right _ h)))))) (by decide +kernel) (by decide +kernel) (by decide) (by decide) (by decide) (by decide) (by decide) (by decide) ⟨rfl, Or.inr ⟨rfl, ⟨hB, hBd⟩, fun h => c34 h.2⟩⟩
def kb_noPc (X : Nat → Nat → Int32) (n h0 : Int32) : Prop := kb_tn (X 0 4) = 8 ∨ n < nI 2 ∨ ¬ n ≤ nI 6 ∨ h0 < nI 1 ∨ ¬ h0 ≤ nI 16
theorem kb_rng {a : Int32} {lo hi : Nat} (h1 : ¬ a < nI lo) (h2 : a ≤ nI hi) (hl : lo < 2 ^ 31) (hh : hi < 2 ^ 31) : a = nI (kb_tn a) ∧ lo ≤ kb_tn a ∧ kb_tn a ≤ hi := by
  have h0 : ¬ a < 0 := fun q => h1 (by
    have e0 : (0 : Int32) = nI 0 := rfl
    rw [e0] at q
    rw [Int32.lt_iff_toInt_lt] at q ⊢
    rw [nI_toInt (by omega)] at q ⊢
    omega)
  obtain ⟨j, hj, rfl⟩ := nI_of h0
  rw [kb_tn_nI hj]
  refine ⟨rfl, ?_, (nI_leI hj hh).mp h2⟩
  rcases Nat.lt_or_ge j lo with q | q
  · exact absurd ((nI_ltI hj hl).mpr q) h1
  · exact q
theorem iX4_picture_X4 : ∀ w ∈ wsX40, w ∈ wsX4_picture := fun _ h => List.mem_cons_of_mem _ (by first | exact h | exact List.mem_append_right _ h | exact List.mem_append_left _ (List.mem_append_right _ h) | exact List.mem_append_left _ (List.mem_append_left _ (List.mem_append_right _ h)) | exact List.mem_append_left _ (List.mem_append_left _ (List.mem_append_left _ (List.mem_append_right _ h))) | exact List.mem_append_left _ (List.mem_append_left _ (List.mem_append_left _ (List.mem_append_left _ (List.mem_append_right _ h)))) | exact List.mem_append_left _ (List.mem_append_left _ (List.mem_append_left _ (List.mem_append_left _ (List.mem_append_left _ (List.mem_append_right _ h))))))
set_option maxRecDepth 100000 in
set_option maxHeartbeats 4000000 in
/-- X4.picture -/
theorem m_picture (l : Launch) (E : kb_E) (X : Nat → Nat → Int32) (Y : Nat → Nat → Int64) (n h0 : Int32) (hpc : kb_le (X 0 4) 8) : kb_Met l E 202 yX4_picture wsX4_picture ({ frames := 1, cells := 0, slots := 0, locals := 23 }) [.ref (E.2.2.2 0), .int n, .int h0] (kb_ent E X Y) (fun v g' => (kb_noPc X n h0 ∧ v = some (.int (-1)) ∧ g' = kb_ent E X Y) ∨ (¬ kb_noPc X n h0 ∧ v = some (.int (nI (kb_tn (X 0 4)))) ∧ ∃ X1, kb_bgn (kb_tn (X 0 4)) (kb_tn n) (kb_tn h0) 48 6 X X1 ∧ g' = kb_ent E (va_up X1 0 (upd (X 0) 4 (nI ((kb_tn (X 0 4)) + 1)))) Y)) := by
  refine kb_enter (cc := cX4_picture) (maxL := 3) (ret := (some .int)) (by decide +kernel) rfl (by simp [Value.category]) (Nat.le_of_ble_eq_true rfl) ?_
  intro p e s m args below meth c C hini
  refine q_aload_n C dX4_picture_0 rfl ?_
  refine x_getI C (ci := 4) (k := 4) (C0 := RX4) (T := TX4) (NF := 5) (ref := RX4) (host := RX4) dX4_picture_1 fi_Kpc rfl iX4_picture_X4 (by decide) (List.mem_of_getElem? (i := 1) rfl) rfl ?_
  refine q_top (show Value.int _ = Value.int _ from congrArg Value.int (hpc.1)) ?_
  refine q_bipush C (v := nI 8) dX4_picture_4 (by decide) ?_
  refine q_icmpgeN C (tgt := 27) dX4_picture_6 (by decide) (by have := hpc.2; omega) (by omega) (fun c6 => ?_) (fun c6 => ?_)
  · have hno : kb_noPc X n h0 := Or.inl (by have := hpc.2; omega)
    refine q_iconst C (v := -1) dX4_picture_27 (by decide) ?_
    exact q_iret C dX4_picture_28 (Or.inl ⟨hno, rfl, rfl⟩)
  · refine q_iload_n C dX4_picture_9 rfl ?_
    refine q_callS (As := [_]) (nA := 1) C dX4_picture_10 (m_mayBe _ _ _ _) gX4_picture_X4_mayBeThreads rfl (by decide +kernel) rfl ⟨Nat.le_of_ble_eq_true rfl, Nat.le_of_ble_eq_true rfl⟩ (Nat.le_of_ble_eq_true rfl) ⟨Nat.le_of_ble_eq_true rfl, Nat.le_of_ble_eq_true rfl⟩ (fun v10 g10 h10 => ?_)
    obtain ⟨rfl, rfl⟩ := h10
    refine q_ifeq C (tgt := 27) dX4_picture_13 (by decide) (fun c13 => ?_) (fun c13 => ?_)
    · have hno : kb_noPc X n h0 := by
        by_cases z : n < nI 2 ∨ ¬ n ≤ nI 6
        · exact Or.inr (z.elim Or.inl (fun y => Or.inr (Or.inl y)))
        · exact absurd c13 (by rw [if_pos (kb_mayb.mpr z)]; decide)
      refine q_iconst C (v := -1) dX4_picture_27 (by decide) ?_
      exact q_iret C dX4_picture_28 (Or.inl ⟨hno, rfl, rfl⟩)
    · have hmb : ¬ (n < nI 2 ∨ ¬ n ≤ nI 6) := fun z => c13 (by rw [if_neg (fun q => (kb_mayb.mp q) z)])
      refine q_iload_n C dX4_picture_16 rfl ?_
      refine q_iconst C (v := nI 1) dX4_picture_17 (by decide) ?_
      refine q_icmplt C (tgt := 27) dX4_picture_18 (by decide) (fun c18 => ?_) (fun c18 => ?_)
      · have hno : kb_noPc X n h0 := Or.inr (Or.inr (Or.inr (Or.inl c18)))
        refine q_iconst C (v := -1) dX4_picture_27 (by decide) ?_
        exact q_iret C dX4_picture_28 (Or.inl ⟨hno, rfl, rfl⟩)
      · refine q_iload_n C dX4_picture_21 rfl ?_
        refine q_bipush C (v := nI 16) dX4_picture_22 (by decide) ?_
        refine q_icmple C (tgt := 29) dX4_picture_24 (by decide) (fun c24 => ?_) (fun c24 => ?_)
        · have hyes : ¬ kb_noPc X n h0 := fun z => by
            rcases z with z | z | z | z | z
            · omega
            · exact hmb (Or.inl z)
            · exact hmb (Or.inr z)
            · exact c18 z
            · exact z c24
          have hp8 : kb_tn (X 0 4) < 8 := by omega
          obtain ⟨hnn, hn2, hn6⟩ := kb_rng (a := n) (lo := 2) (hi := 6) (fun z => hmb (Or.inl z)) (Classical.not_not.mp (fun z => hmb (Or.inr z))) (by decide) (by decide)
          obtain ⟨hhn, hh1, hh16⟩ := kb_rng (a := h0) (lo := 1) (hi := 16) c18 c24 (by decide) (by decide)
          refine q_aload_n C dX4_picture_29 rfl ?_
          refine x_getR C (ci := 4) (k := 1) (C0 := RX4) (T := TX4) (NF := 5) (ref := RX4) (host := RX4) dX4_picture_30 fr_Kpics rfl iX4_picture_X4 (by decide) (List.mem_of_getElem? (i := 2) rfl) rfl ?_
          refine q_aload_n C dX4_picture_33 rfl ?_
          refine x_getI C (ci := 4) (k := 4) (C0 := RX4) (T := TX4) (NF := 5) (ref := RX4) (host := RX4) dX4_picture_34 fi_Kpc rfl iX4_picture_X4 (by decide) (List.mem_of_getElem? (i := 1) rfl) rfl ?_
          refine q_top (show Value.int _ = Value.int _ from congrArg Value.int (hpc.1)) ?_
          refine x_aaldN C dX4_picture_37 ra_Kpics rfl (by decide) hp8 ?_
          refine q_iload_n C dX4_picture_38 rfl ?_
          refine q_top (show Value.int _ = Value.int _ from congrArg Value.int (hnn)) ?_
          refine q_iload_n C dX4_picture_39 rfl ?_
          refine q_top (show Value.int _ = Value.int _ from congrArg Value.int (hhn)) ?_
          refine x_callV (As := [_, _]) (nA := 2) (T := TX2) (NF := 10) C dX4_picture_40 (ob_P hp8) rfl (m_begin _ _ X Y (kb_tn (X 0 4)) (kb_tn n) (kb_tn h0) hp8 hn6) gX4_picture_X2_begin rfl (by decide +kernel) rfl ⟨Nat.le_of_ble_eq_true rfl, Nat.le_of_ble_eq_true rfl⟩ (Nat.le_of_ble_eq_true rfl) ⟨Nat.le_of_ble_eq_true rfl, Nat.le_of_ble_eq_true rfl⟩ (fun v40 g40 h40 => ?_)
          obtain ⟨rfl, Xg, rfl, hg⟩ := h40
          have hg0 : Xg 0 = X 0 := hg.1 0 (by omega) (by omega) (by omega)
          refine q_aload_n C dX4_picture_43 rfl ?_
          refine q_dup C dX4_picture_44 rfl ?_
          refine x_getI C (ci := 4) (k := 4) (C0 := RX4) (T := TX4) (NF := 5) (ref := RX4) (host := RX4) dX4_picture_45 fi_Kpc rfl iX4_picture_X4 (by decide) (List.mem_of_getElem? (i := 1) rfl) rfl ?_
          refine q_top (show Value.int _ = Value.int _ from congrArg Value.int ((congrFun hg0 4).trans hpc.1)) ?_
          refine q_dup_x1 C dX4_picture_48 rfl rfl ?_
          refine q_iconst C (v := nI 1) dX4_picture_49 (by decide) ?_
          refine q_iaddN C dX4_picture_50 ?_
          refine x_putI C (ci := 4) (k := 4) (C0 := RX4) (T := TX4) (NF := 5) (ref := RX4) (host := RX4) (ty := .int) dX4_picture_51 fi_Kpc rfl iX4_picture_X4 tyX4_ok nmX4 (by decide) (List.mem_of_getElem? (i := 1) rfl) rfl rfl (by decide +kernel) rfl rfl ?_
          exact q_iret C dX4_picture_54 (Or.inr ⟨hyes, rfl, Xg, hg, by rw [hg0]⟩)
        · have hno : kb_noPc X n h0 := Or.inr (Or.inr (Or.inr (Or.inr c24)))
          refine q_iconst C (v := -1) dX4_picture_27 (by decide) ?_
          exact q_iret C dX4_picture_28 (Or.inl ⟨hno, rfl, rfl⟩)
/-- picture q is not worked out any more -/
def kb_unw (X : Nat → Nat → Int32) (q : Nat) : Nat → Nat → Int32 := va_up X (148 + 5 * q) (upd (X (148 + 5 * q)) 4 (nI 0))
theorem iX4_see_X2 : ∀ w ∈ wsX20, w ∈ wsX4_see := fun _ h => List.mem_cons_of_mem _ (by first | exact h | exact List.mem_append_right _ h | exact List.mem_append_left _ (List.mem_append_right _ h) | exact List.mem_append_left _ (List.mem_append_left _ (List.mem_append_right _ h)) | exact List.mem_append_left _ (List.mem_append_left _ (List.mem_append_left _ (List.mem_append_right _ h))) | exact List.mem_append_left _ (List.mem_append_left _ (List.mem_append_left _ (List.mem_append_left _ (List.mem_append_right _ h)))) | exact List.mem_append_left _ (List.mem_append_left _ (List.mem_append_left _ (List.mem_append_left _ (List.mem_append_left _ (List.mem_append_right _ h))))))
set_option maxRecDepth 100000 in
set_option maxHeartbeats 4000000 in
/-- X4.see -/
theorem m_see (l : Launch) (E : kb_E) (X : Nat → Nat → Int32) (Y : Nat → Nat → Int64) (b r k c0 : Int32) (told : Nat → Nat → Nat → Nat) (mu : Nat → Nat → Nat) (hCP : kb_CP told mu X) : kb_MetG l E 202 yX4_see wsX4_see ({ frames := 8, cells := 4, slots := 24, locals := 124 }) [.ref (E.2.2.2 0), .int b, .int r, .int k, .int c0] (kb_ent E X Y) (fun v g' => (kb_e b (X 0 4) ∧ kb_e r (X (148 + 5 * kb_tn b) 3) ∧ kb_e k (kb_knotsIn (X (148 + 5 * kb_tn b) 2) r)) ∧ kb_e c0 (nI 5) ∧ v = some (.int (X (148 + 5 * kb_tn b + 1) (3 * kb_tn r + kb_tn k))) ∧ g' = kb_ent E (kb_unw (va_up X (148 + 5 * kb_tn b + 1) (upd (X (148 + 5 * kb_tn b + 1)) (3 * kb_tn r + kb_tn k) c0)) (kb_tn b)) Y) (kb_tG E X Y (kb_e b (X 0 4) ∧ kb_e r (X (148 + 5 * kb_tn b) 3) ∧ kb_e k (kb_knotsIn (X (148 + 5 * kb_tn b) 2) r)) (kb_e c0 (nI 5))) := by
  refine kb_enterG (cc := cX4_see) (maxL := 8) (ret := (some .int)) (by decide +kernel) rfl (by simp [Value.category]) (Nat.le_of_ble_eq_true rfl) ?_
  intro p e s m args below meth c C hx
  refine q_aload_n C dX4_see_0 rfl ?_
  refine q_iload_n C dX4_see_1 rfl ?_
  refine x_callVG (As := [_]) (nA := 1) (T := TX4) (NF := 5) C hx dX4_see_2 ob_K rfl (m_pictureAt _ _ X Y b hCP.1) gX4_see_X4_pictureAt rfl (by decide +kernel) rfl ⟨Nat.le_of_ble_eq_true rfl, Nat.le_of_ble_eq_true rfl⟩ (Nat.le_of_ble_eq_true rfl) ⟨Nat.le_of_ble_eq_true rfl, Nat.le_of_ble_eq_true rfl⟩ ⟨Nat.le_of_ble_eq_true rfl, Nat.le_of_ble_eq_true rfl⟩ (fun Z g9 h => ⟨h.1, h.2.elim (fun z => Or.inl ⟨z.1, fun hc => z.2 hc.1⟩) (fun z => absurd trivial z.2.2)⟩) (fun v2 g2 h2 => ?_)
  obtain ⟨hB, rfl, rfl⟩ := h2
  obtain ⟨hbn, hbl⟩ := hB.nat hCP.1.1
  have hb8 : kb_tn b < 8 := Nat.lt_of_lt_of_le hbl hCP.1.2
  obtain ⟨⟨⟨hth, hn⟩, hn2, ⟨hro, hr16⟩, hr1⟩, htd, hmu, hwk⟩ := hCP.2 _ hbl
  refine q_astore C dX4_see_5 (by decide) rfl ?_
  refine q_iload_n C dX4_see_7 rfl ?_
  refine q_aload C dX4_see_8 rfl ?_
  refine x_getIN C (ci := 2) (k := 3) (C0 := RX2) (T := TX2) (NF := 10) (ref := RX2) (host := RX4) dX4_see_10 (fi_Prow hb8) rfl iX4_see_X2 (by decide) (by decide +kernel) rfl ?_
  refine q_callSH (As := [_, _]) (nA := 2) C hx dX4_see_13 (m_needElement _ _ _ _ _) gX4_see_X4_needElement rfl (by decide +kernel) rfl ⟨Nat.le_of_ble_eq_true rfl, Nat.le_of_ble_eq_true rfl⟩ (Nat.le_of_ble_eq_true rfl) ⟨Nat.le_of_ble_eq_true rfl, Nat.le_of_ble_eq_true rfl⟩ ⟨Nat.le_of_ble_eq_true rfl, Nat.le_of_ble_eq_true rfl⟩ (fun Z h => ⟨rfl, Or.inl ⟨h.1, fun hc => h.2 (kb_el.mpr hc.2.1)⟩⟩) (fun v13 g13 h13 => ?_)
  obtain ⟨rfl, rfl, hR⟩ := h13
  rw [kb_el] at hR
  obtain ⟨hrn, hrl⟩ := hR.nat hro
  refine q_iload_n C dX4_see_16 rfl ?_
  refine q_aload C dX4_see_17 rfl ?_
  refine x_getIN C (ci := 2) (k := 2) (C0 := RX2) (T := TX2) (NF := 10) (ref := RX2) (host := RX4) dX4_see_19 (fi_Pthr hb8) rfl iX4_see_X2 (by decide) (by decide +kernel) rfl ?_
  refine q_iload_n C dX4_see_22 rfl ?_
  refine q_callS (As := [_, _]) (nA := 2) C dX4_see_23 (m_knotsIn _ _ _ _ _) gX4_see_X4_knotsIn rfl (by decide +kernel) rfl ⟨Nat.le_of_ble_eq_true rfl, Nat.le_of_ble_eq_true rfl⟩ (Nat.le_of_ble_eq_true rfl) ⟨Nat.le_of_ble_eq_true rfl, Nat.le_of_ble_eq_true rfl⟩ (fun v23 g23 h23 => ?_)
  obtain ⟨rfl, rfl⟩ := h23
  refine q_callSH (As := [_, _]) (nA := 2) C hx dX4_see_26 (m_needElement _ _ _ _ _) gX4_see_X4_needElement rfl (by decide +kernel) rfl ⟨Nat.le_of_ble_eq_true rfl, Nat.le_of_ble_eq_true rfl⟩ (Nat.le_of_ble_eq_true rfl) ⟨Nat.le_of_ble_eq_true rfl, Nat.le_of_ble_eq_true rfl⟩ ⟨Nat.le_of_ble_eq_true rfl, Nat.le_of_ble_eq_true rfl⟩ (fun Z h => ⟨rfl, Or.inl ⟨h.1, fun hc => h.2 (kb_el.mpr hc.2.2)⟩⟩) (fun v26 g26 h26 => ?_)
  obtain ⟨rfl, rfl, hK⟩ := h26
  rw [kb_el] at hK
  have ekn : kb_knotsIn (X (148 + 5 * kb_tn b) 2) r = nI (kb_kn (kb_tn (X (148 + 5 * kb_tn b) 2)) (kb_tn r)) := by
    have h9 := nv_knotsIn (kb_tn (X (148 + 5 * kb_tn b) 2)) (by omega) (kb_tn r) (by omega) (by omega)
    rw [← hrn, ← hth] at h9
    exact h9
  have hkl3 : kb_kn (kb_tn (X (148 + 5 * kb_tn b) 2)) (kb_tn r) ≤ 3 := kb_kn_le hn
  obtain ⟨hkn, hkl⟩ := (show kb_e k (nI (kb_kn (kb_tn (X (148 + 5 * kb_tn b) 2)) (kb_tn r))) from by rw [← ekn]; exact hK).natN (by omega)
  refine q_iload C dX4_see_29 rfl ?_
  refine q_iconst C (v := nI 5) dX4_see_31 (by decide) ?_
  refine q_callSH (As := [_, _]) (nA := 2) C hx dX4_see_32 (m_needArgument _ _ _ _ _) gX4_see_X4_needArgument rfl (by decide +kernel) rfl ⟨Nat.le_of_ble_eq_true rfl, Nat.le_of_ble_eq_true rfl⟩ (Nat.le_of_ble_eq_true rfl) ⟨Nat.le_of_ble_eq_true rfl, Nat.le_of_ble_eq_true rfl⟩ ⟨Nat.le_of_ble_eq_true rfl, Nat.le_of_ble_eq_true rfl⟩ (fun Z h => ⟨rfl, Or.inr ⟨h.1, ⟨hB, hR, hK⟩, fun hc => h.2 (kb_el.mpr hc)⟩⟩) (fun v32 g32 h32 => ?_)
  obtain ⟨rfl, rfl, hC⟩ := h32
  rw [kb_el] at hC
  refine q_iload_n C dX4_see_35 rfl ?_
  refine q_top (show Value.int _ = Value.int _ from congrArg Value.int (hrn)) ?_
  refine q_iload_n C dX4_see_36 rfl ?_
  refine q_top (show Value.int _ = Value.int _ from congrArg Value.int (hkn)) ?_
  refine q_callS (As := [_, _]) (nA := 2) C dX4_see_37 (m_spotOf _ _ _ _ _) gX4_see_X4_spotOf rfl (by decide +kernel) rfl ⟨Nat.le_of_ble_eq_true rfl, Nat.le_of_ble_eq_true rfl⟩ (Nat.le_of_ble_eq_true rfl) ⟨Nat.le_of_ble_eq_true rfl, Nat.le_of_ble_eq_true rfl⟩ (fun v37 g37 h37 => ?_)
  obtain ⟨rfl, rfl⟩ := h37
  refine q_top (show Value.int _ = Value.int _ from congrArg Value.int (nv_spotOf _ _)) ?_
  refine q_istore C dX4_see_40 (by decide) rfl ?_
  refine q_aload C dX4_see_42 rfl ?_
  refine x_getRN C (ci := 2) (k := 0) (C0 := RX2) (T := TX2) (NF := 10) (ref := RX2) (host := RX4) dX4_see_44 (fr_Ptol hb8) rfl iX4_see_X2 (by decide) (by decide +kernel) rfl ?_
  refine q_iload C dX4_see_47 rfl ?_
  refine x_ialdN C dX4_see_49 (ia_Ptol hb8) (by decide) (by omega) ?_
  refine q_istore C dX4_see_50 (by decide) rfl ?_
  refine q_aload C dX4_see_52 rfl ?_
  refine x_getRN C (ci := 2) (k := 0) (C0 := RX2) (T := TX2) (NF := 10) (ref := RX2) (host := RX4) dX4_see_54 (fr_Ptol hb8) rfl iX4_see_X2 (by decide) (by decide +kernel) rfl ?_
  refine q_iload C dX4_see_57 rfl ?_
  refine q_iload C dX4_see_59 rfl ?_
  refine x_iastN C dX4_see_61 (ia_Ptol hb8) (by decide) (by omega) ?_
  refine q_aload C dX4_see_62 rfl ?_
  refine q_iconst C (v := nI 0) dX4_see_64 (by decide) ?_
  refine x_putIN C (ci := 2) (k := 4) (C0 := RX2) (T := TX2) (NF := 10) (ref := RX2) (host := RX4) (ty := .boolean) dX4_see_65 (fi_Pwor hb8) rfl iX4_see_X2 tyX2_ok nmX2 (by decide) (by decide +kernel) rfl rfl (by decide +kernel) (by decide) (by decide) ?_
  refine q_iload C dX4_see_68 rfl ?_
  exact q_retX (by decide) (by decide) (q_iret C dX4_see_70 ⟨⟨hB, hR, hK⟩, hC, rfl, rfl⟩)
theorem iX4_must_X2 : ∀ w ∈ wsX20, w ∈ wsX4_must := fun _ h => List.mem_cons_of_mem _ (by first | exact h | exact List.mem_append_right _ h | exact List.mem_append_left _ (List.mem_append_right _ h) | exact List.mem_append_left _ (List.mem_append_left _ (List.mem_append_right _ h)) | exact List.mem_append_left _ (List.mem_append_left _ (List.mem_append_left _ (List.mem_append_right _ h))) | exact List.mem_append_left _ (List.mem_append_left _ (List.mem_append_left _ (List.mem_append_left _ (List.mem_append_right _ h)))) | exact List.mem_append_left _ (List.mem_append_left _ (List.mem_append_left _ (List.mem_append_left _ (List.mem_append_left _ (List.mem_append_right _ h))))))
set_option maxRecDepth 100000 in
set_option maxHeartbeats 4000000 in
/-- X4.must -/
theorem m_must (l : Launch) (E : kb_E) (X : Nat → Nat → Int32) (Y : Nat → Nat → Int64) (b t c0 : Int32) (told : Nat → Nat → Nat → Nat) (mu : Nat → Nat → Nat) (hCP : kb_CP told mu X) : kb_MetG l E 202 yX4_must wsX4_must ({ frames := 8, cells := 3, slots := 18, locals := 124 }) [.ref (E.2.2.2 0), .int b, .int t, .int c0] (kb_ent E X Y) (fun v g' => (kb_e b (X 0 4) ∧ kb_e t (X (148 + 5 * kb_tn b) 2)) ∧ kb_e c0 (nI 5) ∧ v = some (.int (X (148 + 5 * kb_tn b + 2) (kb_tn t))) ∧ g' = kb_ent E (kb_unw (va_up X (148 + 5 * kb_tn b + 2) (upd (X (148 + 5 * kb_tn b + 2)) (kb_tn t) c0)) (kb_tn b)) Y) (kb_tG E X Y (kb_e b (X 0 4) ∧ kb_e t (X (148 + 5 * kb_tn b) 2)) (kb_e c0 (nI 5))) := by
  refine kb_enterG (cc := cX4_must) (maxL := 6) (ret := (some .int)) (by decide +kernel) rfl (by simp [Value.category]) (Nat.le_of_ble_eq_true rfl) ?_
  intro p e s m args below meth c C hx
  refine q_aload_n C dX4_must_0 rfl ?_
  refine q_iload_n C dX4_must_1 rfl ?_
  refine x_callVG (As := [_]) (nA := 1) (T := TX4) (NF := 5) C hx dX4_must_2 ob_K rfl (m_pictureAt _ _ X Y b hCP.1) gX4_must_X4_pictureAt rfl (by decide +kernel) rfl ⟨Nat.le_of_ble_eq_true rfl, Nat.le_of_ble_eq_true rfl⟩ (Nat.le_of_ble_eq_true rfl) ⟨Nat.le_of_ble_eq_true rfl, Nat.le_of_ble_eq_true rfl⟩ ⟨Nat.le_of_ble_eq_true rfl, Nat.le_of_ble_eq_true rfl⟩ (fun Z g9 h => ⟨h.1, h.2.elim (fun z => Or.inl ⟨z.1, fun hc => z.2 hc.1⟩) (fun z => absurd trivial z.2.2)⟩) (fun v2 g2 h2 => ?_)
  obtain ⟨hB, rfl, rfl⟩ := h2
  obtain ⟨hbn, hbl⟩ := hB.nat hCP.1.1
  have hb8 : kb_tn b < 8 := Nat.lt_of_lt_of_le hbl hCP.1.2
  obtain ⟨⟨⟨hth, hn⟩, hn2, ⟨hro, hr16⟩, hr1⟩, htd, hmu, hwk⟩ := hCP.2 _ hbl
  refine q_astore C dX4_must_5 (by decide) rfl ?_
  refine q_iload_n C dX4_must_7 rfl ?_
  refine q_aload C dX4_must_8 rfl ?_
  refine x_getIN C (ci := 2) (k := 2) (C0 := RX2) (T := TX2) (NF := 10) (ref := RX2) (host := RX4) dX4_must_10 (fi_Pthr hb8) rfl iX4_must_X2 (by decide) (by decide +kernel) rfl ?_
  refine q_callSH (As := [_, _]) (nA := 2) C hx dX4_must_13 (m_needElement _ _ _ _ _) gX4_must_X4_needElement rfl (by decide +kernel) rfl ⟨Nat.le_of_ble_eq_true rfl, Nat.le_of_ble_eq_true rfl⟩ (Nat.le_of_ble_eq_true rfl) ⟨Nat.le_of_ble_eq_true rfl, Nat.le_of_ble_eq_true rfl⟩ ⟨Nat.le_of_ble_eq_true rfl, Nat.le_of_ble_eq_true rfl⟩ (fun Z h => ⟨rfl, Or.inl ⟨h.1, fun hc => h.2 (kb_el.mpr hc.2)⟩⟩) (fun v13 g13 h13 => ?_)
  obtain ⟨rfl, rfl, hT⟩ := h13
  rw [kb_el] at hT
  obtain ⟨htn, htl⟩ := hT.nat hth
  refine q_iload_n C dX4_must_16 rfl ?_
  refine q_iconst C (v := nI 5) dX4_must_17 (by decide) ?_
  refine q_callSH (As := [_, _]) (nA := 2) C hx dX4_must_18 (m_needArgument _ _ _ _ _) gX4_must_X4_needArgument rfl (by decide +kernel) rfl ⟨Nat.le_of_ble_eq_true rfl, Nat.le_of_ble_eq_true rfl⟩ (Nat.le_of_ble_eq_true rfl) ⟨Nat.le_of_ble_eq_true rfl, Nat.le_of_ble_eq_true rfl⟩ ⟨Nat.le_of_ble_eq_true rfl, Nat.le_of_ble_eq_true rfl⟩ (fun Z h => ⟨rfl, Or.inr ⟨h.1, ⟨hB, hT⟩, fun hc => h.2 (kb_el.mpr hc)⟩⟩) (fun v18 g18 h18 => ?_)
  obtain ⟨rfl, rfl, hC⟩ := h18
  rw [kb_el] at hC
  refine q_aload C dX4_must_21 rfl ?_
  refine x_getRN C (ci := 2) (k := 1) (C0 := RX2) (T := TX2) (NF := 10) (ref := RX2) (host := RX4) dX4_must_23 (fr_Pfir hb8) rfl iX4_must_X2 (by decide) (by decide +kernel) rfl ?_
  refine q_iload_n C dX4_must_26 rfl ?_
  refine q_top (show Value.int _ = Value.int _ from congrArg Value.int (htn)) ?_
  refine x_ialdN C dX4_must_27 (ia_Pfir hb8) (by decide) (by omega) ?_
  refine q_istore C dX4_must_28 (by decide) rfl ?_
  refine q_aload C dX4_must_30 rfl ?_
  refine x_getRN C (ci := 2) (k := 1) (C0 := RX2) (T := TX2) (NF := 10) (ref := RX2) (host := RX4) dX4_must_32 (fr_Pfir hb8) rfl iX4_must_X2 (by decide) (by decide +kernel) rfl ?_
  refine q_iload_n C dX4_must_35 rfl ?_
  refine q_top (show Value.int _ = Value.int _ from congrArg Value.int (htn)) ?_
  refine q_iload_n C dX4_must_36 rfl ?_
  refine x_iastN C dX4_must_37 (ia_Pfir hb8) (by decide) (by omega) ?_
  refine q_aload C dX4_must_38 rfl ?_
  refine q_iconst C (v := nI 0) dX4_must_40 (by decide) ?_
  refine x_putIN C (ci := 2) (k := 4) (C0 := RX2) (T := TX2) (NF := 10) (ref := RX2) (host := RX4) (ty := .boolean) dX4_must_41 (fi_Pwor hb8) rfl iX4_must_X2 tyX2_ok nmX2 (by decide) (by decide +kernel) rfl rfl (by decide +kernel) (by decide) (by decide) ?_
  refine q_iload C dX4_must_44 rfl ?_
  exact q_retX (by decide) (by decide) (q_iret C dX4_must_46 ⟨⟨hB, hT⟩, hC, rfl, rfl⟩)
theorem iX4_copy_X0 : ∀ w ∈ wsX00, w ∈ wsX4_copy := fun _ h => List.mem_cons_of_mem _ (by first | exact h | exact List.mem_append_right _ h | exact List.mem_append_left _ (List.mem_append_right _ h) | exact List.mem_append_left _ (List.mem_append_left _ (List.mem_append_right _ h)) | exact List.mem_append_left _ (List.mem_append_left _ (List.mem_append_left _ (List.mem_append_right _ h))) | exact List.mem_append_left _ (List.mem_append_left _ (List.mem_append_left _ (List.mem_append_left _ (List.mem_append_right _ h)))) | exact List.mem_append_left _ (List.mem_append_left _ (List.mem_append_left _ (List.mem_append_left _ (List.mem_append_left _ (List.mem_append_right _ h))))))
theorem iX4_copy_X2 : ∀ w ∈ wsX20, w ∈ wsX4_copy := fun _ h => List.mem_cons_of_mem _ (by first | exact h | exact List.mem_append_right _ h | exact List.mem_append_left _ (List.mem_append_right _ h) | exact List.mem_append_left _ (List.mem_append_left _ (List.mem_append_right _ h)) | exact List.mem_append_left _ (List.mem_append_left _ (List.mem_append_left _ (List.mem_append_right _ h))) | exact List.mem_append_left _ (List.mem_append_left _ (List.mem_append_left _ (List.mem_append_left _ (List.mem_append_right _ h)))) | exact List.mem_append_left _ (List.mem_append_left _ (List.mem_append_left _ (List.mem_append_left _ (List.mem_append_left _ (List.mem_append_right _ h))))))
set_option maxRecDepth 100000 in
set_option maxHeartbeats 4000000 in
/-- X4.copy -/
theorem m_copy (l : Launch) (E : kb_E) (X : Nat → Nat → Int32) (Y : Nat → Nat → Int64) (b d : Int32) (told : Nat → Nat → Nat → Nat) (mu : Nat → Nat → Nat) (hCP : kb_CP told mu X) (hCB : kb_CB X) : kb_MetG l E 202 yX4_copy wsX4_copy ({ frames := 8, cells := 2, slots := 12, locals := 124 }) [.ref (E.2.2.2 0), .int b, .int d] (kb_ent E X Y) (fun v g' => (kb_e b (X 0 4) ∧ kb_e d (X 0 3)) ∧ ((¬ (X (148 + 5 * kb_tn b) 2 = X (92 + 7 * kb_tn d) 2 ∧ X (148 + 5 * kb_tn b) 3 = X (92 + 7 * kb_tn d) 3) ∧ v = some (.int (nI 0)) ∧ g' = kb_ent E X Y) ∨ ((X (148 + 5 * kb_tn b) 2 = X (92 + 7 * kb_tn d) 2 ∧ X (148 + 5 * kb_tn b) 3 = X (92 + 7 * kb_tn d) 3) ∧ v = some (.int (nI 1)) ∧ ∃ X', g' = kb_ent E X' Y ∧ (∀ z, z ≠ 148 + 5 * kb_tn b → z ≠ 148 + 5 * kb_tn b + 1 → z ≠ 92 + 7 * kb_tn d + 3 → z ≠ 92 + 7 * kb_tn d + 4 → z ≠ 92 + 7 * kb_tn d + 5 → X' z = X z) ∧ (∀ j, j ≠ 4 → X' (148 + 5 * kb_tn b) j = X (148 + 5 * kb_tn b) j) ∧ X' (148 + 5 * kb_tn b) 4 = nI 0 ∧ ∀ r, r < (kb_tn (X (92 + 7 * kb_tn d) 3)) → ∀ k, k < kb_kn (kb_tn (X (92 + 7 * kb_tn d) 2)) r → X' (148 + 5 * kb_tn b + 1) (3 * r + k) = X (92 + 7 * kb_tn d + 1) (kb_sh (kb_kd (X (92 + 7 * kb_tn d + 2))) (kb_tn (X (92 + 7 * kb_tn d) 2)) r k)))) (kb_tG E X Y (kb_e b (X 0 4) ∧ kb_e d (X 0 3)) (True)) := by
  refine kb_enterG (cc := cX4_copy) (maxL := 6) (ret := (some .boolean)) (by decide +kernel) rfl (by simp [Value.category]) (Nat.le_of_ble_eq_true rfl) ?_
  intro p e s m args below meth c C hx
  refine q_aload_n C dX4_copy_0 rfl ?_
  refine q_iload_n C dX4_copy_1 rfl ?_
  refine x_callVG (As := [_]) (nA := 1) (T := TX4) (NF := 5) C hx dX4_copy_2 ob_K rfl (m_pictureAt _ _ X Y b hCP.1) gX4_copy_X4_pictureAt rfl (by decide +kernel) rfl ⟨Nat.le_of_ble_eq_true rfl, Nat.le_of_ble_eq_true rfl⟩ (Nat.le_of_ble_eq_true rfl) ⟨Nat.le_of_ble_eq_true rfl, Nat.le_of_ble_eq_true rfl⟩ ⟨Nat.le_of_ble_eq_true rfl, Nat.le_of_ble_eq_true rfl⟩ (fun Z g9 h => ⟨h.1, h.2.elim (fun z => Or.inl ⟨z.1, fun hc => z.2 hc.1⟩) (fun z => absurd trivial z.2.2)⟩) (fun v2 g2 h2 => ?_)
  obtain ⟨hB, rfl, rfl⟩ := h2
  obtain ⟨hbn, hbl⟩ := hB.nat hCP.1.1
  have hb8 : kb_tn b < 8 := Nat.lt_of_lt_of_le hbl hCP.1.2
  obtain ⟨⟨⟨hth, hn⟩, hn2, ⟨hro, hr16⟩, hr1⟩, htd, hmu, hwk⟩ := hCP.2 _ hbl
  refine q_astore_n C dX4_copy_5 (by decide) rfl ?_
  refine q_aload_n C dX4_copy_6 rfl ?_
  refine q_iload_n C dX4_copy_7 rfl ?_
  refine x_callVG (As := [_]) (nA := 1) (T := TX4) (NF := 5) C hx dX4_copy_8 ob_K rfl (m_bandAt _ _ X Y d hCB.1) gX4_copy_X4_bandAt rfl (by decide +kernel) rfl ⟨Nat.le_of_ble_eq_true rfl, Nat.le_of_ble_eq_true rfl⟩ (Nat.le_of_ble_eq_true rfl) ⟨Nat.le_of_ble_eq_true rfl, Nat.le_of_ble_eq_true rfl⟩ ⟨Nat.le_of_ble_eq_true rfl, Nat.le_of_ble_eq_true rfl⟩ (fun Z g9 h => ⟨h.1, h.2.elim (fun z => Or.inl ⟨z.1, fun hc => z.2 hc.2⟩) (fun z => absurd trivial z.2.2)⟩) (fun v8 g8 h8 => ?_)
  obtain ⟨hBd, rfl, rfl⟩ := h8
  obtain ⟨hbnd, hbld⟩ := hBd.nat hCB.1.1
  have hb8d : kb_tn d < 8 := Nat.lt_of_lt_of_le hbld hCB.1.2
  obtain ⟨⟨hthd, hnd⟩, hn2d, hrod, hr16d⟩ := hCB.2 _ hbld
  refine q_astore C dX4_copy_11 (by decide) rfl ?_
  refine q_aload_n C dX4_copy_13 rfl ?_
  refine x_getIN C (ci := 2) (k := 2) (C0 := RX2) (T := TX2) (NF := 10) (ref := RX2) (host := RX4) dX4_copy_14 (fi_Pthr hb8) rfl iX4_copy_X2 (by decide) (by decide +kernel) rfl ?_
  refine q_aload C dX4_copy_17 rfl ?_
  refine x_getIN C (ci := 0) (k := 2) (C0 := RX0) (T := TX0) (NF := 8) (ref := RX0) (host := RX4) dX4_copy_19 (fi_Bthr hb8d) rfl iX4_copy_X0 (by decide) (by decide +kernel) rfl ?_
  refine q_icmpne C (tgt := 37) dX4_copy_22 (by decide) (fun c22 => ?_) (fun c22 => ?_)
  · refine q_iconst C (v := nI 0) dX4_copy_37 (by decide) ?_
    exact q_retX (by decide) (by decide) (q_zret C dX4_copy_38 (by decide) ⟨⟨hB, hBd⟩, Or.inl ⟨fun h => by first | exact c22 h.1 | exact c34 h.2, rfl, rfl⟩⟩)
  · refine q_aload_n C dX4_copy_25 rfl ?_
    refine x_getIN C (ci := 2) (k := 3) (C0 := RX2) (T := TX2) (NF := 10) (ref := RX2) (host := RX4) dX4_copy_26 (fi_Prow hb8) rfl iX4_copy_X2 (by decide) (by decide +kernel) rfl ?_
    refine q_aload C dX4_copy_29 rfl ?_
    refine x_getIN C (ci := 0) (k := 3) (C0 := RX0) (T := TX0) (NF := 8) (ref := RX0) (host := RX4) dX4_copy_31 (fi_Brow hb8d) rfl iX4_copy_X0 (by decide) (by decide +kernel) rfl ?_
    refine q_icmpeq C (tgt := 39) dX4_copy_34 (by decide) (fun c34 => ?_) (fun c34 => ?_)
    · refine q_aload C dX4_copy_39 rfl ?_
      refine q_aload C dX4_copy_41 rfl ?_
      refine x_getIN C (ci := 0) (k := 3) (C0 := RX0) (T := TX0) (NF := 8) (ref := RX0) (host := RX4) dX4_copy_43 (fi_Brow hb8d) rfl iX4_copy_X0 (by decide) (by decide +kernel) rfl ?_
      refine q_top (show Value.int _ = Value.int _ from congrArg Value.int (hrod)) ?_
      refine x_callV (As := [_]) (nA := 1) (T := TX0) (NF := 8) C dX4_copy_46 (ob_B hb8d) rfl (m_walk _ _ X Y (kb_tn d) (kb_tn (X (92 + 7 * kb_tn d) 2)) (kb_tn (X (92 + 7 * kb_tn d) 3)) hb8d hnd hn2d hr16d hthd) gX4_copy_X0_walk rfl (by decide +kernel) rfl ⟨Nat.le_of_ble_eq_true rfl, Nat.le_of_ble_eq_true rfl⟩ (Nat.le_of_ble_eq_true rfl) ⟨Nat.le_of_ble_eq_true rfl, Nat.le_of_ble_eq_true rfl⟩ (fun v46 g46 h46 => ?_)
      obtain ⟨rfl, Xw, rfl, hw⟩ := h46
      refine q_iconst C (v := nI 0) dX4_copy_49 (by decide) ?_
      refine q_istore C dX4_copy_50 (by decide) rfl ?_
      refine q_mask [true, true, true, true, true, true] (q_for (σ := Unit) (k0 := 0) (48) (fun k _ X' Y' => Y = Y' ∧ (∀ z, z ≠ 148 + 5 * kb_tn b + 1 → X' z = Xw z) ∧ ∀ j, j < k → X' (148 + 5 * kb_tn b + 1) j = Xw (92 + 7 * kb_tn d + 5) j) (fun k _ => [some (.ref (E.2.2.2 0)), some (.int b), some (.int d), some (.ref (E.2.2.2 (148 + 5 * kb_tn b))), some (.ref (E.2.2.2 (92 + 7 * kb_tn d))), some (.int (nI k))]) (Nat.zero_le _) () (⟨rfl, fun _ _ => rfl, fun j hj => absurd hj (Nat.not_lt_zero _)⟩) ?_ ?_)
      · intro k a1 Xa Ya hk_k hk0_k hI_k ih_k
        obtain ⟨rfl, hI1⟩ := hI_k
        refine q_iload C dX4_copy_52 rfl ?_
        refine q_bipush C (v := nI 48) dX4_copy_54 (by decide) ?_
        refine q_icmpgeN C (tgt := 80) dX4_copy_56 (by decide) (by omega) (by omega) (fun c56 => ?_) (fun c56 => ?_)
        · exact absurd c56 (by omega)
        · refine q_aload_n C dX4_copy_59 rfl ?_
          refine x_getRN C (ci := 2) (k := 0) (C0 := RX2) (T := TX2) (NF := 10) (ref := RX2) (host := RX4) dX4_copy_60 (fr_Ptol hb8) rfl iX4_copy_X2 (by decide) (by decide +kernel) rfl ?_
          refine q_iload C dX4_copy_63 rfl ?_
          refine q_aload C dX4_copy_65 rfl ?_
          refine x_getRN C (ci := 0) (k := 6) (C0 := RX0) (T := TX0) (NF := 8) (ref := RX0) (host := RX4) dX4_copy_67 (fr_Bsho hb8d) rfl iX4_copy_X0 (by decide) (by decide +kernel) rfl ?_
          refine q_iload C dX4_copy_70 rfl ?_
          refine x_ialdN C dX4_copy_72 (ia_Bsho hb8d) (by decide) (by omega) ?_
          refine x_iastN C dX4_copy_73 (ia_Ptol hb8) (by decide) (by omega) ?_
          refine q_iinc1 C dX4_copy_74 rfl (by decide) rfl ?_
          refine q_goto C (tgt := 52) dX4_copy_77 (by decide) ?_
          exact q_mask [true, true, true, true, true, true] (ih_k () _ _ ⟨rfl, fun z hz => by rw [kb_up_ne hz]; exact hI1.1 z hz, fun j hj => by
            rw [kb_up_self]
            by_cases e : j = k
            · subst e; rw [upd, if_pos rfl]; rw [hI1.1 _ (by omega)]
            · rw [upd, if_neg e]; exact hI1.2 j (by omega)⟩)
      · intro a1 Xa Ya hI_k
        obtain ⟨rfl, hI1⟩ := hI_k
        refine q_iload C dX4_copy_52 rfl ?_
        refine q_bipush C (v := nI 48) dX4_copy_54 (by decide) ?_
        refine q_icmpgeN C (tgt := 80) dX4_copy_56 (by decide) (by omega) (by omega) (fun c56 => ?_) (fun c56 => ?_)
        · refine q_aload_n C dX4_copy_80 rfl ?_
          refine q_iconst C (v := nI 0) dX4_copy_81 (by decide) ?_
          refine x_putIN C (ci := 2) (k := 4) (C0 := RX2) (T := TX2) (NF := 10) (ref := RX2) (host := RX4) (ty := .boolean) dX4_copy_82 (fi_Pwor hb8) rfl iX4_copy_X2 tyX2_ok nmX2 (by decide) (by decide +kernel) rfl rfl (by decide +kernel) (by decide) (by decide) ?_
          refine q_world (show _ = kb_ent E (kb_unw Xa (kb_tn b)) Y from rfl) ?_
          refine q_iconst C (v := nI 1) dX4_copy_85 (by decide) ?_
          exact q_retX (by decide) (by decide) (q_zret C dX4_copy_86 (by decide) ⟨⟨hB, hBd⟩, Or.inr ⟨⟨c22, c34⟩, rfl, _, rfl, fun z a1 a2 a3 a4 a5 => by rw [kb_unw, kb_up_ne a1, hI1.1 z a2]; exact hw.1 z a3 a4 a5, fun j hj => by rw [kb_unw, kb_up_self, upd, if_neg hj, hI1.1 _ (by omega), hw.1 _ (by omega) (by omega) (by omega)], by rw [kb_unw, kb_up_self, upd, if_pos rfl], fun r hr k hk => by
        have hk3 := kb_kn_le (r := r) hnd
        rw [kb_unw, kb_up_ne (by omega), hI1.2 _ (by omega)]
        exact hw.2.2.2 r hr k hk⟩⟩)
        · exact absurd c56 (by omega)
    · refine q_iconst C (v := nI 0) dX4_copy_37 (by decide) ?_
      exact q_retX (by decide) (by decide) (q_zret C dX4_copy_38 (by decide) ⟨⟨hB, hBd⟩, Or.inl ⟨fun h => by first | exact c22 h.1 | exact c34 h.2, rfl, rfl⟩⟩)
theorem iX4_starts_X2 : ∀ w ∈ wsX20, w ∈ wsX4_starts := fun _ h => List.mem_cons_of_mem _ (by first | exact h | exact List.mem_append_right _ h | exact List.mem_append_left _ (List.mem_append_right _ h) | exact List.mem_append_left _ (List.mem_append_left _ (List.mem_append_right _ h)) | exact List.mem_append_left _ (List.mem_append_left _ (List.mem_append_left _ (List.mem_append_right _ h))) | exact List.mem_append_left _ (List.mem_append_left _ (List.mem_append_left _ (List.mem_append_left _ (List.mem_append_right _ h)))) | exact List.mem_append_left _ (List.mem_append_left _ (List.mem_append_left _ (List.mem_append_left _ (List.mem_append_left _ (List.mem_append_right _ h))))))
set_option maxRecDepth 100000 in
set_option maxHeartbeats 4000000 in
/-- X4.starts -/
theorem m_starts (l : Launch) (E : kb_E) (X : Nat → Nat → Int32) (Y : Nat → Nat → Int64) (b : Int32) (told : Nat → Nat → Nat → Nat) (mu : Nat → Nat → Nat) (hCP : kb_CP told mu X) : kb_MetG l E 202 yX4_starts wsX4_starts ({ frames := 9, cells := 1, slots := 6, locals := 146 }) [.ref (E.2.2.2 0), .int b] (kb_ent E X Y) (fun v g' => kb_e b (X 0 4) ∧ v = some (.int (nI (kb_ct (kb_St (kb_tn (X (148 + 5 * kb_tn b) 2)) (kb_tn (X (148 + 5 * kb_tn b) 3)) (told (kb_tn b)) (mu (kb_tn b))) 4096))) ∧ ∃ X' Y', g' = kb_ent E X' Y' ∧ kb_sL Y Y' ∧ kb_wout (kb_tn b) (kb_tn (X (148 + 5 * kb_tn b) 2)) (kb_tn (X (148 + 5 * kb_tn b) 3)) (told (kb_tn b)) (mu (kb_tn b)) X X') (kb_tG E X Y (kb_e b (X 0 4)) (True)) := by
  refine kb_enterG (cc := cX4_starts) (maxL := 2) (ret := (some .int)) (by decide +kernel) rfl (by simp [Value.category]) (Nat.le_of_ble_eq_true rfl) ?_
  intro p e s m args below meth c C hx
  refine q_aload_n C dX4_starts_0 rfl ?_
  refine q_iload_n C dX4_starts_1 rfl ?_
  refine x_callVG (As := [_]) (nA := 1) (T := TX4) (NF := 5) C hx dX4_starts_2 ob_K rfl (m_workedOutAt _ _ X Y b told mu hCP) gX4_starts_X4_workedOutAt rfl (by decide +kernel) rfl ⟨Nat.le_of_ble_eq_true rfl, Nat.le_of_ble_eq_true rfl⟩ (Nat.le_of_ble_eq_true rfl) ⟨Nat.le_of_ble_eq_true rfl, Nat.le_of_ble_eq_true rfl⟩ ⟨Nat.le_of_ble_eq_true rfl, Nat.le_of_ble_eq_true rfl⟩ (fun Z g9 h => ⟨h.1, h.2.elim (fun z => Or.inl ⟨z.1, fun hc => z.2 hc⟩) (fun z => absurd trivial z.2.2)⟩) (fun v2 g2 h2 => ?_)
  obtain ⟨hB, rfl, Xo, Yo, rfl, hsL, hwo⟩ := h2
  obtain ⟨hbn, hbl⟩ := hB.nat hCP.1.1
  have hb8 : kb_tn b < 8 := Nat.lt_of_lt_of_le hbl hCP.1.2
  obtain ⟨⟨⟨hth, hn⟩, hn2, ⟨hro, hr16⟩, hr1⟩, htd, hmu, -⟩ := hCP.2 _ hbl
  have hct := kb_ct_le (kb_St (kb_tn (X (148 + 5 * kb_tn b) 2)) (kb_tn (X (148 + 5 * kb_tn b) 3)) (told (kb_tn b)) (mu (kb_tn b))) 4096
  have h5 : Xo (148 + 5 * kb_tn b) 5 = nI (kb_ct (kb_St (kb_tn (X (148 + 5 * kb_tn b) 2)) (kb_tn (X (148 + 5 * kb_tn b) 3)) (told (kb_tn b)) (mu (kb_tn b))) 4096) := hwo.2.2.2.2.1
  refine x_getIN C (ci := 2) (k := 5) (C0 := RX2) (T := TX2) (NF := 10) (ref := RX2) (host := RX4) dX4_starts_5 (fi_Psta hb8) rfl iX4_starts_X2 (by decide) (by decide +kernel) rfl ?_
  refine q_top (show Value.int _ = Value.int _ from congrArg Value.int (h5)) ?_
  exact q_retX (by decide) (by decide) (q_iret C dX4_starts_8 ⟨hB, rfl, _, _, rfl, hsL, hwo⟩)
theorem iX4_start_X2 : ∀ w ∈ wsX20, w ∈ wsX4_start := fun _ h => List.mem_cons_of_mem _ (by first | exact h | exact List.mem_append_right _ h | exact List.mem_append_left _ (List.mem_append_right _ h) | exact List.mem_append_left _ (List.mem_append_left _ (List.mem_append_right _ h)) | exact List.mem_append_left _ (List.mem_append_left _ (List.mem_append_left _ (List.mem_append_right _ h))) | exact List.mem_append_left _ (List.mem_append_left _ (List.mem_append_left _ (List.mem_append_left _ (List.mem_append_right _ h)))) | exact List.mem_append_left _ (List.mem_append_left _ (List.mem_append_left _ (List.mem_append_left _ (List.mem_append_left _ (List.mem_append_right _ h))))))
set_option maxRecDepth 100000 in
set_option maxHeartbeats 4000000 in
/-- X4.start -/
theorem m_start (l : Launch) (E : kb_E) (X : Nat → Nat → Int32) (Y : Nat → Nat → Int64) (b t : Int32) (told : Nat → Nat → Nat → Nat) (mu : Nat → Nat → Nat) (hCP : kb_CP told mu X) : kb_MetG l E 202 yX4_start wsX4_start ({ frames := 9, cells := 3, slots := 18, locals := 146 }) [.ref (E.2.2.2 0), .int b, .int t] (kb_ent E X Y) (fun v g' => (kb_e b (X 0 4) ∧ kb_e t (X (148 + 5 * kb_tn b) 2)) ∧ ∃ X' Y', g' = kb_ent E X' Y' ∧ kb_sL Y Y' ∧ kb_wout (kb_tn b) (kb_tn (X (148 + 5 * kb_tn b) 2)) (kb_tn (X (148 + 5 * kb_tn b) 3)) (told (kb_tn b)) (mu (kb_tn b)) X X' ∧ v = some (.int (if (kb_ct (kb_St (kb_tn (X (148 + 5 * kb_tn b) 2)) (kb_tn (X (148 + 5 * kb_tn b) 3)) (told (kb_tn b)) (mu (kb_tn b))) 4096) = 0 then -1 else kb_colourIn (X' (148 + 5 * kb_tn b) 6) t))) (kb_tG E X Y (kb_e b (X 0 4) ∧ kb_e t (X (148 + 5 * kb_tn b) 2)) (True)) := by
  refine kb_enterG (cc := cX4_start) (maxL := 4) (ret := (some .int)) (by decide +kernel) rfl (by simp [Value.category]) (Nat.le_of_ble_eq_true rfl) ?_
  intro p e s m args below meth c C hx
  refine q_iload_n C dX4_start_0 rfl ?_
  refine q_aload_n C dX4_start_1 rfl ?_
  refine q_iload_n C dX4_start_2 rfl ?_
  refine x_callVG (As := [_]) (nA := 1) (T := TX4) (NF := 5) C hx dX4_start_3 ob_K rfl (m_pictureAt _ _ X Y b hCP.1) gX4_start_X4_pictureAt rfl (by decide +kernel) rfl ⟨Nat.le_of_ble_eq_true rfl, Nat.le_of_ble_eq_true rfl⟩ (Nat.le_of_ble_eq_true rfl) ⟨Nat.le_of_ble_eq_true rfl, Nat.le_of_ble_eq_true rfl⟩ ⟨Nat.le_of_ble_eq_true rfl, Nat.le_of_ble_eq_true rfl⟩ (fun Z g9 h => ⟨h.1, h.2.elim (fun z => Or.inl ⟨z.1, fun hc => z.2 hc.1⟩) (fun z => absurd trivial z.2.2)⟩) (fun v3 g3 h3 => ?_)
  obtain ⟨hB, rfl, rfl⟩ := h3
  obtain ⟨hbn, hbl⟩ := hB.nat hCP.1.1
  have hb8 : kb_tn b < 8 := Nat.lt_of_lt_of_le hbl hCP.1.2
  obtain ⟨⟨⟨hth, hn⟩, hn2, ⟨hro, hr16⟩, hr1⟩, htd, hmu, hwk⟩ := hCP.2 _ hbl
  refine x_getIN C (ci := 2) (k := 2) (C0 := RX2) (T := TX2) (NF := 10) (ref := RX2) (host := RX4) dX4_start_6 (fi_Pthr hb8) rfl iX4_start_X2 (by decide) (by decide +kernel) rfl ?_
  refine q_callSH (As := [_, _]) (nA := 2) C hx dX4_start_9 (m_needElement _ _ _ _ _) gX4_start_X4_needElement rfl (by decide +kernel) rfl ⟨Nat.le_of_ble_eq_true rfl, Nat.le_of_ble_eq_true rfl⟩ (Nat.le_of_ble_eq_true rfl) ⟨Nat.le_of_ble_eq_true rfl, Nat.le_of_ble_eq_true rfl⟩ ⟨Nat.le_of_ble_eq_true rfl, Nat.le_of_ble_eq_true rfl⟩ (fun Z h => ⟨rfl, Or.inl ⟨h.1, fun hc => h.2 (kb_el.mpr hc.2)⟩⟩) (fun v9 g9 h9 => ?_)
  obtain ⟨rfl, rfl, hT⟩ := h9
  rw [kb_el] at hT
  obtain ⟨htn, htl⟩ := hT.nat hth
  refine q_aload_n C dX4_start_12 rfl ?_
  refine q_iload_n C dX4_start_13 rfl ?_
  refine x_callVG (As := [_]) (nA := 1) (T := TX4) (NF := 5) C hx dX4_start_14 ob_K rfl (m_workedOutAt _ _ X Y b told mu hCP) gX4_start_X4_workedOutAt rfl (by decide +kernel) rfl ⟨Nat.le_of_ble_eq_true rfl, Nat.le_of_ble_eq_true rfl⟩ (Nat.le_of_ble_eq_true rfl) ⟨Nat.le_of_ble_eq_true rfl, Nat.le_of_ble_eq_true rfl⟩ ⟨Nat.le_of_ble_eq_true rfl, Nat.le_of_ble_eq_true rfl⟩ (fun Z g9 h => ⟨h.1, h.2.elim (fun z => Or.inl ⟨z.1, fun hc => z.2 hc.1⟩) (fun z => absurd trivial z.2.2)⟩) (fun v14 g14 h14 => ?_)
  obtain ⟨hB, rfl, Xo, Yo, rfl, hsL, hwo⟩ := h14
  obtain ⟨hbn, hbl⟩ := hB.nat hCP.1.1
  have hb8 : kb_tn b < 8 := Nat.lt_of_lt_of_le hbl hCP.1.2
  obtain ⟨⟨⟨hth, hn⟩, hn2, ⟨hro, hr16⟩, hr1⟩, htd, hmu, -⟩ := hCP.2 _ hbl
  have hct := kb_ct_le (kb_St (kb_tn (X (148 + 5 * kb_tn b) 2)) (kb_tn (X (148 + 5 * kb_tn b) 3)) (told (kb_tn b)) (mu (kb_tn b))) 4096
  have h5 : Xo (148 + 5 * kb_tn b) 5 = nI (kb_ct (kb_St (kb_tn (X (148 + 5 * kb_tn b) 2)) (kb_tn (X (148 + 5 * kb_tn b) 3)) (told (kb_tn b)) (mu (kb_tn b))) 4096) := hwo.2.2.2.2.1
  refine q_astore_n C dX4_start_17 (by decide) rfl ?_
  refine q_aload_n C dX4_start_18 rfl ?_
  refine x_getIN C (ci := 2) (k := 5) (C0 := RX2) (T := TX2) (NF := 10) (ref := RX2) (host := RX4) dX4_start_19 (fi_Psta hb8) rfl iX4_start_X2 (by decide) (by decide +kernel) rfl ?_
  refine q_top (show Value.int _ = Value.int _ from congrArg Value.int (h5)) ?_
  refine q_ifne C (tgt := 29) dX4_start_22 (by decide) (fun c22 => ?_) (fun c22 => ?_)
  · refine q_aload_n C dX4_start_29 rfl ?_
    refine x_getIN C (ci := 2) (k := 6) (C0 := RX2) (T := TX2) (NF := 10) (ref := RX2) (host := RX4) dX4_start_30 (fi_Pfst hb8) rfl iX4_start_X2 (by decide) (by decide +kernel) rfl ?_
    refine q_iload_n C dX4_start_33 rfl ?_
    refine q_callS (As := [_, _]) (nA := 2) C dX4_start_34 (m_colourIn _ _ _ _ _) gX4_start_X4_colourIn rfl (by decide +kernel) rfl ⟨Nat.le_of_ble_eq_true rfl, Nat.le_of_ble_eq_true rfl⟩ (Nat.le_of_ble_eq_true rfl) ⟨Nat.le_of_ble_eq_true rfl, Nat.le_of_ble_eq_true rfl⟩ (fun v34 g34 h34 => ?_)
    obtain ⟨rfl, rfl⟩ := h34
    exact q_retX (by decide) (by decide) (q_iret C dX4_start_37 ⟨⟨hB, hT⟩, _, _, rfl, hsL, hwo, by first | rw [if_neg (fun z => c22 (by rw [z]; rfl))] | rw [if_pos (show (kb_ct (kb_St (kb_tn (X (148 + 5 * kb_tn b) 2)) (kb_tn (X (148 + 5 * kb_tn b) 3)) (told (kb_tn b)) (mu (kb_tn b))) 4096) = 0 from (nI_eq (by omega) (by omega)).mp c22)]⟩)
  · refine q_iconst C (v := -1) dX4_start_25 (by decide) ?_
    refine q_goto C (tgt := 37) dX4_start_26 (by decide) ?_
    exact q_retX (by decide) (by decide) (q_iret C dX4_start_37 ⟨⟨hB, hT⟩, _, _, rfl, hsL, hwo, by first | rw [if_neg (fun z => c22 (by rw [z]; rfl))] | rw [if_pos (show (kb_ct (kb_St (kb_tn (X (148 + 5 * kb_tn b) 2)) (kb_tn (X (148 + 5 * kb_tn b) 3)) (told (kb_tn b)) (mu (kb_tn b))) 4096) = 0 from (nI_eq (by omega) (by omega)).mp c22)]⟩)
theorem iX4_tie_X2 : ∀ w ∈ wsX20, w ∈ wsX4_tie := fun _ h => List.mem_cons_of_mem _ (by first | exact h | exact List.mem_append_right _ h | exact List.mem_append_left _ (List.mem_append_right _ h) | exact List.mem_append_left _ (List.mem_append_left _ (List.mem_append_right _ h)) | exact List.mem_append_left _ (List.mem_append_left _ (List.mem_append_left _ (List.mem_append_right _ h))) | exact List.mem_append_left _ (List.mem_append_left _ (List.mem_append_left _ (List.mem_append_left _ (List.mem_append_right _ h)))) | exact List.mem_append_left _ (List.mem_append_left _ (List.mem_append_left _ (List.mem_append_left _ (List.mem_append_left _ (List.mem_append_right _ h))))))
theorem iX4_tie_X4 : ∀ w ∈ wsX40, w ∈ wsX4_tie := fun _ h => List.mem_cons_of_mem _ (by first | exact h | exact List.mem_append_right _ h | exact List.mem_append_left _ (List.mem_append_right _ h) | exact List.mem_append_left _ (List.mem_append_left _ (List.mem_append_right _ h)) | exact List.mem_append_left _ (List.mem_append_left _ (List.mem_append_left _ (List.mem_append_right _ h))) | exact List.mem_append_left _ (List.mem_append_left _ (List.mem_append_left _ (List.mem_append_left _ (List.mem_append_right _ h)))) | exact List.mem_append_left _ (List.mem_append_left _ (List.mem_append_left _ (List.mem_append_left _ (List.mem_append_left _ (List.mem_append_right _ h))))))
set_option maxRecDepth 100000 in
set_option maxHeartbeats 4000000 in
/-- X4.tie -/
theorem m_tie (l : Launch) (E : kb_E) (X : Nat → Nat → Int32) (Y : Nat → Nat → Int64) (b : Int32) (told : Nat → Nat → Nat → Nat) (mu : Nat → Nat → Nat) (hCP : kb_CP told mu X) (hCB : kb_CB X) : kb_MetG l E 202 yX4_tie wsX4_tie ({ frames := 9, cells := 1, slots := 6, locals := 146 }) [.ref (E.2.2.2 0), .int b] (kb_ent E X Y) (fun v g' => kb_e b (X 0 4) ∧ ∃ X' X2 Y', g' = kb_ent E X2 Y' ∧ kb_sL Y Y' ∧ kb_wout (kb_tn b) (kb_tn (X (148 + 5 * kb_tn b) 2)) (kb_tn (X (148 + 5 * kb_tn b) 3)) (told (kb_tn b)) (mu (kb_tn b)) X X' ∧ ((((kb_ct (kb_St (kb_tn (X (148 + 5 * kb_tn b) 2)) (kb_tn (X (148 + 5 * kb_tn b) 3)) (told (kb_tn b)) (mu (kb_tn b))) 4096) = 0 ∨ (kb_tn (X 0 3)) = 8) ∧ v = some (.int (-1)) ∧ X2 = X') ∨ (¬ (kb_ct (kb_St (kb_tn (X (148 + 5 * kb_tn b) 2)) (kb_tn (X (148 + 5 * kb_tn b) 3)) (told (kb_tn b)) (mu (kb_tn b))) 4096) = 0 ∧ (kb_tn (X 0 3)) < 8 ∧ ∃ s0, s0 < 4096 ∧ X' (148 + 5 * kb_tn b) 6 = nI s0 ∧ v = some (.int (nI (kb_tn (X 0 3)))) ∧ ∃ X1, kb_bcm (kb_tn (X 0 3)) (kb_tn b) (kb_tn (X (148 + 5 * kb_tn b) 2)) (kb_tn (X (148 + 5 * kb_tn b) 3)) s0 (kb_tn (X (148 + 5 * kb_tn b) 2)) (kb_tn (X (148 + 5 * kb_tn b) 3)) X' X1 ∧ X2 = va_up X1 0 (upd (X1 0) 3 (nI ((kb_tn (X 0 3)) + 1)))))) (kb_tG E X Y (kb_e b (X 0 4)) (True)) := by
  refine kb_enterG (cc := cX4_tie) (maxL := 3) (ret := (some .int)) (by decide +kernel) rfl (by simp [Value.category]) (Nat.le_of_ble_eq_true rfl) ?_
  intro p e s m args below meth c C hx
  refine q_aload_n C dX4_tie_0 rfl ?_
  refine q_iload_n C dX4_tie_1 rfl ?_
  refine x_callVG (As := [_]) (nA := 1) (T := TX4) (NF := 5) C hx dX4_tie_2 ob_K rfl (m_workedOutAt _ _ X Y b told mu hCP) gX4_tie_X4_workedOutAt rfl (by decide +kernel) rfl ⟨Nat.le_of_ble_eq_true rfl, Nat.le_of_ble_eq_true rfl⟩ (Nat.le_of_ble_eq_true rfl) ⟨Nat.le_of_ble_eq_true rfl, Nat.le_of_ble_eq_true rfl⟩ ⟨Nat.le_of_ble_eq_true rfl, Nat.le_of_ble_eq_true rfl⟩ (fun Z g9 h => ⟨h.1, h.2.elim (fun z => Or.inl ⟨z.1, fun hc => z.2 hc⟩) (fun z => absurd trivial z.2.2)⟩) (fun v2 g2 h2 => ?_)
  obtain ⟨hB, rfl, Xo, Yo, rfl, hsL, hwo⟩ := h2
  obtain ⟨hbn, hbl⟩ := hB.nat hCP.1.1
  have hb8 : kb_tn b < 8 := Nat.lt_of_lt_of_le hbl hCP.1.2
  obtain ⟨⟨⟨hth, hn⟩, hn2, ⟨hro, hr16⟩, hr1⟩, htd, hmu, -⟩ := hCP.2 _ hbl
  have hct := kb_ct_le (kb_St (kb_tn (X (148 + 5 * kb_tn b) 2)) (kb_tn (X (148 + 5 * kb_tn b) 3)) (told (kb_tn b)) (mu (kb_tn b))) 4096
  have h5 : Xo (148 + 5 * kb_tn b) 5 = nI (kb_ct (kb_St (kb_tn (X (148 + 5 * kb_tn b) 2)) (kb_tn (X (148 + 5 * kb_tn b) 3)) (told (kb_tn b)) (mu (kb_tn b))) 4096) := hwo.2.2.2.2.1
  have hbc : Xo 0 3 = nI (kb_tn (X 0 3)) := by rw [hwo.1 0 (by omega) (by omega) (by omega) (by omega) (by omega) (by omega) (by omega)]; exact hCB.1.1
  have hb88 := hCB.1.2
  refine q_astore_n C dX4_tie_5 (by decide) rfl ?_
  refine q_aload_n C dX4_tie_6 rfl ?_
  refine x_getIN C (ci := 2) (k := 5) (C0 := RX2) (T := TX2) (NF := 10) (ref := RX2) (host := RX4) dX4_tie_7 (fi_Psta hb8) rfl iX4_tie_X2 (by decide) (by decide +kernel) rfl ?_
  refine q_top (show Value.int _ = Value.int _ from congrArg Value.int (h5)) ?_
  refine q_ifeq C (tgt := 22) dX4_tie_10 (by decide) (fun c10 => ?_) (fun c10 => ?_)
  · have hz : (kb_ct (kb_St (kb_tn (X (148 + 5 * kb_tn b) 2)) (kb_tn (X (148 + 5 * kb_tn b) 3)) (told (kb_tn b)) (mu (kb_tn b))) 4096) = 0 := (nI_eq (by omega) (by omega)).mp c10
    refine q_iconst C (v := -1) dX4_tie_22 (by decide) ?_
    exact q_retX (by decide) (by decide) (q_iret C dX4_tie_23 ⟨hB, _, _, _, rfl, hsL, hwo, Or.inl ⟨by first | exact Or.inl hz | exact Or.inr (by omega), rfl, rfl⟩⟩)
  · have hnz : ¬ (kb_ct (kb_St (kb_tn (X (148 + 5 * kb_tn b) 2)) (kb_tn (X (148 + 5 * kb_tn b) 3)) (told (kb_tn b)) (mu (kb_tn b))) 4096) = 0 := fun z => c10 (by rw [z]; rfl)
    obtain ⟨s0, hs0, es0⟩ : ∃ s0, s0 < 4096 ∧ Xo (148 + 5 * kb_tn b) 6 = nI s0 := by
      rcases hwo.2.2.2.2.2.1 with ⟨u, hu1, -, -, hu4⟩ | ⟨h9, -⟩
      · exact ⟨u, hu1, hu4⟩
      · exact absurd (kb_ct_zero.mpr h9) hnz
    refine q_aload_n C dX4_tie_13 rfl ?_
    refine x_getI C (ci := 4) (k := 3) (C0 := RX4) (T := TX4) (NF := 5) (ref := RX4) (host := RX4) dX4_tie_14 fi_Kbc rfl iX4_tie_X4 (by decide) (List.mem_of_getElem? (i := 1) rfl) rfl ?_
    refine q_top (show Value.int _ = Value.int _ from congrArg Value.int (hbc)) ?_
    refine q_bipush C (v := nI 8) dX4_tie_17 (by decide) ?_
    refine q_icmpltN C (tgt := 24) dX4_tie_19 (by decide) (by omega) (by omega) (fun c19 => ?_) (fun c19 => ?_)
    · refine q_aload_n C dX4_tie_24 rfl ?_
      refine x_getR C (ci := 4) (k := 0) (C0 := RX4) (T := TX4) (NF := 5) (ref := RX4) (host := RX4) dX4_tie_25 fr_Kbands rfl iX4_tie_X4 (by decide) (List.mem_of_getElem? (i := 2) rfl) rfl ?_
      refine q_aload_n C dX4_tie_28 rfl ?_
      refine x_getI C (ci := 4) (k := 3) (C0 := RX4) (T := TX4) (NF := 5) (ref := RX4) (host := RX4) dX4_tie_29 fi_Kbc rfl iX4_tie_X4 (by decide) (List.mem_of_getElem? (i := 1) rfl) rfl ?_
      refine q_top (show Value.int _ = Value.int _ from congrArg Value.int (hbc)) ?_
      refine x_aaldN C dX4_tie_32 ra_Kbands rfl (by decide) (by omega) ?_
      refine q_aload_n C dX4_tie_33 rfl ?_
      refine x_callV (As := [_]) (nA := 1) (T := TX0) (NF := 8) C dX4_tie_34 (ob_B c19) rfl (m_become _ _ Xo Yo (kb_tn (X 0 3)) (kb_tn b) (kb_tn (X (148 + 5 * kb_tn b) 2)) (kb_tn (X (148 + 5 * kb_tn b) 3)) s0 c19 hb8 hn hr16 hs0 (hwo.2.1.trans hth) (hwo.2.2.1.trans hro) es0) gX4_tie_X0_become rfl (by decide +kernel) rfl ⟨Nat.le_of_ble_eq_true rfl, Nat.le_of_ble_eq_true rfl⟩ (Nat.le_of_ble_eq_true rfl) ⟨Nat.le_of_ble_eq_true rfl, Nat.le_of_ble_eq_true rfl⟩ (fun v34 g34 h34 => ?_)
      obtain ⟨rfl, Xb, rfl, hbm⟩ := h34
      have hb0 : Xb 0 = Xo 0 := hbm.1 0 (by omega) (by omega) (by omega)
      refine q_aload_n C dX4_tie_37 rfl ?_
      refine q_dup C dX4_tie_38 rfl ?_
      refine x_getI C (ci := 4) (k := 3) (C0 := RX4) (T := TX4) (NF := 5) (ref := RX4) (host := RX4) dX4_tie_39 fi_Kbc rfl iX4_tie_X4 (by decide) (List.mem_of_getElem? (i := 1) rfl) rfl ?_
      refine q_top (show Value.int _ = Value.int _ from congrArg Value.int ((congrFun hb0 3).trans hbc)) ?_
      refine q_dup_x1 C dX4_tie_42 rfl rfl ?_
      refine q_iconst C (v := nI 1) dX4_tie_43 (by decide) ?_
      refine q_iaddN C dX4_tie_44 ?_
      refine x_putI C (ci := 4) (k := 3) (C0 := RX4) (T := TX4) (NF := 5) (ref := RX4) (host := RX4) (ty := .int) dX4_tie_45 fi_Kbc rfl iX4_tie_X4 tyX4_ok nmX4 (by decide) (List.mem_of_getElem? (i := 1) rfl) rfl rfl (by decide +kernel) rfl rfl ?_
      exact q_retX (by decide) (by decide) (q_iret C dX4_tie_48 ⟨hB, _, _, _, rfl, hsL, hwo, Or.inr ⟨hnz, by omega, s0, hs0, es0, rfl, _, hbm, rfl⟩⟩)
    · refine q_iconst C (v := -1) dX4_tie_22 (by decide) ?_
      exact q_retX (by decide) (by decide) (q_iret C dX4_tie_23 ⟨hB, _, _, _, rfl, hsL, hwo, Or.inl ⟨by first | exact Or.inl hz | exact Or.inr (by omega), rfl, rfl⟩⟩)
theorem iX4_suspect_X2 : ∀ w ∈ wsX20, w ∈ wsX4_suspect := fun _ h => List.mem_cons_of_mem _ (by first | exact h | exact List.mem_append_right _ h | exact List.mem_append_left _ (List.mem_append_right _ h) | exact List.mem_append_left _ (List.mem_append_left _ (List.mem_append_right _ h)) | exact List.mem_append_left _ (List.mem_append_left _ (List.mem_append_left _ (List.mem_append_right _ h))) | exact List.mem_append_left _ (List.mem_append_left _ (List.mem_append_left _ (List.mem_append_left _ (List.mem_append_right _ h)))) | exact List.mem_append_left _ (List.mem_append_left _ (List.mem_append_left _ (List.mem_append_left _ (List.mem_append_left _ (List.mem_append_right _ h))))))
set_option maxRecDepth 100000 in
set_option maxHeartbeats 4000000 in
/-- X4.suspect -/
theorem m_suspect (l : Launch) (E : kb_E) (X : Nat → Nat → Int32) (Y : Nat → Nat → Int64) (b i : Int32) (told : Nat → Nat → Nat → Nat) (mu : Nat → Nat → Nat) (hCP : kb_CP told mu X) : kb_MetG l E 202 yX4_suspect wsX4_suspect ({ frames := 9, cells := 2, slots := 12, locals := 146 }) [.ref (E.2.2.2 0), .int b, .int i] (kb_ent E X Y) (fun v g' => kb_e b (X 0 4) ∧ (i = -1 ∨ kb_e i (nI (if (kb_ct (kb_St (kb_tn (X (148 + 5 * kb_tn b) 2)) (kb_tn (X (148 + 5 * kb_tn b) 3)) (told (kb_tn b)) (mu (kb_tn b))) 4096) = 0 then (kb_Lq (kb_tn (X (148 + 5 * kb_tn b) 2)) (kb_tn (X (148 + 5 * kb_tn b) 3)) (told (kb_tn b)) (mu (kb_tn b))).length else 0))) ∧ ∃ X' Y', g' = kb_ent E X' Y' ∧ kb_sL Y Y' ∧ kb_wout (kb_tn b) (kb_tn (X (148 + 5 * kb_tn b) 2)) (kb_tn (X (148 + 5 * kb_tn b) 3)) (told (kb_tn b)) (mu (kb_tn b)) X X' ∧ v = some (.int (if i = -1 then nI (if (kb_ct (kb_St (kb_tn (X (148 + 5 * kb_tn b) 2)) (kb_tn (X (148 + 5 * kb_tn b) 3)) (told (kb_tn b)) (mu (kb_tn b))) 4096) = 0 then (kb_Lq (kb_tn (X (148 + 5 * kb_tn b) 2)) (kb_tn (X (148 + 5 * kb_tn b) 3)) (told (kb_tn b)) (mu (kb_tn b))).length else 0) else nI ((kb_Lq (kb_tn (X (148 + 5 * kb_tn b) 2)) (kb_tn (X (148 + 5 * kb_tn b) 3)) (told (kb_tn b)) (mu (kb_tn b))).getD (kb_tn i) 0)))) (fun Z g9 => Z = kb_NSE ∧ ((¬ kb_e b (X 0 4) ∧ g9 = kb_ent E X Y) ∨ (kb_e b (X 0 4) ∧ ¬ (i = -1 ∨ kb_e i (nI (if (kb_ct (kb_St (kb_tn (X (148 + 5 * kb_tn b) 2)) (kb_tn (X (148 + 5 * kb_tn b) 3)) (told (kb_tn b)) (mu (kb_tn b))) 4096) = 0 then (kb_Lq (kb_tn (X (148 + 5 * kb_tn b) 2)) (kb_tn (X (148 + 5 * kb_tn b) 3)) (told (kb_tn b)) (mu (kb_tn b))).length else 0))) ∧ ∃ X' Y', g9 = kb_ent E X' Y' ∧ kb_sL Y Y' ∧ kb_wout (kb_tn b) (kb_tn (X (148 + 5 * kb_tn b) 2)) (kb_tn (X (148 + 5 * kb_tn b) 3)) (told (kb_tn b)) (mu (kb_tn b)) X X'))) := by
  refine kb_enterG (cc := cX4_suspect) (maxL := 4) (ret := (some .int)) (by decide +kernel) rfl (by simp [Value.category]) (Nat.le_of_ble_eq_true rfl) ?_
  intro p e s m args below meth c C hx
  refine q_aload_n C dX4_suspect_0 rfl ?_
  refine q_iload_n C dX4_suspect_1 rfl ?_
  refine x_callVG (As := [_]) (nA := 1) (T := TX4) (NF := 5) C hx dX4_suspect_2 ob_K rfl (m_workedOutAt _ _ X Y b told mu hCP) gX4_suspect_X4_workedOutAt rfl (by decide +kernel) rfl ⟨Nat.le_of_ble_eq_true rfl, Nat.le_of_ble_eq_true rfl⟩ (Nat.le_of_ble_eq_true rfl) ⟨Nat.le_of_ble_eq_true rfl, Nat.le_of_ble_eq_true rfl⟩ ⟨Nat.le_of_ble_eq_true rfl, Nat.le_of_ble_eq_true rfl⟩ (fun Z g9 h => h.2.elim (fun z => ⟨z.1, Or.inl ⟨z.2, h.1⟩⟩) (fun z => absurd trivial z.2.2)) (fun v2 g2 h2 => ?_)
  obtain ⟨hB, rfl, Xo, Yo, rfl, hsL, hwo⟩ := h2
  obtain ⟨hbn, hbl⟩ := hB.nat hCP.1.1
  have hb8 : kb_tn b < 8 := Nat.lt_of_lt_of_le hbl hCP.1.2
  obtain ⟨⟨⟨hth, hn⟩, hn2, ⟨hro, hr16⟩, hr1⟩, htd, hmu, -⟩ := hCP.2 _ hbl
  have hct := kb_ct_le (kb_St (kb_tn (X (148 + 5 * kb_tn b) 2)) (kb_tn (X (148 + 5 * kb_tn b) 3)) (told (kb_tn b)) (mu (kb_tn b))) 4096
  have h5 : Xo (148 + 5 * kb_tn b) 5 = nI (kb_ct (kb_St (kb_tn (X (148 + 5 * kb_tn b) 2)) (kb_tn (X (148 + 5 * kb_tn b) 3)) (told (kb_tn b)) (mu (kb_tn b))) 4096) := hwo.2.2.2.2.1
  have h9 : Xo (148 + 5 * kb_tn b) 9 = nI (if (kb_ct (kb_St (kb_tn (X (148 + 5 * kb_tn b) 2)) (kb_tn (X (148 + 5 * kb_tn b) 3)) (told (kb_tn b)) (mu (kb_tn b))) 4096) = 0 then (kb_Lq (kb_tn (X (148 + 5 * kb_tn b) 2)) (kb_tn (X (148 + 5 * kb_tn b) 3)) (told (kb_tn b)) (mu (kb_tn b))).length else 0) := by
    by_cases hz : (kb_ct (kb_St (kb_tn (X (148 + 5 * kb_tn b) 2)) (kb_tn (X (148 + 5 * kb_tn b) 3)) (told (kb_tn b)) (mu (kb_tn b))) 4096) = 0
    · rw [if_pos hz]; exact (hwo.2.2.2.2.2.2.2 hz).1
    · rw [if_neg hz]
      rcases hwo.2.2.2.2.2.1 with ⟨u, hu1, -, -, hu4⟩ | ⟨h9, -⟩
      · exact (hwo.2.2.2.2.2.2.1 u hu1 hu4).1
      · exact absurd (kb_ct_zero.mpr h9) hz
  have hlen : (if (kb_ct (kb_St (kb_tn (X (148 + 5 * kb_tn b) 2)) (kb_tn (X (148 + 5 * kb_tn b) 3)) (told (kb_tn b)) (mu (kb_tn b))) 4096) = 0 then (kb_Lq (kb_tn (X (148 + 5 * kb_tn b) 2)) (kb_tn (X (148 + 5 * kb_tn b) 3)) (told (kb_tn b)) (mu (kb_tn b))).length else 0) ≤ 40 := by
    have h1 := kb_ql_len (kb_qs (kb_lq (kb_tn (X (148 + 5 * kb_tn b) 2))) (kb_wq (kb_tn (X (148 + 5 * kb_tn b) 2)) (told (kb_tn b))) (kb_S0 (mu (kb_tn b)) 6) (kb_Az (kb_tn (X (148 + 5 * kb_tn b) 2)) (kb_tn (X (148 + 5 * kb_tn b) 3)) (told (kb_tn b)))) (kb_nq (kb_tn (X (148 + 5 * kb_tn b) 2))) (kb_kc (kb_tn (X (148 + 5 * kb_tn b) 2)) (kb_tn (X (148 + 5 * kb_tn b) 3)))
    have h2 := kb_kc_le (kb_tn (X (148 + 5 * kb_tn b) 2)) (by omega) (kb_tn (X (148 + 5 * kb_tn b) 3)) (by omega)
    split
    · exact Nat.le_trans h1 h2
    · omega
  refine q_astore_n C dX4_suspect_5 (by decide) rfl ?_
  refine q_iload_n C dX4_suspect_6 rfl ?_
  refine q_iconst C (v := -1) dX4_suspect_7 (by decide) ?_
  refine q_icmpne C (tgt := 16) dX4_suspect_8 (by decide) (fun c8 => ?_) (fun c8 => ?_)
  · refine q_iload_n C dX4_suspect_16 rfl ?_
    refine q_aload_n C dX4_suspect_17 rfl ?_
    refine x_getIN C (ci := 2) (k := 9) (C0 := RX2) (T := TX2) (NF := 10) (ref := RX2) (host := RX4) dX4_suspect_18 (fi_Psuc hb8) rfl iX4_suspect_X2 (by decide) (by decide +kernel) rfl ?_
    refine q_top (show Value.int _ = Value.int _ from congrArg Value.int (h9)) ?_
    refine q_callSH (As := [_, _]) (nA := 2) C hx dX4_suspect_21 (m_needElement _ _ _ _ _) gX4_suspect_X4_needElement rfl (by decide +kernel) rfl ⟨Nat.le_of_ble_eq_true rfl, Nat.le_of_ble_eq_true rfl⟩ (Nat.le_of_ble_eq_true rfl) ⟨Nat.le_of_ble_eq_true rfl, Nat.le_of_ble_eq_true rfl⟩ ⟨Nat.le_of_ble_eq_true rfl, Nat.le_of_ble_eq_true rfl⟩ (fun Z h => ⟨h.1, Or.inr ⟨hB, fun z => z.elim (fun y => c8 y) (fun y => h.2 (kb_el.mpr y)), _, _, rfl, hsL, hwo⟩⟩) (fun v21 g21 h21 => ?_)
    obtain ⟨rfl, rfl, hi⟩ := h21
    rw [kb_el] at hi
    obtain ⟨hin, hil⟩ := hi.natN (by omega)
    have hz : (kb_ct (kb_St (kb_tn (X (148 + 5 * kb_tn b) 2)) (kb_tn (X (148 + 5 * kb_tn b) 3)) (told (kb_tn b)) (mu (kb_tn b))) 4096) = 0 := by
      by_cases hz : (kb_ct (kb_St (kb_tn (X (148 + 5 * kb_tn b) 2)) (kb_tn (X (148 + 5 * kb_tn b) 3)) (told (kb_tn b)) (mu (kb_tn b))) 4096) = 0
      · exact hz
      · rw [if_neg hz] at hil; omega
    have hil2 := hil
    rw [if_pos hz] at hil2
    refine q_aload_n C dX4_suspect_24 rfl ?_
    refine x_getRN C (ci := 2) (k := 8) (C0 := RX2) (T := TX2) (NF := 10) (ref := RX2) (host := RX4) dX4_suspect_25 (fr_Psus hb8) rfl iX4_suspect_X2 (by decide) (by decide +kernel) rfl ?_
    refine q_iload_n C dX4_suspect_28 rfl ?_
    refine q_top (show Value.int _ = Value.int _ from congrArg Value.int (hin)) ?_
    refine x_ialdN C dX4_suspect_29 (ia_Psus hb8) (by decide) (by omega) ?_
    exact q_retX (by decide) (by decide) (q_iret C dX4_suspect_30 ⟨hB, Or.inr hi, _, _, rfl, hsL, hwo, by rw [if_neg c8, (hwo.2.2.2.2.2.2.2 hz).2 _ hil2]⟩)
  · refine q_aload_n C dX4_suspect_11 rfl ?_
    refine x_getIN C (ci := 2) (k := 9) (C0 := RX2) (T := TX2) (NF := 10) (ref := RX2) (host := RX4) dX4_suspect_12 (fi_Psuc hb8) rfl iX4_suspect_X2 (by decide) (by decide +kernel) rfl ?_
    refine q_top (show Value.int _ = Value.int _ from congrArg Value.int (h9)) ?_
    exact q_retX (by decide) (by decide) (q_iret C dX4_suspect_15 ⟨hB, Or.inl c8, _, _, rfl, hsL, hwo, by rw [if_pos c8]⟩)
theorem iX4_count_X4 : ∀ w ∈ wsX40, w ∈ wsX4_count := fun _ h => List.mem_cons_of_mem _ (by first | exact h | exact List.mem_append_right _ h | exact List.mem_append_left _ (List.mem_append_right _ h) | exact List.mem_append_left _ (List.mem_append_left _ (List.mem_append_right _ h)) | exact List.mem_append_left _ (List.mem_append_left _ (List.mem_append_left _ (List.mem_append_right _ h))) | exact List.mem_append_left _ (List.mem_append_left _ (List.mem_append_left _ (List.mem_append_left _ (List.mem_append_right _ h)))) | exact List.mem_append_left _ (List.mem_append_left _ (List.mem_append_left _ (List.mem_append_left _ (List.mem_append_left _ (List.mem_append_right _ h))))))
set_option maxRecDepth 100000 in
set_option maxHeartbeats 4000000 in
/-- X4.count -/
theorem m_count (l : Launch) (E : kb_E) (X : Nat → Nat → Int32) (Y : Nat → Nat → Int64) (w0 : Int32) : kb_MetG l E 202 yX4_count wsX4_count ({ frames := 7, cells := 1, slots := 6, locals := 103 }) [.ref (E.2.2.2 0), .int w0] (kb_ent E X Y) (fun v g' => kb_e w0 (nI 2) ∧ v = some (.int (if w0 = 0 then X 0 3 else X 0 4)) ∧ g' = kb_ent E X Y) (kb_tG E X Y (kb_e w0 (nI 2)) (True)) := by
  refine kb_enterG (cc := cX4_count) (maxL := 2) (ret := (some .int)) (by decide +kernel) rfl (by simp [Value.category]) (Nat.le_of_ble_eq_true rfl) ?_
  intro p e s m args below meth c C hx
  refine q_iload_n C dX4_count_0 rfl ?_
  refine q_iconst C (v := nI 2) dX4_count_1 (by decide) ?_
  refine q_callSH (As := [_, _]) (nA := 2) C hx dX4_count_2 (m_needElement _ _ _ _ _) gX4_count_X4_needElement rfl (by decide +kernel) rfl ⟨Nat.le_of_ble_eq_true rfl, Nat.le_of_ble_eq_true rfl⟩ (Nat.le_of_ble_eq_true rfl) ⟨Nat.le_of_ble_eq_true rfl, Nat.le_of_ble_eq_true rfl⟩ ⟨Nat.le_of_ble_eq_true rfl, Nat.le_of_ble_eq_true rfl⟩ (fun Z h => ⟨rfl, Or.inl ⟨h.1, fun hc => h.2 (kb_el.mpr hc)⟩⟩) (fun v2 g2 h2 => ?_)
  obtain ⟨rfl, rfl, hW⟩ := h2
  rw [kb_el] at hW
  refine q_iload_n C dX4_count_5 rfl ?_
  refine q_ifne C (tgt := 16) dX4_count_6 (by decide) (fun c6 => ?_) (fun c6 => ?_)
  · refine q_aload_n C dX4_count_16 rfl ?_
    refine x_getI C (ci := 4) (k := 4) (C0 := RX4) (T := TX4) (NF := 5) (ref := RX4) (host := RX4) dX4_count_17 fi_Kpc rfl iX4_count_X4 (by decide) (List.mem_of_getElem? (i := 2) rfl) rfl ?_
    exact q_retX (by decide) (by decide) (q_iret C dX4_count_20 ⟨hW, by first | rw [if_pos c6] | rw [if_neg c6], rfl⟩)
  · refine q_aload_n C dX4_count_9 rfl ?_
    refine x_getI C (ci := 4) (k := 3) (C0 := RX4) (T := TX4) (NF := 5) (ref := RX4) (host := RX4) dX4_count_10 fi_Kbc rfl iX4_count_X4 (by decide) (List.mem_of_getElem? (i := 1) rfl) rfl ?_
    refine q_goto C (tgt := 20) dX4_count_13 (by decide) ?_
    exact q_retX (by decide) (by decide) (q_iret C dX4_count_20 ⟨hW, by first | rw [if_pos c6] | rw [if_neg c6], rfl⟩)

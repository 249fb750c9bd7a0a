/-! ===== the reference: tie ===== -/
/-- in cell c the numbers F r k are laid at base + 3 r + k for the pairs of P; all else is as it was -/
def kb_laid (c base : Nat) (F : Nat → Nat → Nat) (P : Nat → Nat → Prop) (X X' : Nat → Nat → Int32) : Prop := (∀ q, q ≠ c → X' q = X q) ∧ (∀ r k, P r k → X' c (base + 3 * r + k) = nI (F r k)) ∧ ∀ q, (∀ r k, P r k → q ≠ base + 3 * r + k) → X' c q = X c q
theorem kb_laid.mono {c base : Nat} {F : Nat → Nat → Nat} {P P' : Nat → Nat → Prop} {X X' : Nat → Nat → Int32} (h : kb_laid c base F P X X') (hp : ∀ r k, P r k ↔ P' r k) : kb_laid c base F P' X X' := ⟨h.1, fun r k q => h.2.1 r k ((hp r k).mpr q), fun q hq => h.2.2 q (fun r k z => hq r k ((hp r k).mp z))⟩
theorem kb_laid.add {c base : Nat} {F : Nat → Nat → Nat} {P : Nat → Nat → Prop} {X X1 : Nat → Nat → Int32} {r k : Nat} (h : kb_laid c base F P X X1) (hP : ∀ r' k', P r' k' → k' < 3) (hk : k < 3) {v : Int32} (hv : v = nI (F r k)) : kb_laid c base F (fun r' k' => P r' k' ∨ (r' = r ∧ k' = k)) X (va_up X1 c (upd (X1 c) (base + 3 * r + k) v)) := by
  refine ⟨fun q hq => by rw [kb_up_ne hq]; exact h.1 q hq, fun r' k' hp => ?_, fun q hq => ?_⟩
  · rw [kb_up_self]
    by_cases e1 : base + 3 * r' + k' = base + 3 * r + k
    · have : r' = r ∧ k' = k := by
        have hk' : k' < 3 := by
          rcases hp with q | q
          · exact hP r' k' q
          · omega
        omega
      obtain ⟨rfl, rfl⟩ := this
      rw [upd, if_pos rfl]
      exact hv
    · rw [upd, if_neg e1]
      rcases hp with q | ⟨rfl, rfl⟩
      · exact h.2.1 r' k' q
      · exact absurd rfl e1
  · rw [kb_up_self]
    have e1 : q ≠ base + 3 * r + k := hq r k (Or.inr ⟨rfl, rfl⟩)
    rw [upd, if_neg e1]
    exact h.2.2 q (fun r' k' z => hq r' k' (Or.inl z))
theorem kb_laid.rf {c base : Nat} {F : Nat → Nat → Nat} {P : Nat → Nat → Prop} {X : Nat → Nat → Int32} (hP : ∀ r k, ¬ P r k) : kb_laid c base F P X X := ⟨fun _ _ => rfl, fun r k q => absurd q (hP r k), fun _ _ => rfl⟩
/-- the reference's state with a band of n threads and h rows more -/
def kb_tie0 (X : Nat → Nat → Int32) (nb n h : Nat) : Nat → Nat → Int32 := va_up (va_up (va_up X 188 (upd (X 188) 1 (nI (nb + 1)))) 189 (upd (X 189) nb (nI n))) 190 (upd (X 190) nb (nI h))
theorem kb_tie0_ne {X : Nat → Nat → Int32} {nb n h q : Nat} (h1 : q ≠ 188) (h2 : q ≠ 189) (h3 : q ≠ 190) : kb_tie0 X nb n h q = X q := by simp [kb_tie0, va_up, h1, h2, h3]
theorem iX5_tie_X5 : ∀ w ∈ wsX50, w ∈ wsX5_tie := fun _ h => List.mem_cons_of_mem _ (by first | exact h | exact List.mem_append_right _ h | exact List.mem_append_left _ (List.mem_append_right _ h) | exact List.mem_append_left _ (List.mem_append_left _ (List.mem_append_right _ h)) | exact List.mem_append_left _ (List.mem_append_left _ (List.mem_append_left _ (List.mem_append_right _ h))) | exact List.mem_append_left _ (List.mem_append_left _ (List.mem_append_left _ (List.mem_append_left _ (List.mem_append_right _ h)))) | exact List.mem_append_left _ (List.mem_append_left _ (List.mem_append_left _ (List.mem_append_left _ (List.mem_append_left _ (List.mem_append_right _ h))))))
set_option maxRecDepth 100000 in
set_option maxHeartbeats 4000000 in
/-- X5.tie -/
theorem m_mtie (l : Launch) (E : kb_E) (X : Nat → Nat → Int32) (Y : Nat → Nat → Int64) (b : Int32) (hMI : kb_MI X) : kb_Met l E 202 yX5_tie wsX5_tie ({ frames := 4, cells := 0, slots := 0, locals := 97 }) [.ref (E.2.2.2 188), .int b] (kb_ent E X Y) (kb_out E X Y (kb_okP X b) True (fun v X' => (((∀ s, s < 4 ^ (kb_tn (X 193 (kb_tn b))) → ¬ kb_mst X (kb_tn b) s) ∨ (kb_tn (X 188 1)) = 8) ∧ v = -1 ∧ kb_MS X X') ∨ (∃ s, s < 4 ^ (kb_tn (X 193 (kb_tn b))) ∧ kb_mst X (kb_tn b) s ∧ (∀ t, t < s → ¬ kb_mst X (kb_tn b) t) ∧ (kb_tn (X 188 1)) < 8 ∧ v = nI (kb_tn (X 188 1)) ∧ ∃ X1 XA, kb_led (kb_tn (X 193 (kb_tn b))) (kb_tn (X 194 (kb_tn b))) (kb_mtd X (kb_tn b)) (kb_thr X (nI 0)) X1 ∧ (∀ q, q ≠ 191 → XA q = kb_tie0 X1 (kb_tn (X 188 1)) (kb_tn (X 193 (kb_tn b))) (kb_tn (X 194 (kb_tn b))) q) ∧ (∀ j, j < (kb_tn (X 193 (kb_tn b))) → XA 191 (6 * (kb_tn (X 188 1)) + j) = nI (kb_dg (kb_tn (X 193 (kb_tn b))) s j)) ∧ (∀ q, (∀ j, j < (kb_tn (X 193 (kb_tn b))) → q ≠ 6 * (kb_tn (X 188 1)) + j) → XA 191 q = X1 191 q) ∧ kb_laid 192 (48 * (kb_tn (X 188 1))) (fun r k => kb_lk (kb_tn (X 193 (kb_tn b))) (kb_tn (X 194 (kb_tn b))) (kb_mtd X (kb_tn b)) r k (kb_stf (kb_tn (X 193 (kb_tn b))) (kb_tn (X 194 (kb_tn b))) (kb_mtd X (kb_tn b)) s r) (kb_btf (kb_tn (X 193 (kb_tn b))) (kb_tn (X 194 (kb_tn b))) (kb_mtd X (kb_tn b)) r (kb_stf (kb_tn (X 193 (kb_tn b))) (kb_tn (X 194 (kb_tn b))) (kb_mtd X (kb_tn b)) s r) k)) (fun r' k' => r' < (kb_tn (X 194 (kb_tn b))) ∧ k' < kb_kn (kb_tn (X 193 (kb_tn b))) r') XA X'))) := by
  refine kb_enter (cc := cX5_tie) (maxL := 10) (ret := (some .int)) (by decide +kernel) rfl (by simp [Value.category]) (Nat.le_of_ble_eq_true rfl) ?_
  intro p e s m args below meth c C hini
  refine q_aload_n C dX5_tie_0 rfl ?_
  refine q_iload_n C dX5_tie_1 rfl ?_
  refine x_callV (As := [_]) (nA := 1) (T := TX5) (NF := 15) C dX5_tie_2 ob_M rfl (m_isPicture _ _ X Y b) gX5_tie_X5_isPicture rfl (by decide +kernel) rfl ⟨Nat.le_of_ble_eq_true rfl, Nat.le_of_ble_eq_true rfl⟩ (Nat.le_of_ble_eq_true rfl) ⟨Nat.le_of_ble_eq_true rfl, Nat.le_of_ble_eq_true rfl⟩ (fun v2 g2 h2 => ?_)
  rcases h2 with ⟨hc2, rfl, rfl⟩ | ⟨hc2, rfl, rfl⟩
  · obtain ⟨b', hb', rfl, hb8⟩ := kb_okP_nat hMI hc2
    have eb : kb_tn (nI b') = b' := kb_tn_nI (by omega)
    have hnp := hMI.2.2.2.2.1 b' hb'
    have hw0 : kb_thr X (nI 0) 193 b' = nI (kb_tn (X 193 b')) := by rw [kb_thr_ne (by decide)]; exact hnp.1.1
    have hh0 : kb_thr X (nI 0) 194 b' = nI (kb_tn (X 194 b')) := by rw [kb_thr_ne (by decide)]; exact hnp.2.2.1.1
    have hn6 : kb_tn (X 193 b') ≤ 6 := hnp.1.2
    have hn2 : 2 ≤ kb_tn (X 193 b') := hnp.2.1
    have hh16 : kb_tn (X 194 b') ≤ 16 := hnp.2.2.1.2
    have hh1 : 1 ≤ kb_tn (X 194 b') := hnp.2.2.2
    have htd0 : ∀ r, r < 16 → ∀ k, k < 3 → kb_thr X (nI 0) 195 (48 * b' + 3 * r + k) = nI (kb_mtd X b' r k) ∧ kb_mtd X b' r k ≤ 4 := fun r hr k hk => by rw [kb_thr_ne (by decide)]; exact hMI.2.2.2.2.2.1 _ (by omega)
    have hmu0 : ∀ j, j < 6 → kb_thr X (nI 0) 196 (6 * b' + j) = nI (kb_mmu X b' j) ∧ kb_mmu X b' j ≤ 4 := fun j hj => by rw [kb_thr_ne (by decide)]; exact hMI.2.2.2.2.2.2 _ (by omega)
    have h4n := kb_4n hn6
    refine q_ifne C (tgt := 10) dX5_tie_5 (by decide) (fun c5 => ?_) (fun c5 => ?_)
    · refine q_aload_n C dX5_tie_10 rfl ?_
      refine q_iload_n C dX5_tie_11 rfl ?_
      refine x_callV (As := [_]) (nA := 1) (T := TX5) (NF := 15) C dX5_tie_12 ob_M rfl (m_first _ _ (kb_thr X (nI 0)) Y b' _ _ hb8 hn6 hn2 hh1 hh16 hw0 hh0 _ htd0 _ hmu0) gX5_tie_X5_first rfl (by decide +kernel) rfl ⟨Nat.le_of_ble_eq_true rfl, Nat.le_of_ble_eq_true rfl⟩ (Nat.le_of_ble_eq_true rfl) ⟨Nat.le_of_ble_eq_true rfl, Nat.le_of_ble_eq_true rfl⟩ (fun v12 g12 h12 => ?_)
      obtain ⟨r12, rfl, hr12, X1, rfl, hl⟩ := h12
      rcases hr12 with ⟨s0, hs0, hs1, hs2, rfl⟩ | ⟨hno, rfl⟩
      · have hs9 : s0 < 4096 := by omega
        have hnb8 := hMI.1.1.2
        refine q_istore_n C dX5_tie_15 (by decide) rfl ?_
        refine q_iload_n C dX5_tie_16 rfl ?_
        refine q_iconst C (v := -1) dX5_tie_17 (by decide) ?_
        refine q_icmpeq C (tgt := 30) dX5_tie_18 (by decide) (fun c18 => ?_) (fun c18 => ?_)
        · exact absurd c18 (kb_nI_ne (by omega))
        · refine q_aload_n C dX5_tie_21 rfl ?_
          refine x_getI C (ci := 5) (k := 1) (C0 := RX5) (T := TX5) (NF := 15) (ref := RX5) (host := RX4) dX5_tie_22 fi_Mbc rfl iX5_tie_X5 (by decide) (List.mem_of_getElem? (i := 1) rfl) rfl ?_
          refine q_top (show Value.int _ = Value.int _ from congrArg Value.int ((congrFun (hl.1 188 (by decide)) 1).trans ((kb_thr_k (by decide)).trans hMI.1.1.1))) ?_
          refine q_bipush C (v := nI 8) dX5_tie_25 (by decide) ?_
          refine q_icmpneN C (tgt := 32) dX5_tie_27 (by decide) (by omega) (by omega) (fun c27 => ?_) (fun c27 => ?_)
          · refine q_aload_n C dX5_tie_32 rfl ?_
            refine x_getR C (ci := 5) (k := 7) (C0 := RX5) (T := TX5) (NF := 15) (ref := RX5) (host := RX4) dX5_tie_33 fr_Mwid rfl iX5_tie_X5 (by decide) (List.mem_of_getElem? (i := 2) rfl) rfl ?_
            refine q_iload_n C dX5_tie_36 rfl ?_
            refine x_ialdN C dX5_tie_37 ia_Mwid (by decide) (by omega) ?_
            refine q_top (show Value.int _ = Value.int _ from congrArg Value.int ((congrFun (hl.1 193 (by decide)) b').trans hw0)) ?_
            refine q_istore_n C dX5_tie_38 (by decide) rfl ?_
            refine q_aload_n C dX5_tie_39 rfl ?_
            refine x_getI C (ci := 5) (k := 1) (C0 := RX5) (T := TX5) (NF := 15) (ref := RX5) (host := RX4) dX5_tie_40 fi_Mbc rfl iX5_tie_X5 (by decide) (List.mem_of_getElem? (i := 1) rfl) rfl ?_
            refine q_top (show Value.int _ = Value.int _ from congrArg Value.int ((congrFun (hl.1 188 (by decide)) 1).trans ((kb_thr_k (by decide)).trans hMI.1.1.1))) ?_
            refine q_istore C dX5_tie_43 (by decide) rfl ?_
            refine q_aload_n C dX5_tie_45 rfl ?_
            refine q_dup C dX5_tie_46 rfl ?_
            refine x_getI C (ci := 5) (k := 1) (C0 := RX5) (T := TX5) (NF := 15) (ref := RX5) (host := RX4) dX5_tie_47 fi_Mbc rfl iX5_tie_X5 (by decide) (List.mem_of_getElem? (i := 1) rfl) rfl ?_
            refine q_top (show Value.int _ = Value.int _ from congrArg Value.int ((congrFun (hl.1 188 (by decide)) 1).trans ((kb_thr_k (by decide)).trans hMI.1.1.1))) ?_
            refine q_iconst C (v := nI 1) dX5_tie_50 (by decide) ?_
            refine q_iaddN C dX5_tie_51 ?_
            refine x_putI C (ci := 5) (k := 1) (C0 := RX5) (T := TX5) (NF := 15) (ref := RX5) (host := RX4) (ty := .int) dX5_tie_52 fi_Mbc rfl iX5_tie_X5 tyX5_ok nmX5 (by decide) (List.mem_of_getElem? (i := 1) rfl) rfl rfl (by decide +kernel) rfl rfl ?_
            refine q_aload_n C dX5_tie_55 rfl ?_
            refine x_getR C (ci := 5) (k := 3) (C0 := RX5) (T := TX5) (NF := 15) (ref := RX5) (host := RX4) dX5_tie_56 fr_Mthr rfl iX5_tie_X5 (by decide) (List.mem_of_getElem? (i := 3) rfl) rfl ?_
            refine q_iload C dX5_tie_59 rfl ?_
            refine q_iload_n C dX5_tie_61 rfl ?_
            refine x_iastN C dX5_tie_62 ia_Mthr (by decide) (by omega) ?_
            refine q_aload_n C dX5_tie_63 rfl ?_
            refine x_getR C (ci := 5) (k := 4) (C0 := RX5) (T := TX5) (NF := 15) (ref := RX5) (host := RX4) dX5_tie_64 fr_Mrow rfl iX5_tie_X5 (by decide) (List.mem_of_getElem? (i := 4) rfl) rfl ?_
            refine q_iload C dX5_tie_67 rfl ?_
            refine q_aload_n C dX5_tie_69 rfl ?_
            refine x_getR C (ci := 5) (k := 8) (C0 := RX5) (T := TX5) (NF := 15) (ref := RX5) (host := RX4) dX5_tie_70 fr_Mhig rfl iX5_tie_X5 (by decide) (List.mem_of_getElem? (i := 5) rfl) rfl ?_
            refine q_iload_n C dX5_tie_73 rfl ?_
            refine x_ialdN C dX5_tie_74 ia_Mhig (by decide) (by omega) ?_
            refine q_top (show Value.int _ = Value.int _ from congrArg Value.int ((show va_up (va_up X1 188 _) 189 _ 194 b' = nI (kb_tn (X 194 b')) from ((congrFun (kb_up_ne (by decide)) b').trans ((congrFun (kb_up_ne (by decide)) b').trans ((congrFun (hl.1 194 (by decide)) b').trans hh0)))))) ?_
            refine x_iastN C dX5_tie_75 ia_Mrow (by decide) (by omega) ?_
            refine q_iconst C (v := nI 0) dX5_tie_76 (by decide) ?_
            refine q_istore C dX5_tie_77 (by decide) rfl ?_
            refine q_mask [true, true, true, true, true, true, false, false, false, false] (q_for (σ := Unit) (k0 := 0) ((kb_tn (X 193 b'))) (fun k _ X' Y' => Y = Y' ∧ (∀ q, q ≠ 191 → X' q = (kb_tie0 X1 (kb_tn (X 188 1)) (kb_tn (X 193 b')) (kb_tn (X 194 b'))) q) ∧ (∀ j, j < k → X' 191 (6 * (kb_tn (X 188 1)) + j) = nI (kb_dg (kb_tn (X 193 b')) s0 j)) ∧ ∀ q, (∀ j, j < k → q ≠ 6 * (kb_tn (X 188 1)) + j) → X' 191 q = X1 191 q) (fun k _ => [some (.ref (E.2.2.2 188)), some (.int (nI b')), some (.int (nI s0)), some (.int (nI (kb_tn (X 193 b')))), some (.int (nI (kb_tn (X 188 1)))), some (.int (nI k)), none, none, none, none]) (Nat.zero_le _) () (⟨rfl, fun q _ => by simp [kb_tie0, va_up], fun j hj => absurd hj (Nat.not_lt_zero _), fun q _ => by simp [va_up]⟩) ?_ ?_)
            · intro k aA XA YA hk_k hk0_k hI_k ih_k
              obtain ⟨rfl, hIA⟩ := hI_k
              refine q_iload C dX5_tie_79 rfl ?_
              refine q_iload_n C dX5_tie_81 rfl ?_
              refine q_icmpgeN C (tgt := 111) dX5_tie_82 (by decide) (by omega) (by omega) (fun c82 => ?_) (fun c82 => ?_)
              · exact absurd c82 (by omega)
              · refine q_aload_n C dX5_tie_85 rfl ?_
                refine x_getR C (ci := 5) (k := 5) (C0 := RX5) (T := TX5) (NF := 15) (ref := RX5) (host := RX4) dX5_tie_86 fr_Mcol rfl iX5_tie_X5 (by decide) (List.mem_of_getElem? (i := 6) rfl) rfl ?_
                refine q_bipush C (v := nI 6) dX5_tie_89 (by decide) ?_
                refine q_iload C dX5_tie_91 rfl ?_
                refine q_imulN C dX5_tie_93 ?_
                refine q_iload C dX5_tie_94 rfl ?_
                refine q_iaddN C dX5_tie_96 ?_
                refine q_iload_n C dX5_tie_97 rfl ?_
                refine q_iload_n C dX5_tie_98 rfl ?_
                refine q_iload C dX5_tie_99 rfl ?_
                refine q_callS (As := [_, _, _]) (nA := 3) C dX5_tie_101 (m_digit _ _ _ _ _ _) gX5_tie_X5_digit rfl (by decide +kernel) rfl ⟨Nat.le_of_ble_eq_true rfl, Nat.le_of_ble_eq_true rfl⟩ (Nat.le_of_ble_eq_true rfl) ⟨Nat.le_of_ble_eq_true rfl, Nat.le_of_ble_eq_true rfl⟩ (fun v101 g101 h101 => ?_)
                obtain ⟨rfl, rfl⟩ := h101
                refine q_top (show Value.int _ = Value.int _ from congrArg Value.int (nv_digit hn6 hs0 hk_k)) ?_
                refine x_iastN C dX5_tie_104 ia_Mcol (by decide) (by omega) ?_
                refine q_iinc1 C dX5_tie_105 rfl (by decide) rfl ?_
                refine q_goto C (tgt := 79) dX5_tie_108 (by decide) ?_
                exact q_mask [true, true, true, true, true, true, false, false, false, false] (ih_k () _ _ ⟨rfl, fun q hq => by rw [kb_up_ne hq]; exact hIA.1 q hq, fun j hj => by
                  rw [kb_up_self]
                  by_cases e : j = k
                  · subst e; rw [upd, if_pos rfl]
                  · rw [upd, if_neg (by omega)]; exact hIA.2.1 j (by omega), fun q hq => by
                  rw [kb_up_self]
                  have := hq k (by omega)
                  rw [upd, if_neg this]
                  exact hIA.2.2 q (fun j hj => hq j (by omega))⟩)
            · intro aA XA YA hI_k
              obtain ⟨rfl, hIA⟩ := hI_k
              refine q_iload C dX5_tie_79 rfl ?_
              refine q_iload_n C dX5_tie_81 rfl ?_
              refine q_icmpgeN C (tgt := 111) dX5_tie_82 (by decide) (by omega) (by omega) (fun c82 => ?_) (fun c82 => ?_)
              · refine q_iconst C (v := nI 0) dX5_tie_111 (by decide) ?_
                refine q_istore C dX5_tie_112 (by decide) rfl ?_
                refine q_mask [true, true, true, true, true, true, false, false, false, false] (q_for (σ := Unit) (k0 := 0) ((kb_tn (X 194 b'))) (fun r _ X' Y' => Y = Y' ∧ kb_laid 192 (48 * (kb_tn (X 188 1))) (fun r k => kb_lk (kb_tn (X 193 b')) (kb_tn (X 194 b')) (kb_mtd X b') r k (kb_stf (kb_tn (X 193 b')) (kb_tn (X 194 b')) (kb_mtd X b') s0 r) (kb_btf (kb_tn (X 193 b')) (kb_tn (X 194 b')) (kb_mtd X b') r (kb_stf (kb_tn (X 193 b')) (kb_tn (X 194 b')) (kb_mtd X b') s0 r) k)) (fun r' k' => r' < r ∧ k' < kb_kn (kb_tn (X 193 b')) r') XA X') (fun r _ => [some (.ref (E.2.2.2 188)), some (.int (nI b')), some (.int (nI (kb_stf (kb_tn (X 193 b')) (kb_tn (X 194 b')) (kb_mtd X b') s0 r))), some (.int (nI (kb_tn (X 193 b')))), some (.int (nI (kb_tn (X 188 1)))), some (.int (nI r)), none, none, none, none]) (Nat.zero_le _) () (⟨rfl, kb_laid.rf (fun r k h => absurd h.1 (Nat.not_lt_zero _))⟩) ?_ ?_)
                · intro r aB XB YB hk_r hk0_r hI_r ih_r
                  obtain ⟨rfl, hIB⟩ := hI_r
                  have hhB : XB 194 b' = nI (kb_tn (X 194 b')) := (congrFun (hIB.1 194 (by decide)) b').trans ((congrFun (hIA.1 194 (by decide)) b').trans ((congrFun (kb_tie0_ne (by decide) (by decide) (by decide)) b').trans ((congrFun (hl.1 194 (by decide)) b').trans hh0)))
                  obtain ⟨hst, hcr⟩ := kb_stf_ok hn6 hs0 hs1.1 r (by omega)
                  have hcr2 := hcr
                  rw [show (kb_tn (X 194 b')) - r = ((kb_tn (X 194 b')) - (r + 1)) + 1 by omega, kb_cR_succ hn6 hst, show (kb_tn (X 194 b')) - ((kb_tn (X 194 b')) - (r + 1) + 1) = r by omega] at hcr2
                  obtain ⟨hfit, bb, hbb, hcb⟩ := hcr2
                  have hopen := kb_open_all hfit ⟨bb, hbb, by rw [Nat.zero_add, Nat.pow_zero, Nat.mul_one]; exact hcb⟩
                  have hkn3 : kb_kn (kb_tn (X 193 b')) r ≤ 3 := kb_kn_le hn6
                  refine q_iload C dX5_tie_114 rfl ?_
                  refine q_aload_n C dX5_tie_116 rfl ?_
                  refine x_getR C (ci := 5) (k := 8) (C0 := RX5) (T := TX5) (NF := 15) (ref := RX5) (host := RX4) dX5_tie_117 fr_Mhig rfl iX5_tie_X5 (by decide) (List.mem_of_getElem? (i := 5) rfl) rfl ?_
                  refine q_iload_n C dX5_tie_120 rfl ?_
                  refine x_ialdN C dX5_tie_121 ia_Mhig (by decide) (by omega) ?_
                  refine q_top (show Value.int _ = Value.int _ from congrArg Value.int (hhB)) ?_
                  refine q_icmpgeN C (tgt := 277) dX5_tie_122 (by decide) (by omega) (by omega) (fun c122 => ?_) (fun c122 => ?_)
                  · exact absurd c122 (by omega)
                  · refine q_iconst C (v := nI 0) dX5_tie_125 (by decide) ?_
                    refine q_istore C dX5_tie_126 (by decide) rfl ?_
                    refine q_iconst C (v := nI 0) dX5_tie_128 (by decide) ?_
                    refine q_istore C dX5_tie_129 (by decide) rfl ?_
                    refine q_mask [true, true, true, true, true, true, true, true, false, false] (q_for (σ := Unit) (k0 := 0) (kb_kn (kb_tn (X 193 b')) r) (fun k _ X' Y' => Y = Y' ∧ kb_laid 192 (48 * (kb_tn (X 188 1))) (fun r k => kb_lk (kb_tn (X 193 b')) (kb_tn (X 194 b')) (kb_mtd X b') r k (kb_stf (kb_tn (X 193 b')) (kb_tn (X 194 b')) (kb_mtd X b') s0 r) (kb_btf (kb_tn (X 193 b')) (kb_tn (X 194 b')) (kb_mtd X b') r (kb_stf (kb_tn (X 193 b')) (kb_tn (X 194 b')) (kb_mtd X b') s0 r) k)) (fun r' k' => (r' < r ∧ k' < kb_kn (kb_tn (X 193 b')) r') ∨ (r' = r ∧ k' < k)) XA X') (fun k _ => [some (.ref (E.2.2.2 188)), some (.int (nI b')), some (.int (nI (kb_stf (kb_tn (X 193 b')) (kb_tn (X 194 b')) (kb_mtd X b') s0 r))), some (.int (nI (kb_tn (X 193 b')))), some (.int (nI (kb_tn (X 188 1)))), some (.int (nI r)), some (.int (nI (kb_btf (kb_tn (X 193 b')) (kb_tn (X 194 b')) (kb_mtd X b') r (kb_stf (kb_tn (X 193 b')) (kb_tn (X 194 b')) (kb_mtd X b') s0 r) k))), some (.int (nI k)), none, none]) (Nat.zero_le _) () (⟨rfl, hIB.mono (fun r' k' => by omega)⟩) ?_ ?_)
                    · intro k2 aC XC YC hk_k2 hk0_k2 hI_k2 ih_k2
                      obtain ⟨rfl, hIC⟩ := hI_k2
                      have eXC : ∀ q, q ≠ 191 → q ≠ 192 → q ≠ 188 → q ≠ 189 → q ≠ 190 → XC q = X1 q := fun q a b c d e => (hIC.1 q b).trans ((hIA.1 q a).trans (kb_tie0_ne c d e))
                      have hbtl : (kb_btf (kb_tn (X 193 b')) (kb_tn (X 194 b')) (kb_mtd X b') r (kb_stf (kb_tn (X 193 b')) (kb_tn (X 194 b')) (kb_mtd X b') s0 r) k2) < 2 ^ k2 := kb_btf_lt _ _ _ _ _ _
                      have hgex := kb_good_ex hk_k2 hfit (hopen k2 (by omega))
                      have hlk := kb_lk_good hgex
                      have hlk4 : (kb_lk (kb_tn (X 193 b')) (kb_tn (X 194 b')) (kb_mtd X b') r k2 (kb_stf (kb_tn (X 193 b')) (kb_tn (X 194 b')) (kb_mtd X b') s0 r) (kb_btf (kb_tn (X 193 b')) (kb_tn (X 194 b')) (kb_mtd X b') r (kb_stf (kb_tn (X 193 b')) (kb_tn (X 194 b')) (kb_mtd X b') s0 r) k2)) < 4 := kb_lk_lt _ _ _ _ _ _ _
                      have htk := (htd0 r (by omega) k2 (by omega)).2
                      have hp2 : 2 ^ (k2 + 1) = 2 * 2 ^ k2 := by rw [Nat.pow_succ]; omega
                      refine q_iload C dX5_tie_131 rfl ?_
                      refine q_iload_n C dX5_tie_133 rfl ?_
                      refine q_iload C dX5_tie_134 rfl ?_
                      refine q_callS (As := [_, _]) (nA := 2) C dX5_tie_136 (m_mknots _ _ _ _ _) gX5_tie_X5_knots rfl (by decide +kernel) rfl ⟨Nat.le_of_ble_eq_true rfl, Nat.le_of_ble_eq_true rfl⟩ (Nat.le_of_ble_eq_true rfl) ⟨Nat.le_of_ble_eq_true rfl, Nat.le_of_ble_eq_true rfl⟩ (fun v136 g136 h136 => ?_)
                      obtain ⟨rfl, rfl⟩ := h136
                      refine q_top (show Value.int _ = Value.int _ from congrArg Value.int (nv_mknots _ (by omega) r (by omega) (by omega))) ?_
                      refine q_icmpgeN C (tgt := 261) dX5_tie_139 (by decide) (by omega) (by omega) (fun c139 => ?_) (fun c139 => ?_)
                      · exact absurd c139 (by omega)
                      · refine q_aload_n C dX5_tie_142 rfl ?_
                        refine x_getR C (ci := 5) (k := 9) (C0 := RX5) (T := TX5) (NF := 15) (ref := RX5) (host := RX4) dX5_tie_143 fr_Msee rfl iX5_tie_X5 (by decide) (List.mem_of_getElem? (i := 7) rfl) rfl ?_
                        refine q_bipush C (v := nI 48) dX5_tie_146 (by decide) ?_
                        refine q_iload_n C dX5_tie_148 rfl ?_
                        refine q_imulN C dX5_tie_149 ?_
                        refine q_iconst C (v := nI 3) dX5_tie_150 (by decide) ?_
                        refine q_iload C dX5_tie_151 rfl ?_
                        refine q_imulN C dX5_tie_153 ?_
                        refine q_iaddN C dX5_tie_154 ?_
                        refine q_iload C dX5_tie_155 rfl ?_
                        refine q_iaddN C dX5_tie_157 ?_
                        refine x_ialdN C dX5_tie_158 ia_Msee (by decide) (by omega) ?_
                        refine q_top (show Value.int _ = Value.int _ from congrArg Value.int ((congrFun (eXC 195 (by decide) (by decide) (by decide) (by decide) (by decide)) _).trans ((congrFun (hl.1 195 (by decide)) _).trans (htd0 r (by omega) k2 (by omega)).1))) ?_
                        refine q_istore C dX5_tie_159 (by decide) rfl ?_
                        refine q_iconst C (v := nI 0) dX5_tie_161 (by decide) ?_
                        refine q_istore C dX5_tie_162 (by decide) rfl ?_
                        refine q_mask [true, true, true, true, true, true, true, true, true, true] (q_loop (σ := Nat) (fun kk => 4 - kk) (fun (kk : Nat) X' Y' => Y = Y' ∧ XC = X' ∧ kk ≤ (kb_lk (kb_tn (X 193 b')) (kb_tn (X 194 b')) (kb_mtd X b') r k2 (kb_stf (kb_tn (X 193 b')) (kb_tn (X 194 b')) (kb_mtd X b') s0 r) (kb_btf (kb_tn (X 193 b')) (kb_tn (X 194 b')) (kb_mtd X b') r (kb_stf (kb_tn (X 193 b')) (kb_tn (X 194 b')) (kb_mtd X b') s0 r) k2))) (fun (kk : Nat) => [some (.ref (E.2.2.2 188)), some (.int (nI b')), some (.int (nI (kb_stf (kb_tn (X 193 b')) (kb_tn (X 194 b')) (kb_mtd X b') s0 r))), some (.int (nI (kb_tn (X 193 b')))), some (.int (nI (kb_tn (X 188 1)))), some (.int (nI r)), some (.int (nI (kb_btf (kb_tn (X 193 b')) (kb_tn (X 194 b')) (kb_mtd X b') r (kb_stf (kb_tn (X 193 b')) (kb_tn (X 194 b')) (kb_mtd X b') s0 r) k2))), some (.int (nI k2)), some (.int (nI ((kb_mtd X b') r k2))), some (.int (nI kk))]) 0 ⟨rfl, rfl, Nat.zero_le _⟩ ?_)
                        intro kk XD YD hI_kk ih_kk
                        obtain ⟨rfl, rfl, hkl⟩ := hI_kk
                        refine q_aload_n C dX5_tie_164 rfl ?_
                        refine q_iload_n C dX5_tie_165 rfl ?_
                        refine q_iload C dX5_tie_166 rfl ?_
                        refine q_iload C dX5_tie_168 rfl ?_
                        refine q_iload_n C dX5_tie_170 rfl ?_
                        refine q_iload C dX5_tie_171 rfl ?_
                        refine q_iload C dX5_tie_173 rfl ?_
                        refine x_callV (As := [_, _, _, _, _, _]) (nA := 6) (T := TX5) (NF := 15) C dX5_tie_175 ob_M rfl (m_isKind _ _ XC Y (kb_tn (X 193 b')) r k2 (kb_stf (kb_tn (X 193 b')) (kb_tn (X 194 b')) (kb_mtd X b') s0 r) ((kb_mtd X b') r k2) kk hn6 hn2 (by omega) hk_k2 hst htk (by omega)) gX5_tie_X5_isKind rfl (by decide +kernel) rfl ⟨Nat.le_of_ble_eq_true rfl, Nat.le_of_ble_eq_true rfl⟩ (Nat.le_of_ble_eq_true rfl) ⟨Nat.le_of_ble_eq_true rfl, Nat.le_of_ble_eq_true rfl⟩ (fun v175 g175 h175 => ?_)
                        obtain ⟨f175, rfl, hf175, rfl⟩ := h175
                        refine q_ifeq C (tgt := 214) dX5_tie_178 (by decide) (fun c178 => ?_) (fun c178 => ?_)
                        · refine q_iinc1 C dX5_tie_214 rfl (by decide) rfl ?_
                          refine q_goto C (tgt := 164) dX5_tie_217 (by decide) ?_
                          exact ih_kk (kk + 1) _ _ (by show 4 - (kk + 1) < 4 - kk; omega) ⟨rfl, rfl, by
                            rcases Nat.lt_or_ge kk (kb_lk (kb_tn (X 193 b')) (kb_tn (X 194 b')) (kb_mtd X b') r k2 (kb_stf (kb_tn (X 193 b')) (kb_tn (X 194 b')) (kb_mtd X b') s0 r) (kb_btf (kb_tn (X 193 b')) (kb_tn (X 194 b')) (kb_mtd X b') r (kb_stf (kb_tn (X 193 b')) (kb_tn (X 194 b')) (kb_mtd X b') s0 r) k2)) with z | z
                            · exact z
                            · have e9 : kk = (kb_lk (kb_tn (X 193 b')) (kb_tn (X 194 b')) (kb_mtd X b') r k2 (kb_stf (kb_tn (X 193 b')) (kb_tn (X 194 b')) (kb_mtd X b') s0 r) (kb_btf (kb_tn (X 193 b')) (kb_tn (X 194 b')) (kb_mtd X b') r (kb_stf (kb_tn (X 193 b')) (kb_tn (X 194 b')) (kb_mtd X b') s0 r) k2)) := by omega
                              have hg := hlk.1
                              rw [← e9] at hg
                              exact absurd hg.1 (kb_flag0 hf175 c178)⟩
                        · refine q_aload_n C dX5_tie_181 rfl ?_
                          refine q_iload_n C dX5_tie_182 rfl ?_
                          refine q_iload C dX5_tie_183 rfl ?_
                          refine q_iload_n C dX5_tie_185 rfl ?_
                          refine q_iload C dX5_tie_186 rfl ?_
                          refine q_iconst C (v := nI 1) dX5_tie_188 (by decide) ?_
                          refine q_iaddN C dX5_tie_189 ?_
                          refine q_cut 208 (P := (fun f => f = nI (if kk < 2 then (kb_btf (kb_tn (X 193 b')) (kb_tn (X 194 b')) (kb_mtd X b') r (kb_stf (kb_tn (X 193 b')) (kb_tn (X 194 b')) (kb_mtd X b') s0 r) k2) + 2 ^ k2 else (kb_btf (kb_tn (X 193 b')) (kb_tn (X 194 b')) (kb_mtd X b') r (kb_stf (kb_tn (X 193 b')) (kb_tn (X 194 b')) (kb_mtd X b') s0 r) k2)))) (fun f208 hf208 => ?_) (fun J208 => ?_)
                          · subst hf208
                            refine x_callV (As := [_, _, _, _, _]) (nA := 5) (T := TX5) (NF := 15) C dX5_tie_208 ob_M rfl (m_isOpen _ _ XC Y b' (kb_tn (X 193 b')) (kb_tn (X 194 b')) r (kb_stf (kb_tn (X 193 b')) (kb_tn (X 194 b')) (kb_mtd X b') s0 r) (k2 + 1) (if kk < 2 then (kb_btf (kb_tn (X 193 b')) (kb_tn (X 194 b')) (kb_mtd X b') r (kb_stf (kb_tn (X 193 b')) (kb_tn (X 194 b')) (kb_mtd X b') s0 r) k2) + 2 ^ k2 else (kb_btf (kb_tn (X 193 b')) (kb_tn (X 194 b')) (kb_mtd X b') r (kb_stf (kb_tn (X 193 b')) (kb_tn (X 194 b')) (kb_mtd X b') s0 r) k2)) hb8 hn6 hn2 hh16 (by omega) hst (by omega) (by split <;> omega) ((congrFun (eXC 193 (by decide) (by decide) (by decide) (by decide) (by decide)) b').trans ((congrFun (hl.1 193 (by decide)) b').trans hw0)) (kb_mtd X b') (fun j hj t ht => by rw [eXC 200 (by decide) (by decide) (by decide) (by decide) (by decide)]; exact hl.2 j hj t ht)) gX5_tie_X5_isOpen rfl (by decide +kernel) rfl ⟨Nat.le_of_ble_eq_true rfl, Nat.le_of_ble_eq_true rfl⟩ (Nat.le_of_ble_eq_true rfl) ⟨Nat.le_of_ble_eq_true rfl, Nat.le_of_ble_eq_true rfl⟩ (fun v208 g208 h208 => ?_)
                            obtain ⟨f208, rfl, hf208, rfl⟩ := h208
                            refine q_ifne C (tgt := 220) dX5_tie_211 (by decide) (fun c211 => ?_) (fun c211 => ?_)
                            · have hgood : kb_good (kb_tn (X 193 b')) (kb_tn (X 194 b')) (kb_mtd X b') r k2 (kb_stf (kb_tn (X 193 b')) (kb_tn (X 194 b')) (kb_mtd X b') s0 r) (kb_btf (kb_tn (X 193 b')) (kb_tn (X 194 b')) (kb_mtd X b') r (kb_stf (kb_tn (X 193 b')) (kb_tn (X 194 b')) (kb_mtd X b') s0 r) k2) kk := ⟨kb_flag1 hf175 c178, kb_flag1 hf208 c211⟩
                              have ekk : kk = (kb_lk (kb_tn (X 193 b')) (kb_tn (X 194 b')) (kb_mtd X b') r k2 (kb_stf (kb_tn (X 193 b')) (kb_tn (X 194 b')) (kb_mtd X b') s0 r) (kb_btf (kb_tn (X 193 b')) (kb_tn (X 194 b')) (kb_mtd X b') r (kb_stf (kb_tn (X 193 b')) (kb_tn (X 194 b')) (kb_mtd X b') s0 r) k2)) := by
                                rcases Nat.lt_or_ge kk (kb_lk (kb_tn (X 193 b')) (kb_tn (X 194 b')) (kb_mtd X b') r k2 (kb_stf (kb_tn (X 193 b')) (kb_tn (X 194 b')) (kb_mtd X b') s0 r) (kb_btf (kb_tn (X 193 b')) (kb_tn (X 194 b')) (kb_mtd X b') r (kb_stf (kb_tn (X 193 b')) (kb_tn (X 194 b')) (kb_mtd X b') s0 r) k2)) with z | z
                                · exact absurd hgood (hlk.2 kk z)
                                · omega
                              refine q_aload_n C dX5_tie_220 rfl ?_
                              refine x_getR C (ci := 5) (k := 6) (C0 := RX5) (T := TX5) (NF := 15) (ref := RX5) (host := RX4) dX5_tie_221 fr_Mkin rfl iX5_tie_X5 (by decide) (List.mem_of_getElem? (i := 8) rfl) rfl ?_
                              refine q_bipush C (v := nI 48) dX5_tie_224 (by decide) ?_
                              refine q_iload C dX5_tie_226 rfl ?_
                              refine q_imulN C dX5_tie_228 ?_
                              refine q_iconst C (v := nI 3) dX5_tie_229 (by decide) ?_
                              refine q_iload C dX5_tie_230 rfl ?_
                              refine q_imulN C dX5_tie_232 ?_
                              refine q_iaddN C dX5_tie_233 ?_
                              refine q_iload C dX5_tie_234 rfl ?_
                              refine q_iaddN C dX5_tie_236 ?_
                              refine q_iload C dX5_tie_237 rfl ?_
                              refine x_iastN C dX5_tie_239 ia_Mkin (by decide) (by omega) ?_
                              refine q_iload C dX5_tie_240 rfl ?_
                              refine q_iconst C (v := nI 2) dX5_tie_242 (by decide) ?_
                              refine q_icmpgeN C (tgt := 255) dX5_tie_243 (by decide) (by omega) (by omega) (fun c243 => ?_) (fun c243 => ?_)
                              · refine q_iinc1 C dX5_tie_255 rfl (by decide) rfl ?_
                                refine q_goto C (tgt := 131) dX5_tie_258 (by decide) ?_
                                have ih9 := ih_k2 () _ _ ⟨rfl, (hIC.add (r := r) (k := k2) (fun r' k' q => by
                                  have := kb_kn_le (r := r') hn6
                                  rcases q with q | q <;> omega) (by omega) (v := nI kk) (by rw [ekk])).mono (fun r' k' => by omega)⟩
                                first
                                | (have eb9 : (kb_btf (kb_tn (X 193 b')) (kb_tn (X 194 b')) (kb_mtd X b') r (kb_stf (kb_tn (X 193 b')) (kb_tn (X 194 b')) (kb_mtd X b') s0 r) (k2 + 1)) = (kb_btf (kb_tn (X 193 b')) (kb_tn (X 194 b')) (kb_mtd X b') r (kb_stf (kb_tn (X 193 b')) (kb_tn (X 194 b')) (kb_mtd X b') s0 r) k2) := by rw [kb_btf, if_neg (by rw [← ekk]; omega)]
                                   rw [eb9] at ih9
                                   exact q_mask [true, true, true, true, true, true, true, true, false, false] ih9)
                                | (have eb9 : (kb_btf (kb_tn (X 193 b')) (kb_tn (X 194 b')) (kb_mtd X b') r (kb_stf (kb_tn (X 193 b')) (kb_tn (X 194 b')) (kb_mtd X b') s0 r) (k2 + 1)) = (kb_btf (kb_tn (X 193 b')) (kb_tn (X 194 b')) (kb_mtd X b') r (kb_stf (kb_tn (X 193 b')) (kb_tn (X 194 b')) (kb_mtd X b') s0 r) k2) + 1 * 2 ^ k2 := by rw [kb_btf, if_pos (by rw [← ekk]; omega), Nat.one_mul]
                                   rw [eb9] at ih9
                                   exact q_mask [true, true, true, true, true, true, true, true, false, false] ih9)
                              · refine q_iload C dX5_tie_246 rfl ?_
                                refine q_iconst C (v := nI 1) dX5_tie_248 (by decide) ?_
                                refine q_iload C dX5_tie_249 rfl ?_
                                refine q_ishl C dX5_tie_251 ?_
                                refine q_ior C dX5_tie_252 ?_
                                refine q_top (show Value.int _ = Value.int _ from congrArg Value.int ((nv_or (d := k2) (more := 1) (by omega) hbtl (by rcases (show k2 = 0 ∨ k2 = 1 ∨ k2 = 2 by omega) with rfl | rfl | rfl <;> decide)).1)) ?_
                                refine q_istore C dX5_tie_253 (by decide) rfl ?_
                                refine q_iinc1 C dX5_tie_255 rfl (by decide) rfl ?_
                                refine q_goto C (tgt := 131) dX5_tie_258 (by decide) ?_
                                have ih9 := ih_k2 () _ _ ⟨rfl, (hIC.add (r := r) (k := k2) (fun r' k' q => by
                                  have := kb_kn_le (r := r') hn6
                                  rcases q with q | q <;> omega) (by omega) (v := nI kk) (by rw [ekk])).mono (fun r' k' => by omega)⟩
                                first
                                | (have eb9 : (kb_btf (kb_tn (X 193 b')) (kb_tn (X 194 b')) (kb_mtd X b') r (kb_stf (kb_tn (X 193 b')) (kb_tn (X 194 b')) (kb_mtd X b') s0 r) (k2 + 1)) = (kb_btf (kb_tn (X 193 b')) (kb_tn (X 194 b')) (kb_mtd X b') r (kb_stf (kb_tn (X 193 b')) (kb_tn (X 194 b')) (kb_mtd X b') s0 r) k2) := by rw [kb_btf, if_neg (by rw [← ekk]; omega)]
                                   rw [eb9] at ih9
                                   exact q_mask [true, true, true, true, true, true, true, true, false, false] ih9)
                                | (have eb9 : (kb_btf (kb_tn (X 193 b')) (kb_tn (X 194 b')) (kb_mtd X b') r (kb_stf (kb_tn (X 193 b')) (kb_tn (X 194 b')) (kb_mtd X b') s0 r) (k2 + 1)) = (kb_btf (kb_tn (X 193 b')) (kb_tn (X 194 b')) (kb_mtd X b') r (kb_stf (kb_tn (X 193 b')) (kb_tn (X 194 b')) (kb_mtd X b') s0 r) k2) + 1 * 2 ^ k2 := by rw [kb_btf, if_pos (by rw [← ekk]; omega), Nat.one_mul]
                                   rw [eb9] at ih9
                                   exact q_mask [true, true, true, true, true, true, true, true, false, false] ih9)
                            · refine q_iinc1 C dX5_tie_214 rfl (by decide) rfl ?_
                              refine q_goto C (tgt := 164) dX5_tie_217 (by decide) ?_
                              exact ih_kk (kk + 1) _ _ (by show 4 - (kk + 1) < 4 - kk; omega) ⟨rfl, rfl, by
                                rcases Nat.lt_or_ge kk (kb_lk (kb_tn (X 193 b')) (kb_tn (X 194 b')) (kb_mtd X b') r k2 (kb_stf (kb_tn (X 193 b')) (kb_tn (X 194 b')) (kb_mtd X b') s0 r) (kb_btf (kb_tn (X 193 b')) (kb_tn (X 194 b')) (kb_mtd X b') r (kb_stf (kb_tn (X 193 b')) (kb_tn (X 194 b')) (kb_mtd X b') s0 r) k2)) with z | z
                                · exact z
                                · have e9 : kk = (kb_lk (kb_tn (X 193 b')) (kb_tn (X 194 b')) (kb_mtd X b') r k2 (kb_stf (kb_tn (X 193 b')) (kb_tn (X 194 b')) (kb_mtd X b') s0 r) (kb_btf (kb_tn (X 193 b')) (kb_tn (X 194 b')) (kb_mtd X b') r (kb_stf (kb_tn (X 193 b')) (kb_tn (X 194 b')) (kb_mtd X b') s0 r) k2)) := by omega
                                  have hg := hlk.1
                                  rw [← e9] at hg
                                  exact absurd hg.2 (kb_flag0 hf208 c211)⟩
                          refine q_iload C dX5_tie_190 rfl ?_
                          refine q_iconst C (v := nI 2) dX5_tie_192 (by decide) ?_
                          refine q_icmpgeN C (tgt := 206) dX5_tie_193 (by decide) (by omega) (by omega) (fun c193 => ?_) (fun c193 => ?_)
                          · refine q_iload C dX5_tie_206 rfl ?_
                            exact J208 _ (by first | (rw [if_pos c193, (nv_or (d := k2) (more := 1) (by omega) hbtl (by rcases (show k2 = 0 ∨ k2 = 1 ∨ k2 = 2 by omega) with rfl | rfl | rfl <;> decide)).1, Nat.one_mul]) | (rw [if_neg (by omega)]))
                          · refine q_iload C dX5_tie_196 rfl ?_
                            refine q_iconst C (v := nI 1) dX5_tie_198 (by decide) ?_
                            refine q_iload C dX5_tie_199 rfl ?_
                            refine q_ishl C dX5_tie_201 ?_
                            refine q_ior C dX5_tie_202 ?_
                            refine q_goto C (tgt := 208) dX5_tie_203 (by decide) ?_
                            exact J208 _ (by first | (rw [if_pos c193, (nv_or (d := k2) (more := 1) (by omega) hbtl (by rcases (show k2 = 0 ∨ k2 = 1 ∨ k2 = 2 by omega) with rfl | rfl | rfl <;> decide)).1, Nat.one_mul]) | (rw [if_neg (by omega)]))
                    · intro aC XC YC hI_k2
                      obtain ⟨rfl, hIC⟩ := hI_k2
                      refine q_iload C dX5_tie_131 rfl ?_
                      refine q_iload_n C dX5_tie_133 rfl ?_
                      refine q_iload C dX5_tie_134 rfl ?_
                      refine q_callS (As := [_, _]) (nA := 2) C dX5_tie_136 (m_mknots _ _ _ _ _) gX5_tie_X5_knots rfl (by decide +kernel) rfl ⟨Nat.le_of_ble_eq_true rfl, Nat.le_of_ble_eq_true rfl⟩ (Nat.le_of_ble_eq_true rfl) ⟨Nat.le_of_ble_eq_true rfl, Nat.le_of_ble_eq_true rfl⟩ (fun v136 g136 h136 => ?_)
                      obtain ⟨rfl, rfl⟩ := h136
                      refine q_top (show Value.int _ = Value.int _ from congrArg Value.int (nv_mknots _ (by omega) r (by omega) (by omega))) ?_
                      refine q_icmpgeN C (tgt := 261) dX5_tie_139 (by decide) (by omega) (by omega) (fun c139 => ?_) (fun c139 => ?_)
                      · refine q_iload_n C dX5_tie_261 rfl ?_
                        refine q_iload C dX5_tie_262 rfl ?_
                        refine q_iload_n C dX5_tie_264 rfl ?_
                        refine q_iload C dX5_tie_265 rfl ?_
                        refine q_callS (As := [_, _, _, _]) (nA := 4) C dX5_tie_267 (m_changed _ _ XC Y (kb_tn (X 193 b')) r (kb_stf (kb_tn (X 193 b')) (kb_tn (X 194 b')) (kb_mtd X b') s0 r) (kb_btf (kb_tn (X 193 b')) (kb_tn (X 194 b')) (kb_mtd X b') r (kb_stf (kb_tn (X 193 b')) (kb_tn (X 194 b')) (kb_mtd X b') s0 r) (kb_kn (kb_tn (X 193 b')) r)) hn6 hn2 (by omega) hst (by have := kb_btf_lt (kb_tn (X 193 b')) (kb_tn (X 194 b')) (kb_mtd X b') r (kb_stf (kb_tn (X 193 b')) (kb_tn (X 194 b')) (kb_mtd X b') s0 r) (kb_kn (kb_tn (X 193 b')) r); have h8 : 2 ^ kb_kn (kb_tn (X 193 b')) r ≤ 2 ^ 3 := Nat.pow_le_pow_right (by decide) hkn3; omega)) gX5_tie_X5_changed rfl (by decide +kernel) rfl ⟨Nat.le_of_ble_eq_true rfl, Nat.le_of_ble_eq_true rfl⟩ (Nat.le_of_ble_eq_true rfl) ⟨Nat.le_of_ble_eq_true rfl, Nat.le_of_ble_eq_true rfl⟩ (fun v267 g267 h267 => ?_)
                        obtain ⟨rfl, rfl⟩ := h267
                        refine q_istore_n C dX5_tie_270 (by decide) rfl ?_
                        refine q_iinc1 C dX5_tie_271 rfl (by decide) rfl ?_
                        refine q_goto C (tgt := 114) dX5_tie_274 (by decide) ?_
                        exact q_mask [true, true, true, true, true, true, false, false, false, false] (ih_r () _ _ ⟨rfl, hIC.mono (fun r' k' => ⟨fun q => by rcases q with q | ⟨rfl, q⟩ <;> omega, fun q => by
                          rcases Nat.lt_or_ge r' r with z | z
                          · exact Or.inl ⟨z, q.2⟩
                          · have e9 : r' = r := by omega
                            subst e9
                            exact Or.inr ⟨rfl, q.2⟩⟩)⟩)
                      · exact absurd c139 (by omega)
                · intro aB XB YB hI_r
                  obtain ⟨rfl, hIB⟩ := hI_r
                  have hhB : XB 194 b' = nI (kb_tn (X 194 b')) := (congrFun (hIB.1 194 (by decide)) b').trans ((congrFun (hIA.1 194 (by decide)) b').trans ((congrFun (kb_tie0_ne (by decide) (by decide) (by decide)) b').trans ((congrFun (hl.1 194 (by decide)) b').trans hh0)))
                  refine q_iload C dX5_tie_114 rfl ?_
                  refine q_aload_n C dX5_tie_116 rfl ?_
                  refine x_getR C (ci := 5) (k := 8) (C0 := RX5) (T := TX5) (NF := 15) (ref := RX5) (host := RX4) dX5_tie_117 fr_Mhig rfl iX5_tie_X5 (by decide) (List.mem_of_getElem? (i := 5) rfl) rfl ?_
                  refine q_iload_n C dX5_tie_120 rfl ?_
                  refine x_ialdN C dX5_tie_121 ia_Mhig (by decide) (by omega) ?_
                  refine q_top (show Value.int _ = Value.int _ from congrArg Value.int (hhB)) ?_
                  refine q_icmpgeN C (tgt := 277) dX5_tie_122 (by decide) (by omega) (by omega) (fun c122 => ?_) (fun c122 => ?_)
                  · refine q_iload C dX5_tie_277 rfl ?_
                    exact q_iret C dX5_tie_279 ⟨_, rfl, Or.inr (Or.inr ⟨hc2, trivial, _, rfl, (congrFun (hIB.1 188 (by decide)) 0).trans ((congrFun (hIA.1 188 (by decide)) 0).trans (by simp [kb_tie0, va_up, upd]; exact (congrFun (hl.1 188 (by decide)) 0).trans kb_thr_at)), by rw [eb]; exact Or.inr ⟨s0, hs0, hs1, hs2, by omega, rfl, X1, XA, hl, hIA.1, hIA.2.1, hIA.2.2, hIB⟩⟩)⟩
                  · exact absurd c122 (by omega)
              · exact absurd c82 (by omega)
          · refine q_iconst C (v := -1) dX5_tie_30 (by decide) ?_
            exact q_iret C dX5_tie_31 ⟨_, rfl, Or.inr (Or.inr ⟨hc2, trivial, _, rfl, (congrFun (hl.1 188 (by decide)) 0).trans kb_thr_at, by rw [eb]; exact Or.inl ⟨Or.inr c27, rfl, (kb_MS.thr X _).trans hl.ms⟩⟩)⟩
      · refine q_istore_n C dX5_tie_15 (by decide) rfl ?_
        refine q_iload_n C dX5_tie_16 rfl ?_
        refine q_iconst C (v := -1) dX5_tie_17 (by decide) ?_
        refine q_icmpeq C (tgt := 30) dX5_tie_18 (by decide) (fun c18 => ?_) (fun c18 => ?_)
        · refine q_iconst C (v := -1) dX5_tie_30 (by decide) ?_
          exact q_iret C dX5_tie_31 ⟨_, rfl, Or.inr (Or.inr ⟨hc2, trivial, _, rfl, (congrFun (hl.1 188 (by decide)) 0).trans kb_thr_at, by rw [eb]; exact Or.inl ⟨Or.inl hno, rfl, (kb_MS.thr X _).trans hl.ms⟩⟩)⟩
        · exact absurd rfl c18
    · exact absurd c5 (by decide)
  · refine q_ifne C (tgt := 10) dX5_tie_5 (by decide) (fun c5 => ?_) (fun c5 => ?_)
    · exact absurd (show nI 0 = 0 by decide) c5
    · refine q_iconst C (v := nI 0) dX5_tie_8 (by decide) ?_
      exact q_iret C dX5_tie_9 ⟨_, rfl, Or.inl ⟨fun h => hc2 h, rfl⟩⟩

/-! ===== the reference: picture, home ===== -/
/-- m places of row n of the world from q on hold 4 -/
def kb_fill4 (X X' : Nat → Nat → Int32) (n q0 m : Nat) : Prop := (∀ q, q ≠ n → X' q = X q) ∧ ∀ q, X' n q = if q0 ≤ q ∧ q < q0 + m then nI 4 else X n q
/-- the reference's state with width n and height h laid down for a new picture -/
def kb_mpic0 (X : Nat → Nat → Int32) (n h : Int32) : Nat → Nat → Int32 := va_up (va_up (kb_thr X (nI 0)) 193 (upd (X 193) (kb_tn (X 188 2)) n)) 194 (upd (X 194) (kb_tn (X 188 2)) h)
theorem kb_mpic0_188 {X : Nat → Nat → Int32} {n h : Int32} : kb_mpic0 X n h 188 = kb_thr X (nI 0) 188 := by simp [kb_mpic0, va_up]
theorem kb_mpic0_ne {X : Nat → Nat → Int32} {n h : Int32} {q : Nat} (h1 : q ≠ 188) (h2 : q ≠ 193) (h3 : q ≠ 194) : kb_mpic0 X n h q = X q := by simp [kb_mpic0, va_up, h2, h3, kb_thr_ne h1]
def kb_noP (X : Nat → Nat → Int32) (n h0 : Int32) : Prop := kb_tn (X 188 2) = 8 ∨ n < nI 2 ∨ nI 6 < n ∨ h0 < nI 1 ∨ ¬ h0 ≤ nI 16
theorem iX5_picture_X5 : ∀ w ∈ wsX50, w ∈ wsX5_picture := fun _ h => List.mem_cons_of_mem _ (by first | exact h | exact List.mem_append_right _ h | exact List.mem_append_left _ (List.mem_append_right _ h) | exact List.mem_append_left _ (List.mem_append_left _ (List.mem_append_right _ h)) | exact List.mem_append_left _ (List.mem_append_left _ (List.mem_append_left _ (List.mem_append_right _ h))) | exact List.mem_append_left _ (List.mem_append_left _ (List.mem_append_left _ (List.mem_append_left _ (List.mem_append_right _ h)))) | exact List.mem_append_left _ (List.mem_append_left _ (List.mem_append_left _ (List.mem_append_left _ (List.mem_append_left _ (List.mem_append_right _ h))))))
set_option maxRecDepth 100000 in
set_option maxHeartbeats 4000000 in
/-- X5.picture -/
theorem m_mpicture (l : Launch) (E : kb_E) (X : Nat → Nat → Int32) (Y : Nat → Nat → Int64) (n h0 : Int32) (hMI : kb_MI X) : kb_Met l E 202 yX5_picture wsX5_picture ({ frames := 0, cells := 0, slots := 0, locals := 0 }) [.ref (E.2.2.2 188), .int n, .int h0] (kb_ent E X Y) (fun v g' => (kb_noP X n h0 ∧ v = some (.int (-1)) ∧ g' = kb_ent E (kb_thr X (nI 0)) Y) ∨ (¬ kb_noP X n h0 ∧ v = some (.int (nI (kb_tn (X 188 2)))) ∧ ∃ X1 X2, kb_fill4 (kb_mpic0 X n h0) X1 195 (48 * kb_tn (X 188 2)) 48 ∧ kb_fill4 X1 X2 196 (6 * kb_tn (X 188 2)) 6 ∧ g' = kb_ent E (va_up X2 188 (upd (kb_thr X (nI 0) 188) 2 (nI (kb_tn (X 188 2) + 1)))) Y)) := by
  refine kb_enter (cc := cX5_picture) (maxL := 4) (ret := (some .int)) (by decide +kernel) rfl (by simp [Value.category]) (Nat.le_of_ble_eq_true rfl) ?_
  intro p e s m args below meth c C hini
  have hnp8 := hMI.1.2.2
  refine q_aload_n C dX5_picture_0 rfl ?_
  refine q_iconst C (v := nI 0) dX5_picture_1 (by decide) ?_
  refine x_putI C (ci := 5) (k := 0) (C0 := RX5) (T := TX5) (NF := 15) (ref := RX5) (host := RX4) (ty := .int) dX5_picture_2 fi_Mthw rfl iX5_picture_X5 tyX5_ok nmX5 (by decide) (List.mem_of_getElem? (i := 1) rfl) rfl rfl (by decide +kernel) rfl rfl ?_
  refine q_aload_n C dX5_picture_5 rfl ?_
  refine x_getI C (ci := 5) (k := 2) (C0 := RX5) (T := TX5) (NF := 15) (ref := RX5) (host := RX4) dX5_picture_6 fi_Mpc rfl iX5_picture_X5 (by decide) (List.mem_of_getElem? (i := 2) rfl) rfl ?_
  refine q_top (show Value.int _ = Value.int _ from congrArg Value.int ((show kb_thr X (nI 0) 188 2 = nI (kb_tn (X 188 2)) from (kb_thr_k (by decide)).trans hMI.1.2.1))) ?_
  refine q_bipush C (v := nI 8) dX5_picture_9 (by decide) ?_
  refine q_icmpeqN C (tgt := 36) dX5_picture_11 (by decide) (by omega) (by omega) (fun c11 => ?_) (fun c11 => ?_)
  · refine q_iconst C (v := -1) dX5_picture_36 (by decide) ?_
    exact q_iret C dX5_picture_37 (by first | exact Or.inl ⟨Or.inl c11, rfl, rfl⟩ | exact Or.inl ⟨Or.inr (Or.inl c16), rfl, rfl⟩ | exact Or.inl ⟨Or.inr (Or.inr (Or.inl c22)), rfl, rfl⟩ | exact Or.inl ⟨Or.inr (Or.inr (Or.inr (Or.inl c27))), rfl, rfl⟩ | exact Or.inl ⟨Or.inr (Or.inr (Or.inr (Or.inr c33))), rfl, rfl⟩)
  · refine q_iload_n C dX5_picture_14 rfl ?_
    refine q_iconst C (v := nI 2) dX5_picture_15 (by decide) ?_
    refine q_icmplt C (tgt := 36) dX5_picture_16 (by decide) (fun c16 => ?_) (fun c16 => ?_)
    · refine q_iconst C (v := -1) dX5_picture_36 (by decide) ?_
      exact q_iret C dX5_picture_37 (by first | exact Or.inl ⟨Or.inl c11, rfl, rfl⟩ | exact Or.inl ⟨Or.inr (Or.inl c16), rfl, rfl⟩ | exact Or.inl ⟨Or.inr (Or.inr (Or.inl c22)), rfl, rfl⟩ | exact Or.inl ⟨Or.inr (Or.inr (Or.inr (Or.inl c27))), rfl, rfl⟩ | exact Or.inl ⟨Or.inr (Or.inr (Or.inr (Or.inr c33))), rfl, rfl⟩)
    · refine q_iload_n C dX5_picture_19 rfl ?_
      refine q_bipush C (v := nI 6) dX5_picture_20 (by decide) ?_
      refine q_icmpgt C (tgt := 36) dX5_picture_22 (by decide) (fun c22 => ?_) (fun c22 => ?_)
      · refine q_iconst C (v := -1) dX5_picture_36 (by decide) ?_
        exact q_iret C dX5_picture_37 (by first | exact Or.inl ⟨Or.inl c11, rfl, rfl⟩ | exact Or.inl ⟨Or.inr (Or.inl c16), rfl, rfl⟩ | exact Or.inl ⟨Or.inr (Or.inr (Or.inl c22)), rfl, rfl⟩ | exact Or.inl ⟨Or.inr (Or.inr (Or.inr (Or.inl c27))), rfl, rfl⟩ | exact Or.inl ⟨Or.inr (Or.inr (Or.inr (Or.inr c33))), rfl, rfl⟩)
      · refine q_iload_n C dX5_picture_25 rfl ?_
        refine q_iconst C (v := nI 1) dX5_picture_26 (by decide) ?_
        refine q_icmplt C (tgt := 36) dX5_picture_27 (by decide) (fun c27 => ?_) (fun c27 => ?_)
        · refine q_iconst C (v := -1) dX5_picture_36 (by decide) ?_
          exact q_iret C dX5_picture_37 (by first | exact Or.inl ⟨Or.inl c11, rfl, rfl⟩ | exact Or.inl ⟨Or.inr (Or.inl c16), rfl, rfl⟩ | exact Or.inl ⟨Or.inr (Or.inr (Or.inl c22)), rfl, rfl⟩ | exact Or.inl ⟨Or.inr (Or.inr (Or.inr (Or.inl c27))), rfl, rfl⟩ | exact Or.inl ⟨Or.inr (Or.inr (Or.inr (Or.inr c33))), rfl, rfl⟩)
        · refine q_iload_n C dX5_picture_30 rfl ?_
          refine q_bipush C (v := nI 16) dX5_picture_31 (by decide) ?_
          refine q_icmple C (tgt := 38) dX5_picture_33 (by decide) (fun c33 => ?_) (fun c33 => ?_)
          · refine q_aload_n C dX5_picture_38 rfl ?_
            refine x_getR C (ci := 5) (k := 7) (C0 := RX5) (T := TX5) (NF := 15) (ref := RX5) (host := RX4) dX5_picture_39 fr_Mwid rfl iX5_picture_X5 (by decide) (List.mem_of_getElem? (i := 3) rfl) rfl ?_
            refine q_aload_n C dX5_picture_42 rfl ?_
            refine x_getI C (ci := 5) (k := 2) (C0 := RX5) (T := TX5) (NF := 15) (ref := RX5) (host := RX4) dX5_picture_43 fi_Mpc rfl iX5_picture_X5 (by decide) (List.mem_of_getElem? (i := 2) rfl) rfl ?_
            refine q_top (show Value.int _ = Value.int _ from congrArg Value.int ((show kb_thr X (nI 0) 188 2 = nI (kb_tn (X 188 2)) from (kb_thr_k (by decide)).trans hMI.1.2.1))) ?_
            refine q_iload_n C dX5_picture_46 rfl ?_
            refine x_iastN C dX5_picture_47 ia_Mwid (by decide) (by omega) ?_
            refine q_aload_n C dX5_picture_48 rfl ?_
            refine x_getR C (ci := 5) (k := 8) (C0 := RX5) (T := TX5) (NF := 15) (ref := RX5) (host := RX4) dX5_picture_49 fr_Mhig rfl iX5_picture_X5 (by decide) (List.mem_of_getElem? (i := 4) rfl) rfl ?_
            refine q_aload_n C dX5_picture_52 rfl ?_
            refine x_getI C (ci := 5) (k := 2) (C0 := RX5) (T := TX5) (NF := 15) (ref := RX5) (host := RX4) dX5_picture_53 fi_Mpc rfl iX5_picture_X5 (by decide) (List.mem_of_getElem? (i := 2) rfl) rfl ?_
            refine q_top (show Value.int _ = Value.int _ from congrArg Value.int ((show (va_up (kb_thr X (nI 0)) 193 _) 188 2 = nI (kb_tn (X 188 2)) from ((congrFun (kb_up_ne (by decide)) 2).trans (kb_thr_k (by decide))).trans hMI.1.2.1))) ?_
            refine q_iload_n C dX5_picture_56 rfl ?_
            refine x_iastN C dX5_picture_57 ia_Mhig (by decide) (by omega) ?_
            refine q_iconst C (v := nI 0) dX5_picture_58 (by decide) ?_
            refine q_istore_n C dX5_picture_59 (by decide) rfl ?_
            refine q_mask [true, true, true, true] (q_for (σ := Unit) (k0 := 0) (48) (fun k _ X' Y' => Y = Y' ∧ kb_fill4 (kb_mpic0 X n h0) X' 195 (48 * kb_tn (X 188 2)) k) (fun k _ => [some (.ref (E.2.2.2 188)), some (.int n), some (.int h0), some (.int (nI k))]) (Nat.zero_le _) () (⟨rfl, fun q _ => by rw [kb_mpic0]; simp [va_up, kb_thr], fun q => by rw [if_neg (by omega), kb_mpic0]; simp [va_up, kb_thr_ne]⟩) ?_ ?_)
            · intro k a Xa Ya hk_k hk0_k hI_k ih_k
              obtain ⟨rfl, hIa⟩ := hI_k
              have e188 : Xa 188 = kb_thr X (nI 0) 188 := (hIa.1 188 (by decide)).trans kb_mpic0_188
              refine q_iload_n C dX5_picture_60 rfl ?_
              refine q_bipush C (v := nI 48) dX5_picture_61 (by decide) ?_
              refine q_icmpgeN C (tgt := 87) dX5_picture_63 (by decide) (by omega) (by omega) (fun c63 => ?_) (fun c63 => ?_)
              · exact absurd c63 (by omega)
              · refine q_aload_n C dX5_picture_66 rfl ?_
                refine x_getR C (ci := 5) (k := 9) (C0 := RX5) (T := TX5) (NF := 15) (ref := RX5) (host := RX4) dX5_picture_67 fr_Msee rfl iX5_picture_X5 (by decide) (List.mem_of_getElem? (i := 5) rfl) rfl ?_
                refine q_bipush C (v := nI 48) dX5_picture_70 (by decide) ?_
                refine q_aload_n C dX5_picture_72 rfl ?_
                refine x_getI C (ci := 5) (k := 2) (C0 := RX5) (T := TX5) (NF := 15) (ref := RX5) (host := RX4) dX5_picture_73 fi_Mpc rfl iX5_picture_X5 (by decide) (List.mem_of_getElem? (i := 2) rfl) rfl ?_
                refine q_top (show Value.int _ = Value.int _ from congrArg Value.int ((congrFun e188 2).trans ((kb_thr_k (by decide)).trans hMI.1.2.1))) ?_
                refine q_imulN C dX5_picture_76 ?_
                refine q_iload_n C dX5_picture_77 rfl ?_
                refine q_iaddN C dX5_picture_78 ?_
                refine q_iconst C (v := nI 4) dX5_picture_79 (by decide) ?_
                refine x_iastN C dX5_picture_80 ia_Msee (by decide) (by omega) ?_
                refine q_iinc1 C dX5_picture_81 rfl (by decide) rfl ?_
                refine q_goto C (tgt := 60) dX5_picture_84 (by decide) ?_
                exact q_mask [true, true, true, true] (ih_k () _ _ ⟨rfl, fun q h1 => by simp only [va_up, if_neg h1]; exact hIa.1 q h1, fun q => by
                  simp only [va_up, if_true]
                  by_cases e1 : q = 48 * kb_tn (X 188 2) + k
                  · subst e1
                    rw [if_pos (by omega)]
                    simp only [upd, if_true]
                  · simp only [upd, if_neg e1]
                    rw [hIa.2 q]
                    by_cases e2 : 48 * kb_tn (X 188 2) ≤ q ∧ q < 48 * kb_tn (X 188 2) + k
                    · rw [if_pos e2, if_pos (by omega)]
                    · rw [if_neg e2, if_neg (by omega)]⟩)
            · intro a Xa Ya hI_k
              obtain ⟨rfl, hIa⟩ := hI_k
              have e188 : Xa 188 = kb_thr X (nI 0) 188 := (hIa.1 188 (by decide)).trans kb_mpic0_188
              refine q_iload_n C dX5_picture_60 rfl ?_
              refine q_bipush C (v := nI 48) dX5_picture_61 (by decide) ?_
              refine q_icmpgeN C (tgt := 87) dX5_picture_63 (by decide) (by omega) (by omega) (fun c63 => ?_) (fun c63 => ?_)
              · refine q_iconst C (v := nI 0) dX5_picture_87 (by decide) ?_
                refine q_istore_n C dX5_picture_88 (by decide) rfl ?_
                refine q_mask [true, true, true, true] (q_for (σ := Unit) (k0 := 0) (6) (fun k _ X' Y' => Y = Y' ∧ kb_fill4 Xa X' 196 (6 * kb_tn (X 188 2)) k) (fun k _ => [some (.ref (E.2.2.2 188)), some (.int n), some (.int h0), some (.int (nI k))]) (Nat.zero_le _) () (⟨rfl, fun _ _ => rfl, fun q => by rw [if_neg (by omega)]⟩) ?_ ?_)
                · intro k2 a2 X2 Y2 hk_k2 hk0_k2 hI_k2 ih_k2
                  obtain ⟨rfl, hI2⟩ := hI_k2
                  have e2188 : X2 188 = kb_thr X (nI 0) 188 := (hI2.1 188 (by decide)).trans ((hIa.1 188 (by decide)).trans kb_mpic0_188)
                  refine q_iload_n C dX5_picture_89 rfl ?_
                  refine q_bipush C (v := nI 6) dX5_picture_90 (by decide) ?_
                  refine q_icmpgeN C (tgt := 116) dX5_picture_92 (by decide) (by omega) (by omega) (fun c92 => ?_) (fun c92 => ?_)
                  · exact absurd c92 (by omega)
                  · refine q_aload_n C dX5_picture_95 rfl ?_
                    refine x_getR C (ci := 5) (k := 10) (C0 := RX5) (T := TX5) (NF := 15) (ref := RX5) (host := RX4) dX5_picture_96 fr_Mmus rfl iX5_picture_X5 (by decide) (List.mem_of_getElem? (i := 6) rfl) rfl ?_
                    refine q_bipush C (v := nI 6) dX5_picture_99 (by decide) ?_
                    refine q_aload_n C dX5_picture_101 rfl ?_
                    refine x_getI C (ci := 5) (k := 2) (C0 := RX5) (T := TX5) (NF := 15) (ref := RX5) (host := RX4) dX5_picture_102 fi_Mpc rfl iX5_picture_X5 (by decide) (List.mem_of_getElem? (i := 2) rfl) rfl ?_
                    refine q_top (show Value.int _ = Value.int _ from congrArg Value.int ((congrFun e2188 2).trans ((kb_thr_k (by decide)).trans hMI.1.2.1))) ?_
                    refine q_imulN C dX5_picture_105 ?_
                    refine q_iload_n C dX5_picture_106 rfl ?_
                    refine q_iaddN C dX5_picture_107 ?_
                    refine q_iconst C (v := nI 4) dX5_picture_108 (by decide) ?_
                    refine x_iastN C dX5_picture_109 ia_Mmus (by decide) (by omega) ?_
                    refine q_iinc1 C dX5_picture_110 rfl (by decide) rfl ?_
                    refine q_goto C (tgt := 89) dX5_picture_113 (by decide) ?_
                    exact q_mask [true, true, true, true] (ih_k2 () _ _ ⟨rfl, fun q h1 => by simp only [va_up, if_neg h1]; exact hI2.1 q h1, fun q => by
                      simp only [va_up, if_true]
                      by_cases e1 : q = 6 * kb_tn (X 188 2) + k2
                      · subst e1
                        rw [if_pos (by omega)]
                        simp only [upd, if_true]
                      · simp only [upd, if_neg e1]
                        rw [hI2.2 q]
                        by_cases e2 : 6 * kb_tn (X 188 2) ≤ q ∧ q < 6 * kb_tn (X 188 2) + k2
                        · rw [if_pos e2, if_pos (by omega)]
                        · rw [if_neg e2, if_neg (by omega)]⟩)
                · intro a2 X2 Y2 hI_k2
                  obtain ⟨rfl, hI2⟩ := hI_k2
                  have e2188 : X2 188 = kb_thr X (nI 0) 188 := (hI2.1 188 (by decide)).trans ((hIa.1 188 (by decide)).trans kb_mpic0_188)
                  refine q_iload_n C dX5_picture_89 rfl ?_
                  refine q_bipush C (v := nI 6) dX5_picture_90 (by decide) ?_
                  refine q_icmpgeN C (tgt := 116) dX5_picture_92 (by decide) (by omega) (by omega) (fun c92 => ?_) (fun c92 => ?_)
                  · refine q_aload_n C dX5_picture_116 rfl ?_
                    refine q_dup C dX5_picture_117 rfl ?_
                    refine x_getI C (ci := 5) (k := 2) (C0 := RX5) (T := TX5) (NF := 15) (ref := RX5) (host := RX4) dX5_picture_118 fi_Mpc rfl iX5_picture_X5 (by decide) (List.mem_of_getElem? (i := 2) rfl) rfl ?_
                    refine q_top (show Value.int _ = Value.int _ from congrArg Value.int ((congrFun e2188 2).trans ((kb_thr_k (by decide)).trans hMI.1.2.1))) ?_
                    refine q_iconst C (v := nI 1) dX5_picture_121 (by decide) ?_
                    refine q_iaddN C dX5_picture_122 ?_
                    refine x_putI C (ci := 5) (k := 2) (C0 := RX5) (T := TX5) (NF := 15) (ref := RX5) (host := RX4) (ty := .int) dX5_picture_123 fi_Mpc rfl iX5_picture_X5 tyX5_ok nmX5 (by decide) (List.mem_of_getElem? (i := 2) rfl) rfl rfl (by decide +kernel) rfl rfl ?_
                    refine q_aload_n C dX5_picture_126 rfl ?_
                    refine x_getI C (ci := 5) (k := 2) (C0 := RX5) (T := TX5) (NF := 15) (ref := RX5) (host := RX4) dX5_picture_127 fi_Mpc rfl iX5_picture_X5 (by decide) (List.mem_of_getElem? (i := 2) rfl) rfl ?_
                    refine q_top (show Value.int _ = Value.int _ from congrArg Value.int ((show va_up X2 188 (upd (X2 188) 2 (nI (kb_tn (X 188 2) + 1))) 188 2 = nI (kb_tn (X 188 2) + 1) from by simp [va_up, upd]))) ?_
                    refine q_iconst C (v := nI 1) dX5_picture_130 (by decide) ?_
                    refine q_isubN C dX5_picture_131 (by omega) ?_
                    exact q_iret C dX5_picture_132 (Or.inr ⟨fun h => by rcases h with h | h | h | h | h <;> first | exact c11 h | exact c16 h | exact c22 h | exact c27 h | exact h c33, by simp, Xa, X2, hIa, hI2, by rw [e2188]⟩)
                  · exact absurd c92 (by omega)
              · exact absurd c63 (by omega)
          · refine q_iconst C (v := -1) dX5_picture_36 (by decide) ?_
            exact q_iret C dX5_picture_37 (by first | exact Or.inl ⟨Or.inl c11, rfl, rfl⟩ | exact Or.inl ⟨Or.inr (Or.inl c16), rfl, rfl⟩ | exact Or.inl ⟨Or.inr (Or.inr (Or.inl c22)), rfl, rfl⟩ | exact Or.inl ⟨Or.inr (Or.inr (Or.inr (Or.inl c27))), rfl, rfl⟩ | exact Or.inl ⟨Or.inr (Or.inr (Or.inr (Or.inr c33))), rfl, rfl⟩)
/-- the reference's scratch rows of 'home' apart, all is as in Xs -/
def kb_hs (Xs X' : Nat → Nat → Int32) : Prop := ∀ q, q ≠ 198 → q ≠ 199 → X' q = Xs q
theorem kb_flag1 {P : Prop} {f : Int32} (h : kb_flag P f) (hf : ¬ f = 0) : P := by
  rcases h with h | h
  · exact h.2
  · exact absurd h.1 hf
theorem kb_flag0 {P : Prop} {f : Int32} (h : kb_flag P f) (hf : f = 0) : ¬ P := by
  rcases h with h | h
  · exact absurd (h.1.symm.trans hf) (by decide)
  · exact h.2
theorem kb_rw_fix {kd : Nat → Nat → Nat} {n r : Nat} {f : Nat → Nat} : ∀ k, k ≤ kb_kn n r → ∀ j, n ≤ j → kb_rw kd r f k j = f j
  | 0, _, _, _ => rfl
  | k + 1, hk, j, hj => by
    have hl := kb_lf_lt (show k < kb_kn n r by omega)
    unfold kb_rw
    split
    · unfold kb_sw
      rw [if_neg (by omega), if_neg (by omega)]
      exact kb_rw_fix k (by omega) j hj
    · exact kb_rw_fix k (by omega) j hj
theorem kb_at_fix {kd : Nat → Nat → Nat} {n : Nat} : ∀ r j, n ≤ j → kb_at kd n r j = j
  | 0, _, _ => rfl
  | r + 1, j, hj => by
    show kb_rw kd r (kb_at kd n r) (kb_kn n r) j = j
    rw [kb_rw_fix _ (Nat.le_refl _) j hj]
    exact kb_at_fix r j hj
theorem kb_it_fix {kd : Nat → Nat → Nat} {n R : Nat} (_hn : n ≤ 6) (t : Nat) : ∀ (_u : Unit) (j : Nat), n ≤ j → kb_it (kb_at kd n R) t j = j := by
  intro _
  induction t with
  | zero => intro j _; rfl
  | succ t ih =>
    intro j hj
    show kb_it _ t (kb_at kd n R j) = j
    rw [kb_at_fix R j hj]
    exact ih j hj
theorem iX5_home_X5 : ∀ w ∈ wsX50, w ∈ wsX5_home := fun _ h => List.mem_cons_of_mem _ (by first | exact h | exact List.mem_append_right _ h | exact List.mem_append_left _ (List.mem_append_right _ h) | exact List.mem_append_left _ (List.mem_append_left _ (List.mem_append_right _ h)) | exact List.mem_append_left _ (List.mem_append_left _ (List.mem_append_left _ (List.mem_append_right _ h))) | exact List.mem_append_left _ (List.mem_append_left _ (List.mem_append_left _ (List.mem_append_left _ (List.mem_append_right _ h)))) | exact List.mem_append_left _ (List.mem_append_left _ (List.mem_append_left _ (List.mem_append_left _ (List.mem_append_left _ (List.mem_append_right _ h))))))
set_option maxRecDepth 100000 in
set_option maxHeartbeats 4000000 in
/-- X5.home -/
theorem m_mhome (l : Launch) (E : kb_E) (X : Nat → Nat → Int32) (Y : Nat → Nat → Int64) (b w0 : Int32) (hMI : kb_MI X) : kb_Met l E 202 yX5_home wsX5_home ({ frames := 2, cells := 0, slots := 0, locals := 47 }) [.ref (E.2.2.2 188), .int b, .int w0] (kb_ent E X Y) (kb_out E X Y (kb_okB X b ∧ (w0 = 0 ∨ w0 = nI 1)) True (fun v X' => kb_MS X X' ∧ (kb_tn (X 190 (kb_tn b)) % 2 = 1 → v = -1) ∧ (¬ kb_tn (X 190 (kb_tn b)) % 2 = 1 → ∃ T, 1 ≤ T ∧ T ≤ 6 ∧ v = nI T ∧ kb_hmT (kb_at (kb_mkd X (kb_tn b)) (kb_tn (X 189 (kb_tn b))) (kb_tn (X 190 (kb_tn b)))) (kb_tn (X 189 (kb_tn b))) (decide (¬ w0 = 0)) (fun t => X 191 (6 * kb_tn b + t)) T))) := by
  refine kb_enter (cc := cX5_home) (maxL := 6) (ret := (some .int)) (by decide +kernel) rfl (by simp [Value.category]) (Nat.le_of_ble_eq_true rfl) ?_
  intro p e s m args below meth c C hini
  refine q_aload_n C dX5_home_0 rfl ?_
  refine q_iload_n C dX5_home_1 rfl ?_
  refine x_callV (As := [_]) (nA := 1) (T := TX5) (NF := 15) C dX5_home_2 ob_M rfl (m_isBand _ _ X Y b) gX5_home_X5_isBand rfl (by decide +kernel) rfl ⟨Nat.le_of_ble_eq_true rfl, Nat.le_of_ble_eq_true rfl⟩ (Nat.le_of_ble_eq_true rfl) ⟨Nat.le_of_ble_eq_true rfl, Nat.le_of_ble_eq_true rfl⟩ (fun v2 g2 h2 => ?_)
  rcases h2 with ⟨hc2, rfl, rfl⟩ | ⟨hc2, rfl, rfl⟩
  · obtain ⟨b', hb', rfl, hb8⟩ := kb_okB_nat hMI hc2
    have eb : kb_tn (nI b') = b' := kb_tn_nI (by omega)
    have hnb := hMI.2.1 b' hb'
    have hth : kb_thr X (nI 0) 189 b' = nI (kb_tn (X 189 b')) := by rw [kb_thr_ne (by decide)]; exact hnb.1.1
    have hrw : kb_thr X (nI 0) 190 b' = nI (kb_tn (X 190 b')) := by rw [kb_thr_ne (by decide)]; exact hnb.2.2.1
    have hr16 : kb_tn (X 190 b') ≤ 16 := hnb.2.2.2
    have hn6 : kb_tn (X 189 b') ≤ 6 := hnb.1.2
    have hn2 : 2 ≤ kb_tn (X 189 b') := hnb.2.1
    have hkd : ∀ r, r < 16 → ∀ k, k < 3 → kb_thr X (nI 0) 192 (48 * b' + 3 * r + k) = nI (kb_mkd X b' r k) ∧ kb_mkd X b' r k < 4 := fun r hr k hk => by rw [kb_thr_ne (by decide)]; exact ⟨(hMI.2.2.2.1 _ (by omega)).1, Nat.lt_succ_of_le (hMI.2.2.2.1 _ (by omega)).2⟩
    refine q_ifeq C (tgt := 30) dX5_home_5 (by decide) (fun c5 => ?_) (fun c5 => ?_)
    · exact absurd c5 (by decide)
    · refine q_aload_n C dX5_home_8 rfl ?_
      refine q_cut 23 (P := kb_flag (w0 = 0 ∨ w0 = nI 1)) (fun f23 hf23 => ?_) (fun J23 => ?_)
      · refine q_iconst C (v := nI 1) dX5_home_23 (by decide) ?_
        refine x_callV (As := [_, _]) (nA := 2) (T := TX5) (NF := 15) C dX5_home_24 ob_M rfl (m_right _ _ (kb_thr X (nI 0)) Y ((w0 = 0 ∨ w0 = nI 1)) _ _ (by exact kb_thr_at) (by decide) hf23) gX5_home_X5_right rfl (by decide +kernel) rfl ⟨Nat.le_of_ble_eq_true rfl, Nat.le_of_ble_eq_true rfl⟩ (Nat.le_of_ble_eq_true rfl) ⟨Nat.le_of_ble_eq_true rfl, Nat.le_of_ble_eq_true rfl⟩ (fun v24 g24 h24 => ?_)
        rcases h24 with ⟨hc24, rfl, rfl⟩ | ⟨hc24, rfl, rfl⟩
        · refine q_ifne C (tgt := 32) dX5_home_27 (by decide) (fun c27 => ?_) (fun c27 => ?_)
          · refine q_aload_n C dX5_home_32 rfl ?_
            refine x_getR C (ci := 5) (k := 4) (C0 := RX5) (T := TX5) (NF := 15) (ref := RX5) (host := RX4) dX5_home_33 fr_Mrow rfl iX5_home_X5 (by decide) (List.mem_of_getElem? (i := 1) rfl) rfl ?_
            refine q_iload_n C dX5_home_36 rfl ?_
            refine x_ialdN C dX5_home_37 ia_Mrow (by decide) (by omega) ?_
            refine q_top (show Value.int _ = Value.int _ from congrArg Value.int (hrw)) ?_
            refine q_iconst C (v := nI 2) dX5_home_38 (by decide) ?_
            refine q_irem C dX5_home_39 (by decide) ?_
            refine q_top (show Value.int _ = Value.int _ from congrArg Value.int (pk_rem (a := kb_tn (X 190 b')) (d := 2) (by omega) (by decide) (by decide))) ?_
            refine q_iconst C (v := nI 1) dX5_home_40 (by decide) ?_
            refine q_icmpneN C (tgt := 46) dX5_home_41 (by decide) (by omega) (by omega) (fun c41 => ?_) (fun c41 => ?_)
            · refine q_aload_n C dX5_home_46 rfl ?_
              refine q_iload_n C dX5_home_47 rfl ?_
              refine q_aload_n C dX5_home_48 rfl ?_
              refine x_getR C (ci := 5) (k := 4) (C0 := RX5) (T := TX5) (NF := 15) (ref := RX5) (host := RX4) dX5_home_49 fr_Mrow rfl iX5_home_X5 (by decide) (List.mem_of_getElem? (i := 1) rfl) rfl ?_
              refine q_iload_n C dX5_home_52 rfl ?_
              refine x_ialdN C dX5_home_53 ia_Mrow (by decide) (by omega) ?_
              refine q_top (show Value.int _ = Value.int _ from congrArg Value.int (hrw)) ?_
              refine x_callV (As := [_, _]) (nA := 2) (T := TX5) (NF := 15) C dX5_home_54 ob_M rfl (m_stands _ _ (kb_thr X (nI 0)) Y b' (kb_tn (X 189 b')) (kb_tn (X 190 b')) hb8 hn6 hn2 hr16 hth (kb_mkd X b') hkd) gX5_home_X5_stands rfl (by decide +kernel) rfl ⟨Nat.le_of_ble_eq_true rfl, Nat.le_of_ble_eq_true rfl⟩ (Nat.le_of_ble_eq_true rfl) ⟨Nat.le_of_ble_eq_true rfl, Nat.le_of_ble_eq_true rfl⟩ (fun v54 g54 h54 => ?_)
              obtain ⟨rfl, Xs, rfl, hs⟩ := h54
              have hperm : kb_perm 6 (kb_at (kb_mkd X b') (kb_tn (X 189 b')) (kb_tn (X 190 b'))) := kb_perm_atM hn6 _
              have hpermn : kb_perm (kb_tn (X 189 b')) (kb_at (kb_mkd X b') (kb_tn (X 189 b')) (kb_tn (X 190 b'))) := kb_perm_at _
              refine q_iconst C (v := nI 0) dX5_home_57 (by decide) ?_
              refine q_istore_n C dX5_home_58 (by decide) rfl ?_
              refine q_mask [true, true, true, true, false, false] (q_for (σ := Unit) (k0 := 0) (6) (fun k _ X' Y' => Y = Y' ∧ kb_hs Xs X' ∧ ∀ j, j < k → X' 198 j = nI j) (fun k _ => [some (.ref (E.2.2.2 188)), some (.int (nI b')), some (.int w0), some (.int (nI k)), none, none]) (Nat.zero_le _) () (⟨rfl, fun _ _ _ => rfl, fun j hj => absurd hj (Nat.not_lt_zero _)⟩) ?_ ?_)
              · intro k a X1 Y1 hk_k hk0_k hI_k ih_k
                obtain ⟨rfl, hI1⟩ := hI_k
                refine q_iload_n C dX5_home_59 rfl ?_
                refine q_bipush C (v := nI 6) dX5_home_60 (by decide) ?_
                refine q_icmpgeN C (tgt := 78) dX5_home_62 (by decide) (by omega) (by omega) (fun c62 => ?_) (fun c62 => ?_)
                · exact absurd c62 (by omega)
                · refine q_aload_n C dX5_home_65 rfl ?_
                  refine x_getR C (ci := 5) (k := 12) (C0 := RX5) (T := TX5) (NF := 15) (ref := RX5) (host := RX4) dX5_home_66 fr_Mnow rfl iX5_home_X5 (by decide) (List.mem_of_getElem? (i := 2) rfl) rfl ?_
                  refine q_iload_n C dX5_home_69 rfl ?_
                  refine q_iload_n C dX5_home_70 rfl ?_
                  refine x_iastN C dX5_home_71 ia_Mnow (by decide) (by omega) ?_
                  refine q_iinc1 C dX5_home_72 rfl (by decide) rfl ?_
                  refine q_goto C (tgt := 59) dX5_home_75 (by decide) ?_
                  exact q_mask [true, true, true, true, false, false] (ih_k () _ _ ⟨rfl, fun q h1 h2 => by simp only [va_up, if_neg h1]; exact hI1.1 q h1 h2, fun j hj => by
                    by_cases e : j = k
                    · subst e; simp [va_up, upd]
                    · have := hI1.2 j (by omega)
                      simp [va_up, upd, e, this]⟩)
              · intro a X1 Y1 hI_k
                obtain ⟨rfl, hI1⟩ := hI_k
                refine q_iload_n C dX5_home_59 rfl ?_
                refine q_bipush C (v := nI 6) dX5_home_60 (by decide) ?_
                refine q_icmpgeN C (tgt := 78) dX5_home_62 (by decide) (by omega) (by omega) (fun c62 => ?_) (fun c62 => ?_)
                · refine q_iconst C (v := nI 0) dX5_home_78 (by decide) ?_
                  refine q_istore_n C dX5_home_79 (by decide) rfl ?_
                  refine q_iconst C (v := nI 0) dX5_home_80 (by decide) ?_
                  refine q_istore C dX5_home_81 (by decide) rfl ?_
                  refine q_mask [true, true, true, true, true, false] (q_loop (σ := Nat × Int32) (fun a => 7 - a.1) (fun (a : Nat × Int32) X' Y' => Y = Y' ∧ kb_hs Xs X' ∧ (∀ j, j < 6 → X' 198 j = nI (kb_it (kb_at (kb_mkd X b') (kb_tn (X 189 b')) (kb_tn (X 190 b'))) a.1 j)) ∧ a.1 ≤ 6 ∧ (∀ u, 1 ≤ u → u < a.1 → ¬ kb_home (kb_at (kb_mkd X b') (kb_tn (X 189 b')) (kb_tn (X 190 b'))) (kb_tn (X 189 b')) (decide (¬ w0 = 0)) (fun t => X 191 (6 * b' + t)) u) ∧ ((a.2 = nI 0 ∧ (1 ≤ a.1 → ¬ kb_home (kb_at (kb_mkd X b') (kb_tn (X 189 b')) (kb_tn (X 190 b'))) (kb_tn (X 189 b')) (decide (¬ w0 = 0)) (fun t => X 191 (6 * b' + t)) a.1)) ∨ (a.2 = nI 1 ∧ 1 ≤ a.1 ∧ kb_home (kb_at (kb_mkd X b') (kb_tn (X 189 b')) (kb_tn (X 190 b'))) (kb_tn (X 189 b')) (decide (¬ w0 = 0)) (fun t => X 191 (6 * b' + t)) a.1))) (fun (a : Nat × Int32) => [some (.ref (E.2.2.2 188)), some (.int (nI b')), some (.int w0), some (.int (nI a.1)), some (.int a.2), none]) (0, nI 0) ⟨rfl, hI1.1, fun j hj => hI1.2 j hj, by decide, fun u h1 h2 => absurd h2 (Nat.not_lt_zero _), Or.inl ⟨rfl, fun h => absurd h (by decide)⟩⟩ ?_)
                  intro a X2 Y2 hI2 ih2
                  obtain ⟨t, fl⟩ := a
                  obtain ⟨rfl, hh2, hnow, ht6, hno, hfl⟩ := hI2
                  dsimp only at hnow ht6 hno hfl ⊢
                  refine q_iload C dX5_home_83 rfl ?_
                  refine q_ifne C (tgt := 229) dX5_home_85 (by decide) (fun c85 => ?_) (fun c85 => ?_)
                  · have hfl1 : fl = nI 1 ∧ 1 ≤ t ∧ kb_home (kb_at (kb_mkd X b') (kb_tn (X 189 b')) (kb_tn (X 190 b'))) (kb_tn (X 189 b')) (decide (¬ w0 = 0)) (fun t => X 191 (6 * b' + t)) t := by
                      rcases hfl with h | h
                      · exact absurd h.1 c85
                      · exact h
                    refine q_iload_n C dX5_home_229 rfl ?_
                    exact q_iret C dX5_home_230 ⟨_, rfl, Or.inr (Or.inr ⟨⟨hc2, hc24⟩, trivial, _, rfl, (congrFun (hh2 188 (by decide) (by decide)) 0).trans ((congrFun (hs.1 188 (by decide)) 0).trans kb_thr_at), (kb_MS.thr X _).trans (hs.ms.trans ⟨fun n a _ => hh2 n (by omega) (by omega), hh2 201 (by decide) (by decide), fun k _ => by rw [hh2 188 (by decide) (by decide)]⟩), fun h => absurd h (by rw [eb]; omega), fun _ => by rw [eb]; exact ⟨t, hfl1.2.1, ht6, rfl, hfl1.2.1, hfl1.2.2, hno⟩⟩)⟩
                  · have hfl0 : 1 ≤ t → ¬ kb_home (kb_at (kb_mkd X b') (kb_tn (X 189 b')) (kb_tn (X 190 b'))) (kb_tn (X 189 b')) (decide (¬ w0 = 0)) (fun t => X 191 (6 * b' + t)) t := by
                      rcases hfl with h | h
                      · exact h.2
                      · exact absurd (h.1.symm.trans c85) (by decide)
                    have hno1 : ∀ u, 1 ≤ u → u < t + 1 → ¬ kb_home (kb_at (kb_mkd X b') (kb_tn (X 189 b')) (kb_tn (X 190 b'))) (kb_tn (X 189 b')) (decide (¬ w0 = 0)) (fun t => X 191 (6 * b' + t)) u := by
                      intro u h1 h2
                      rcases Nat.lt_or_ge u t with q | q
                      · exact hno u h1 q
                      · have e9 : u = t := by omega
                        subst e9
                        exact hfl0 h1
                    have ht6 : t + 1 ≤ 6 := kb_hmT_le hperm hn6 hno1
                    refine q_iinc1 C dX5_home_88 rfl (by decide) rfl ?_
                    refine q_iconst C (v := nI 0) dX5_home_91 (by decide) ?_
                    refine q_istore C dX5_home_92 (by decide) rfl ?_
                    refine q_mask [true, true, true, true, false, true] (q_for (σ := Unit) (k0 := 0) (6) (fun k _ X' Y' => Y = Y' ∧ kb_hs Xs X' ∧ (∀ j, j < 6 → X' 198 j = nI (kb_it (kb_at (kb_mkd X b') (kb_tn (X 189 b')) (kb_tn (X 190 b'))) t j)) ∧ ∀ j, j < k → X' 199 j = nI (kb_it (kb_at (kb_mkd X b') (kb_tn (X 189 b')) (kb_tn (X 190 b'))) (t + 1) j)) (fun k _ => [some (.ref (E.2.2.2 188)), some (.int (nI b')), some (.int w0), some (.int (nI (t + 1))), none, some (.int (nI k))]) (Nat.zero_le _) () (⟨rfl, hh2, hnow, fun j hj => absurd hj (Nat.not_lt_zero _)⟩) ?_ ?_)
                    · intro k3 a3 X3 Y3 hk_k3 hk0_k3 hI_k3 ih_k3
                      obtain ⟨rfl, hI3⟩ := hI_k3
                      have eat : X3 197 = Xs 197 := hI3.1 197 (by decide) (by decide)
                      refine q_iload C dX5_home_94 rfl ?_
                      refine q_bipush C (v := nI 6) dX5_home_96 (by decide) ?_
                      refine q_icmpgeN C (tgt := 126) dX5_home_98 (by decide) (by omega) (by omega) (fun c98 => ?_) (fun c98 => ?_)
                      · exact absurd c98 (by omega)
                      · refine q_aload_n C dX5_home_101 rfl ?_
                        refine x_getR C (ci := 5) (k := 13) (C0 := RX5) (T := TX5) (NF := 15) (ref := RX5) (host := RX4) dX5_home_102 fr_Mthe rfl iX5_home_X5 (by decide) (List.mem_of_getElem? (i := 3) rfl) rfl ?_
                        refine q_iload C dX5_home_105 rfl ?_
                        refine q_aload_n C dX5_home_107 rfl ?_
                        refine x_getR C (ci := 5) (k := 12) (C0 := RX5) (T := TX5) (NF := 15) (ref := RX5) (host := RX4) dX5_home_108 fr_Mnow rfl iX5_home_X5 (by decide) (List.mem_of_getElem? (i := 2) rfl) rfl ?_
                        refine q_aload_n C dX5_home_111 rfl ?_
                        refine x_getR C (ci := 5) (k := 11) (C0 := RX5) (T := TX5) (NF := 15) (ref := RX5) (host := RX4) dX5_home_112 fr_Mat rfl iX5_home_X5 (by decide) (List.mem_of_getElem? (i := 4) rfl) rfl ?_
                        refine q_iload C dX5_home_115 rfl ?_
                        refine x_ialdN C dX5_home_117 ia_Mat (by decide) (by omega) ?_
                        refine q_top (show Value.int _ = Value.int _ from congrArg Value.int ((congrFun eat _).trans (hs.2 _ (by omega)))) ?_
                        refine x_ialdN C dX5_home_118 ia_Mnow (by decide) (hperm.1 _ (by omega)) ?_
                        refine x_iastN C dX5_home_119 ia_Mthe (by decide) (by omega) ?_
                        refine q_iinc1 C dX5_home_120 rfl (by decide) rfl ?_
                        refine q_goto C (tgt := 94) dX5_home_123 (by decide) ?_
                        exact q_mask [true, true, true, true, false, true] (ih_k3 () _ _ ⟨rfl, fun q h1 h2 => by simp only [va_up, if_neg h2]; exact hI3.1 q h1 h2, fun j hj => by simp only [va_up, if_neg (show (198 : Nat) ≠ 199 by decide)]; exact hI3.2.1 j hj, fun j hj => by
                          simp only [va_up, if_true]
                          by_cases e : j = k3
                          · subst e; simp only [upd, if_true]; exact hI3.2.1 _ (hperm.1 _ (by omega))
                          · simp only [upd, if_neg e]; exact hI3.2.2 j (by omega)⟩)
                    · intro a3 X3 Y3 hI_k3
                      obtain ⟨rfl, hI3⟩ := hI_k3
                      have eat : X3 197 = Xs 197 := hI3.1 197 (by decide) (by decide)
                      refine q_iload C dX5_home_94 rfl ?_
                      refine q_bipush C (v := nI 6) dX5_home_96 (by decide) ?_
                      refine q_icmpgeN C (tgt := 126) dX5_home_98 (by decide) (by omega) (by omega) (fun c98 => ?_) (fun c98 => ?_)
                      · refine q_iconst C (v := nI 1) dX5_home_126 (by decide) ?_
                        refine q_istore C dX5_home_127 (by decide) rfl ?_
                        refine q_iconst C (v := nI 0) dX5_home_129 (by decide) ?_
                        refine q_istore C dX5_home_130 (by decide) rfl ?_
                        refine q_mask [true, true, true, true, true, true] (q_for (σ := Int32) (k0 := 0) ((kb_tn (X 189 b'))) (fun k (f : Int32) X' Y' => Y = Y' ∧ kb_hs Xs X' ∧ (∀ j, j < 6 → X' 199 j = nI (kb_it (kb_at (kb_mkd X b') (kb_tn (X 189 b')) (kb_tn (X 190 b'))) (t + 1) j)) ∧ (∀ j, j < k → X' 198 j = nI (kb_it (kb_at (kb_mkd X b') (kb_tn (X 189 b')) (kb_tn (X 190 b'))) (t + 1) j)) ∧ (∀ j, (kb_tn (X 189 b')) ≤ j → j < 6 → X' 198 j = nI (kb_it (kb_at (kb_mkd X b') (kb_tn (X 189 b')) (kb_tn (X 190 b'))) t j)) ∧ kb_flag (∀ p, p < k → (if (decide (¬ w0 = 0)) then (fun t => X 191 (6 * b' + t)) (kb_it (kb_at (kb_mkd X b') (kb_tn (X 189 b')) (kb_tn (X 190 b'))) (t + 1) p) = (fun t => X 191 (6 * b' + t)) p else kb_it (kb_at (kb_mkd X b') (kb_tn (X 189 b')) (kb_tn (X 190 b'))) (t + 1) p = p)) f) (fun k (f : Int32) => [some (.ref (E.2.2.2 188)), some (.int (nI b')), some (.int w0), some (.int (nI (t + 1))), some (.int f), some (.int (nI k))]) (Nat.zero_le _) (nI 1) (⟨rfl, hI3.1, hI3.2.2, fun j hj => absurd hj (Nat.not_lt_zero _), fun j _ hj => hI3.2.1 j hj, Or.inl ⟨rfl, fun p hp => absurd hp (Nat.not_lt_zero _)⟩⟩) ?_ ?_)
                        · intro k4 f4 X4 Y4 hk_k4 hk0_k4 hI_k4 ih_k4
                          obtain ⟨rfl, hI4⟩ := hI_k4
                          have eth : X4 189 b' = nI (kb_tn (X 189 b')) := (congrFun (hI4.1 189 (by decide) (by decide)) b').trans ((congrFun (hs.1 189 (by decide)) b').trans hth)
                          have ecol : ∀ q, X4 191 q = X 191 q := fun q => (congrFun (hI4.1 191 (by decide) (by decide)) q).trans ((congrFun (hs.1 191 (by decide)) q).trans (congrFun (kb_thr_ne (by decide)) q))
                          have hpk : kb_it (kb_at (kb_mkd X b') (kb_tn (X 189 b')) (kb_tn (X 190 b'))) (t + 1) k4 < (kb_tn (X 189 b')) := kb_it_lt hpermn.1 _ _ hk_k4
                          refine q_iload C dX5_home_132 rfl ?_
                          refine q_aload_n C dX5_home_134 rfl ?_
                          refine x_getR C (ci := 5) (k := 3) (C0 := RX5) (T := TX5) (NF := 15) (ref := RX5) (host := RX4) dX5_home_135 fr_Mthr rfl iX5_home_X5 (by decide) (List.mem_of_getElem? (i := 5) rfl) rfl ?_
                          refine q_iload_n C dX5_home_138 rfl ?_
                          refine x_ialdN C dX5_home_139 ia_Mthr (by decide) (by omega) ?_
                          refine q_top (show Value.int _ = Value.int _ from congrArg Value.int (eth)) ?_
                          refine q_icmpgeN C (tgt := 226) dX5_home_140 (by decide) (by omega) (by omega) (fun c140 => ?_) (fun c140 => ?_)
                          · exact absurd c140 (by omega)
                          · refine q_aload_n C dX5_home_143 rfl ?_
                            refine x_getR C (ci := 5) (k := 12) (C0 := RX5) (T := TX5) (NF := 15) (ref := RX5) (host := RX4) dX5_home_144 fr_Mnow rfl iX5_home_X5 (by decide) (List.mem_of_getElem? (i := 2) rfl) rfl ?_
                            refine q_iload C dX5_home_147 rfl ?_
                            refine q_aload_n C dX5_home_149 rfl ?_
                            refine x_getR C (ci := 5) (k := 13) (C0 := RX5) (T := TX5) (NF := 15) (ref := RX5) (host := RX4) dX5_home_150 fr_Mthe rfl iX5_home_X5 (by decide) (List.mem_of_getElem? (i := 3) rfl) rfl ?_
                            refine q_iload C dX5_home_153 rfl ?_
                            refine x_ialdN C dX5_home_155 ia_Mthe (by decide) (by omega) ?_
                            refine x_iastN C dX5_home_156 ia_Mnow (by decide) (by omega) ?_
                            refine q_iload C dX5_home_157 rfl ?_
                            refine q_ifeq C (tgt := 217) dX5_home_159 (by decide) (fun c159 => ?_) (fun c159 => ?_)
                            · refine q_iconst C (v := nI 0) dX5_home_217 (by decide) ?_
                              refine q_istore C dX5_home_218 (by decide) rfl ?_
                              refine q_iinc1 C dX5_home_220 rfl (by decide) rfl ?_
                              refine q_goto C (tgt := 132) dX5_home_223 (by decide) ?_
                              exact q_mask [true, true, true, true, true, true] (ih_k4 _ _ _ ⟨rfl, fun q h1 h2 => by simp only [va_up, if_neg h1]; exact hI4.1 q h1 h2, fun j hj => by simp only [va_up, if_neg (show (199 : Nat) ≠ 198 by decide)]; exact hI4.2.1 j hj, fun j hj => by
                                simp only [va_up, if_true]
                                by_cases e : j = k4
                                · subst e; simp only [upd, if_true]; exact hI4.2.1 _ (by omega)
                                · simp only [upd, if_neg e]; exact hI4.2.2.1 j (by omega), fun j h1 h2 => by
                                simp only [va_up, if_true, upd, if_neg (show ¬ j = k4 by omega)]; exact hI4.2.2.2.1 j h1 h2, by
                                have hf4 := hI4.2.2.2.2
                                first
                                | exact Or.inr ⟨rfl, fun h => (kb_flag0 hf4 c159) (fun p hp => h p (by omega))⟩
                                | (refine Or.inl ⟨rfl, fun p hp => ?_⟩
                                   by_cases e : p = k4
                                   · subst e; first | (rw [if_neg (by simp [c163])]; exact c175) | (rw [if_pos (by simp [c163])]; exact c210)
                                   · exact kb_flag1 hf4 c159 p (by omega))
                                | (refine Or.inr ⟨rfl, fun h => ?_⟩
                                   have h9 := h k4 (by omega)
                                   first | (rw [if_neg (by simp [c163])] at h9; exact c175 h9) | (rw [if_pos (by simp [c163])] at h9; exact c210 h9))⟩)
                            · refine q_iload_n C dX5_home_162 rfl ?_
                              refine q_ifne C (tgt := 181) dX5_home_163 (by decide) (fun c163 => ?_) (fun c163 => ?_)
                              · refine q_aload_n C dX5_home_181 rfl ?_
                                refine x_getR C (ci := 5) (k := 5) (C0 := RX5) (T := TX5) (NF := 15) (ref := RX5) (host := RX4) dX5_home_182 fr_Mcol rfl iX5_home_X5 (by decide) (List.mem_of_getElem? (i := 6) rfl) rfl ?_
                                refine q_bipush C (v := nI 6) dX5_home_185 (by decide) ?_
                                refine q_iload_n C dX5_home_187 rfl ?_
                                refine q_imulN C dX5_home_188 ?_
                                refine q_aload_n C dX5_home_189 rfl ?_
                                refine x_getR C (ci := 5) (k := 12) (C0 := RX5) (T := TX5) (NF := 15) (ref := RX5) (host := RX4) dX5_home_190 fr_Mnow rfl iX5_home_X5 (by decide) (List.mem_of_getElem? (i := 2) rfl) rfl ?_
                                refine q_iload C dX5_home_193 rfl ?_
                                refine x_ialdN C dX5_home_195 ia_Mnow (by decide) (by omega) ?_
                                refine q_top (show Value.int _ = Value.int _ from congrArg Value.int ((show va_up X4 198 (upd (X4 198) k4 _) 198 k4 = nI (kb_it (kb_at (kb_mkd X b') (kb_tn (X 189 b')) (kb_tn (X 190 b'))) (t + 1) k4) from by simp only [va_up, upd, if_true]; exact hI4.2.1 _ (by omega)))) ?_
                                refine q_iaddN C dX5_home_196 ?_
                                refine x_ialdN C dX5_home_197 ia_Mcol (by decide) (by omega) ?_
                                refine q_top (show Value.int _ = Value.int _ from congrArg Value.int (((congrFun (kb_up_ne (show (191 : Nat) ≠ 198 by decide)) _).trans (ecol _)))) ?_
                                refine q_aload_n C dX5_home_198 rfl ?_
                                refine x_getR C (ci := 5) (k := 5) (C0 := RX5) (T := TX5) (NF := 15) (ref := RX5) (host := RX4) dX5_home_199 fr_Mcol rfl iX5_home_X5 (by decide) (List.mem_of_getElem? (i := 6) rfl) rfl ?_
                                refine q_bipush C (v := nI 6) dX5_home_202 (by decide) ?_
                                refine q_iload_n C dX5_home_204 rfl ?_
                                refine q_imulN C dX5_home_205 ?_
                                refine q_iload C dX5_home_206 rfl ?_
                                refine q_iaddN C dX5_home_208 ?_
                                refine x_ialdN C dX5_home_209 ia_Mcol (by decide) (by omega) ?_
                                refine q_top (show Value.int _ = Value.int _ from congrArg Value.int (((congrFun (kb_up_ne (show (191 : Nat) ≠ 198 by decide)) _).trans (ecol _)))) ?_
                                refine q_icmpne C (tgt := 217) dX5_home_210 (by decide) (fun c210 => ?_) (fun c210 => ?_)
                                · refine q_iconst C (v := nI 0) dX5_home_217 (by decide) ?_
                                  refine q_istore C dX5_home_218 (by decide) rfl ?_
                                  refine q_iinc1 C dX5_home_220 rfl (by decide) rfl ?_
                                  refine q_goto C (tgt := 132) dX5_home_223 (by decide) ?_
                                  exact q_mask [true, true, true, true, true, true] (ih_k4 _ _ _ ⟨rfl, fun q h1 h2 => by simp only [va_up, if_neg h1]; exact hI4.1 q h1 h2, fun j hj => by simp only [va_up, if_neg (show (199 : Nat) ≠ 198 by decide)]; exact hI4.2.1 j hj, fun j hj => by
                                    simp only [va_up, if_true]
                                    by_cases e : j = k4
                                    · subst e; simp only [upd, if_true]; exact hI4.2.1 _ (by omega)
                                    · simp only [upd, if_neg e]; exact hI4.2.2.1 j (by omega), fun j h1 h2 => by
                                    simp only [va_up, if_true, upd, if_neg (show ¬ j = k4 by omega)]; exact hI4.2.2.2.1 j h1 h2, by
                                    have hf4 := hI4.2.2.2.2
                                    first
                                    | exact Or.inr ⟨rfl, fun h => (kb_flag0 hf4 c159) (fun p hp => h p (by omega))⟩
                                    | (refine Or.inl ⟨rfl, fun p hp => ?_⟩
                                       by_cases e : p = k4
                                       · subst e; first | (rw [if_neg (by simp [c163])]; exact c175) | (rw [if_pos (by simp [c163])]; exact c210)
                                       · exact kb_flag1 hf4 c159 p (by omega))
                                    | (refine Or.inr ⟨rfl, fun h => ?_⟩
                                       have h9 := h k4 (by omega)
                                       first | (rw [if_neg (by simp [c163])] at h9; exact c175 h9) | (rw [if_pos (by simp [c163])] at h9; exact c210 h9))⟩)
                                · refine q_iconst C (v := nI 1) dX5_home_213 (by decide) ?_
                                  refine q_goto C (tgt := 218) dX5_home_214 (by decide) ?_
                                  refine q_istore C dX5_home_218 (by decide) rfl ?_
                                  refine q_iinc1 C dX5_home_220 rfl (by decide) rfl ?_
                                  refine q_goto C (tgt := 132) dX5_home_223 (by decide) ?_
                                  exact q_mask [true, true, true, true, true, true] (ih_k4 _ _ _ ⟨rfl, fun q h1 h2 => by simp only [va_up, if_neg h1]; exact hI4.1 q h1 h2, fun j hj => by simp only [va_up, if_neg (show (199 : Nat) ≠ 198 by decide)]; exact hI4.2.1 j hj, fun j hj => by
                                    simp only [va_up, if_true]
                                    by_cases e : j = k4
                                    · subst e; simp only [upd, if_true]; exact hI4.2.1 _ (by omega)
                                    · simp only [upd, if_neg e]; exact hI4.2.2.1 j (by omega), fun j h1 h2 => by
                                    simp only [va_up, if_true, upd, if_neg (show ¬ j = k4 by omega)]; exact hI4.2.2.2.1 j h1 h2, by
                                    have hf4 := hI4.2.2.2.2
                                    first
                                    | exact Or.inr ⟨rfl, fun h => (kb_flag0 hf4 c159) (fun p hp => h p (by omega))⟩
                                    | (refine Or.inl ⟨rfl, fun p hp => ?_⟩
                                       by_cases e : p = k4
                                       · subst e; first | (rw [if_neg (by simp [c163])]; exact c175) | (rw [if_pos (by simp [c163])]; exact c210)
                                       · exact kb_flag1 hf4 c159 p (by omega))
                                    | (refine Or.inr ⟨rfl, fun h => ?_⟩
                                       have h9 := h k4 (by omega)
                                       first | (rw [if_neg (by simp [c163])] at h9; exact c175 h9) | (rw [if_pos (by simp [c163])] at h9; exact c210 h9))⟩)
                              · refine q_aload_n C dX5_home_166 rfl ?_
                                refine x_getR C (ci := 5) (k := 12) (C0 := RX5) (T := TX5) (NF := 15) (ref := RX5) (host := RX4) dX5_home_167 fr_Mnow rfl iX5_home_X5 (by decide) (List.mem_of_getElem? (i := 2) rfl) rfl ?_
                                refine q_iload C dX5_home_170 rfl ?_
                                refine x_ialdN C dX5_home_172 ia_Mnow (by decide) (by omega) ?_
                                refine q_top (show Value.int _ = Value.int _ from congrArg Value.int ((show va_up X4 198 (upd (X4 198) k4 _) 198 k4 = nI (kb_it (kb_at (kb_mkd X b') (kb_tn (X 189 b')) (kb_tn (X 190 b'))) (t + 1) k4) from by simp only [va_up, upd, if_true]; exact hI4.2.1 _ (by omega)))) ?_
                                refine q_iload C dX5_home_173 rfl ?_
                                refine q_icmpneN C (tgt := 217) dX5_home_175 (by decide) (by omega) (by omega) (fun c175 => ?_) (fun c175 => ?_)
                                · refine q_iconst C (v := nI 0) dX5_home_217 (by decide) ?_
                                  refine q_istore C dX5_home_218 (by decide) rfl ?_
                                  refine q_iinc1 C dX5_home_220 rfl (by decide) rfl ?_
                                  refine q_goto C (tgt := 132) dX5_home_223 (by decide) ?_
                                  exact q_mask [true, true, true, true, true, true] (ih_k4 _ _ _ ⟨rfl, fun q h1 h2 => by simp only [va_up, if_neg h1]; exact hI4.1 q h1 h2, fun j hj => by simp only [va_up, if_neg (show (199 : Nat) ≠ 198 by decide)]; exact hI4.2.1 j hj, fun j hj => by
                                    simp only [va_up, if_true]
                                    by_cases e : j = k4
                                    · subst e; simp only [upd, if_true]; exact hI4.2.1 _ (by omega)
                                    · simp only [upd, if_neg e]; exact hI4.2.2.1 j (by omega), fun j h1 h2 => by
                                    simp only [va_up, if_true, upd, if_neg (show ¬ j = k4 by omega)]; exact hI4.2.2.2.1 j h1 h2, by
                                    have hf4 := hI4.2.2.2.2
                                    first
                                    | exact Or.inr ⟨rfl, fun h => (kb_flag0 hf4 c159) (fun p hp => h p (by omega))⟩
                                    | (refine Or.inl ⟨rfl, fun p hp => ?_⟩
                                       by_cases e : p = k4
                                       · subst e; first | (rw [if_neg (by simp [c163])]; exact c175) | (rw [if_pos (by simp [c163])]; exact c210)
                                       · exact kb_flag1 hf4 c159 p (by omega))
                                    | (refine Or.inr ⟨rfl, fun h => ?_⟩
                                       have h9 := h k4 (by omega)
                                       first | (rw [if_neg (by simp [c163])] at h9; exact c175 h9) | (rw [if_pos (by simp [c163])] at h9; exact c210 h9))⟩)
                                · refine q_goto C (tgt := 213) dX5_home_178 (by decide) ?_
                                  refine q_iconst C (v := nI 1) dX5_home_213 (by decide) ?_
                                  refine q_goto C (tgt := 218) dX5_home_214 (by decide) ?_
                                  refine q_istore C dX5_home_218 (by decide) rfl ?_
                                  refine q_iinc1 C dX5_home_220 rfl (by decide) rfl ?_
                                  refine q_goto C (tgt := 132) dX5_home_223 (by decide) ?_
                                  exact q_mask [true, true, true, true, true, true] (ih_k4 _ _ _ ⟨rfl, fun q h1 h2 => by simp only [va_up, if_neg h1]; exact hI4.1 q h1 h2, fun j hj => by simp only [va_up, if_neg (show (199 : Nat) ≠ 198 by decide)]; exact hI4.2.1 j hj, fun j hj => by
                                    simp only [va_up, if_true]
                                    by_cases e : j = k4
                                    · subst e; simp only [upd, if_true]; exact hI4.2.1 _ (by omega)
                                    · simp only [upd, if_neg e]; exact hI4.2.2.1 j (by omega), fun j h1 h2 => by
                                    simp only [va_up, if_true, upd, if_neg (show ¬ j = k4 by omega)]; exact hI4.2.2.2.1 j h1 h2, by
                                    have hf4 := hI4.2.2.2.2
                                    first
                                    | exact Or.inr ⟨rfl, fun h => (kb_flag0 hf4 c159) (fun p hp => h p (by omega))⟩
                                    | (refine Or.inl ⟨rfl, fun p hp => ?_⟩
                                       by_cases e : p = k4
                                       · subst e; first | (rw [if_neg (by simp [c163])]; exact c175) | (rw [if_pos (by simp [c163])]; exact c210)
                                       · exact kb_flag1 hf4 c159 p (by omega))
                                    | (refine Or.inr ⟨rfl, fun h => ?_⟩
                                       have h9 := h k4 (by omega)
                                       first | (rw [if_neg (by simp [c163])] at h9; exact c175 h9) | (rw [if_pos (by simp [c163])] at h9; exact c210 h9))⟩)
                        · intro f4 X4 Y4 hI_k4
                          obtain ⟨rfl, hI4⟩ := hI_k4
                          have eth : X4 189 b' = nI (kb_tn (X 189 b')) := (congrFun (hI4.1 189 (by decide) (by decide)) b').trans ((congrFun (hs.1 189 (by decide)) b').trans hth)
                          have ecol : ∀ q, X4 191 q = X 191 q := fun q => (congrFun (hI4.1 191 (by decide) (by decide)) q).trans ((congrFun (hs.1 191 (by decide)) q).trans (congrFun (kb_thr_ne (by decide)) q))
                          refine q_iload C dX5_home_132 rfl ?_
                          refine q_aload_n C dX5_home_134 rfl ?_
                          refine x_getR C (ci := 5) (k := 3) (C0 := RX5) (T := TX5) (NF := 15) (ref := RX5) (host := RX4) dX5_home_135 fr_Mthr rfl iX5_home_X5 (by decide) (List.mem_of_getElem? (i := 5) rfl) rfl ?_
                          refine q_iload_n C dX5_home_138 rfl ?_
                          refine x_ialdN C dX5_home_139 ia_Mthr (by decide) (by omega) ?_
                          refine q_top (show Value.int _ = Value.int _ from congrArg Value.int (eth)) ?_
                          refine q_icmpgeN C (tgt := 226) dX5_home_140 (by decide) (by omega) (by omega) (fun c140 => ?_) (fun c140 => ?_)
                          · refine q_goto C (tgt := 83) dX5_home_226 (by decide) ?_
                            exact q_mask [true, true, true, true, true, false] (ih2 (t + 1, _) _ _ (by show 7 - (t + 1) < 7 - t; omega) ⟨rfl, hI4.1, fun j hj => by
                              rcases Nat.lt_or_ge j (kb_tn (X 189 b')) with q | q
                              · exact hI4.2.2.1 j q
                              · rw [hI4.2.2.2.1 j q hj, kb_it_fix hn6 _ () j q, kb_it_fix hn6 _ () j q], ht6, hno1, by
                              rcases hI4.2.2.2.2 with ⟨h1, h2⟩ | ⟨h1, h2⟩
                              · exact Or.inr ⟨h1, by omega, h2⟩
                              · exact Or.inl ⟨h1, fun _ => h2⟩⟩)
                          · exact absurd c140 (by omega)
                      · exact absurd c98 (by omega)
                · exact absurd c62 (by omega)
            · refine q_iconst C (v := -1) dX5_home_44 (by decide) ?_
              exact q_iret C dX5_home_45 ⟨_, rfl, Or.inr (Or.inr ⟨⟨hc2, hc24⟩, trivial, _, rfl, kb_thr_at, kb_MS.thr X _, fun _ => rfl, fun h => absurd h (by rw [eb]; omega)⟩)⟩
          · exact absurd c27 (by decide)
        · refine q_ifne C (tgt := 32) dX5_home_27 (by decide) (fun c27 => ?_) (fun c27 => ?_)
          · exact absurd (show nI 0 = 0 by decide) c27
          · refine q_iconst C (v := nI 0) dX5_home_30 (by decide) ?_
            exact q_iret C dX5_home_31 ⟨_, rfl, Or.inl ⟨fun h => hc24 h.2, by rw [kb_thr_thr]⟩⟩
      refine q_iload_n C dX5_home_9 rfl ?_
      refine q_ifeq C (tgt := 18) dX5_home_10 (by decide) (fun c10 => ?_) (fun c10 => ?_)
      · refine q_iconst C (v := nI 1) dX5_home_18 (by decide) ?_
        refine q_goto C (tgt := 23) dX5_home_19 (by decide) ?_
        exact J23 _ (by first | exact Or.inl ⟨rfl, Or.inl c10⟩ | exact Or.inl ⟨rfl, Or.inr c15⟩ | exact Or.inr ⟨rfl, fun h => h.elim c10 c15⟩)
      · refine q_iload_n C dX5_home_13 rfl ?_
        refine q_iconst C (v := nI 1) dX5_home_14 (by decide) ?_
        refine q_icmpne C (tgt := 22) dX5_home_15 (by decide) (fun c15 => ?_) (fun c15 => ?_)
        · refine q_iconst C (v := nI 0) dX5_home_22 (by decide) ?_
          exact J23 _ (by first | exact Or.inl ⟨rfl, Or.inl c10⟩ | exact Or.inl ⟨rfl, Or.inr c15⟩ | exact Or.inr ⟨rfl, fun h => h.elim c10 c15⟩)
        · refine q_iconst C (v := nI 1) dX5_home_18 (by decide) ?_
          refine q_goto C (tgt := 23) dX5_home_19 (by decide) ?_
          exact J23 _ (by first | exact Or.inl ⟨rfl, Or.inl c10⟩ | exact Or.inl ⟨rfl, Or.inr c15⟩ | exact Or.inr ⟨rfl, fun h => h.elim c10 c15⟩)
  · refine q_ifeq C (tgt := 30) dX5_home_5 (by decide) (fun c5 => ?_) (fun c5 => ?_)
    · refine q_iconst C (v := nI 0) dX5_home_30 (by decide) ?_
      exact q_iret C dX5_home_31 ⟨_, rfl, Or.inl ⟨fun h => hc2 h.1, rfl⟩⟩
    · exact absurd (show nI 0 = 0 by decide) c5

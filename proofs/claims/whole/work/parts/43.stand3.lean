/-! ===== Standings: spreadInside, spread, firstShared ===== -/
def kb_cds (P : Nat → Int64) (ap i : Nat) : Nat → List Nat
  | 0 => []
  | d + 1 => kb_cds P ap i d ++ kb_cand P ap d i
theorem kb_cand_bit {W : Int64} {P : Nat → Int64} {ap d i : Nat} (hf : ap * (d + 1) < 64) (hi : i < 64) : kb_bit (((W &&& P d) <<< ((nI (ap * (d + 1))).toInt64 &&& 63)) ||| (((W.toUInt64 >>> ((nI (ap * (d + 1))).toInt64.toUInt64 &&& Int64.toUInt64 63)).toInt64) &&& P d)) i = (kb_cand P ap d i).any (kb_bit W) := by
  rw [kb_bit_or, kb_bit_shl _ hf hi, kb_bit_and, kb_bit_and, kb_bit_shr _ _ hf]
  unfold kb_cand
  rw [List.any_append, Nat.add_comm (ap * (d + 1)) i]
  congr 1
  · by_cases e : ap * (d + 1) ≤ i
    · cases q : kb_bit (P d) (i - ap * (d + 1)) <;> simp [e, q]
    · simp [e]
  · cases q : kb_bit (P d) i <;> simp [q]
/-- bit i of a word when an exchange inside the word is joined -/
def kb_ib (P : Nat → Int64) (ap : Nat) (x : Int64) (i : Nat) : Bool := kb_bit x i || (kb_cds P ap i 3).any (kb_bit x)
theorem iX3_spreadInside_X3 : ∀ w ∈ wsX30, w ∈ wsX3_spreadInside := fun _ h => List.mem_cons_of_mem _ (by first | exact h | exact List.mem_append_right _ h | exact List.mem_append_left _ (List.mem_append_right _ h) | exact List.mem_append_left _ (List.mem_append_left _ (List.mem_append_right _ h)) | exact List.mem_append_left _ (List.mem_append_left _ (List.mem_append_left _ (List.mem_append_right _ h))) | exact List.mem_append_left _ (List.mem_append_left _ (List.mem_append_left _ (List.mem_append_left _ (List.mem_append_right _ h)))) | exact List.mem_append_left _ (List.mem_append_left _ (List.mem_append_left _ (List.mem_append_left _ (List.mem_append_left _ (List.mem_append_right _ h))))))
set_option maxRecDepth 100000 in
set_option maxHeartbeats 4000000 in
/-- X3.spreadInside -/
theorem m_spreadInside (l : Launch) (E : kb_E) (X : Nat → Nat → Int32) (Y : Nat → Nat → Int64) (n mm j0 ap : Nat) (hS : kb_SN n) (hM : kb_SN mm) (hj : j0 < 2) (hap : ap ≤ 12) : kb_Met l E 202 yX3_spreadInside wsX3_spreadInside ({ frames := 0, cells := 0, slots := 0, locals := 0 }) [.ref (E.2.2.2 n), .ref (E.2.2.2 (mm + 1)), .ref (E.2.2.2 (300 + j0)), .int (nI ap)] (kb_ent E X Y) (fun v g' => v = none ∧ ∃ Y', g' = kb_ent E X Y' ∧ kb_sy (n + 1) Y Y' ∧ ∀ j, j < 64 → ∀ i, i < 64 → kb_bit (Y' (n + 1) j) i = kb_ib (kb_PL j0) ap (Y (mm + 1) j) i) := by
  refine kb_enter (cc := cX3_spreadInside) (maxL := 11) (ret := none) (by decide +kernel) rfl (by simp [Value.category]) (Nat.le_of_ble_eq_true rfl) ?_
  intro p e s m args below meth c C hini
  refine q_iconst C (v := nI 0) dX3_spreadInside_0 (by decide) ?_
  refine q_istore C dX3_spreadInside_1 (by decide) rfl ?_
  refine q_mask [true, true, true, true, true, false, false, false, false, false, false] (q_for (σ := Unit) (k0 := 0) (64) (fun k _ X' Y' => X = X' ∧ kb_sy (n + 1) Y Y' ∧ (∀ j, j < k → ∀ i, i < 64 → kb_bit (Y' (n + 1) j) i = kb_ib (kb_PL j0) ap (Y (mm + 1) j) i) ∧ ∀ j, k ≤ j → Y' (n + 1) j = Y (n + 1) j) (fun k _ => [some (.ref (E.2.2.2 (n))), some (.ref (E.2.2.2 (mm + 1))), some (.ref (E.2.2.2 (300 + j0))), some (.int (nI ap)), some (.int (nI k)), none, none, none, none, none, none]) (Nat.zero_le _) () (⟨rfl, fun _ _ => rfl, fun j hj => absurd hj (Nat.not_lt_zero _), fun _ _ => rfl⟩) ?_ ?_)
  · intro w0 a X1 Y1 hk_w0 hk0_w0 hI_w0 ih_w0
    obtain ⟨rfl, hI⟩ := hI_w0
    refine q_iload C dX3_spreadInside_3 rfl ?_
    refine q_bipush C (v := nI 64) dX3_spreadInside_5 (by decide) ?_
    refine q_icmpgeN C (tgt := 85) dX3_spreadInside_7 (by decide) (by omega) (by omega) (fun c7 => ?_) (fun c7 => ?_)
    · exact absurd c7 (by omega)
    · refine q_aload_n C dX3_spreadInside_10 rfl ?_
      refine q_iload C dX3_spreadInside_11 rfl ?_
      refine x_laldN C dX3_spreadInside_13 (la_Swords hM) (by decide) (by omega) ?_
      refine q_lstore C dX3_spreadInside_14 (by decide) rfl ?_
      refine q_lload C dX3_spreadInside_16 rfl ?_
      refine q_lstore C dX3_spreadInside_18 (by decide) rfl ?_
      refine q_iconst C (v := nI 0) dX3_spreadInside_20 (by decide) ?_
      refine q_istore C dX3_spreadInside_21 (by decide) rfl ?_
      refine q_mask [true, true, true, true, true, true, false, true, false, true, false] (q_for (σ := Int64) (k0 := 0) (3) (fun d (jn : Int64) X' Y' => X = X' ∧ Y1 = Y' ∧ ∀ i, i < 64 → kb_bit jn i = (kb_bit (Y1 (mm + 1) w0) i || (kb_cds (kb_PL j0) ap i d).any (kb_bit (Y1 (mm + 1) w0)))) (fun d (jn : Int64) => [some (.ref (E.2.2.2 (n))), some (.ref (E.2.2.2 (mm + 1))), some (.ref (E.2.2.2 (300 + j0))), some (.int (nI ap)), some (.int (nI w0)), some (.long (Y1 (mm + 1) w0)), none, some (.long jn), none, some (.int (nI d)), none]) (Nat.zero_le _) _ (⟨rfl, rfl, fun i hi => by simp [kb_cds]⟩) ?_ ?_)
      · intro d0 jn X2 Y2 hk_d0 hk0_d0 hI_d0 ih_d0
        obtain ⟨rfl, rfl, hJ⟩ := hI_d0
        refine q_iload C dX3_spreadInside_23 rfl ?_
        refine q_aload_n C dX3_spreadInside_25 rfl ?_
        refine q_tlen C hj dX3_spreadInside_26 ?_
        refine q_icmpgeN C (tgt := 70) dX3_spreadInside_27 (by decide) (by omega) (by omega) (fun c27 => ?_) (fun c27 => ?_)
        · exact absurd c27 (by omega)
        · refine q_iload_n C dX3_spreadInside_30 rfl ?_
          refine q_iload C dX3_spreadInside_31 rfl ?_
          refine q_iconst C (v := nI 1) dX3_spreadInside_33 (by decide) ?_
          refine q_iaddN C dX3_spreadInside_34 ?_
          refine q_imulN C dX3_spreadInside_35 ?_
          refine q_istore C dX3_spreadInside_36 (by decide) rfl ?_
          refine q_lload C dX3_spreadInside_38 rfl ?_
          refine q_lload C dX3_spreadInside_40 rfl ?_
          refine q_aload_n C dX3_spreadInside_42 rfl ?_
          refine q_iload C dX3_spreadInside_43 rfl ?_
          refine q_tl C hj dX3_spreadInside_45 (by omega) ?_
          refine q_land C dX3_spreadInside_46 ?_
          refine q_iload C dX3_spreadInside_47 rfl ?_
          refine q_lshl C dX3_spreadInside_49 ?_
          refine q_lload C dX3_spreadInside_50 rfl ?_
          refine q_iload C dX3_spreadInside_52 rfl ?_
          refine q_lushr C dX3_spreadInside_54 ?_
          refine q_aload_n C dX3_spreadInside_55 rfl ?_
          refine q_iload C dX3_spreadInside_56 rfl ?_
          refine q_tl C hj dX3_spreadInside_58 (by omega) ?_
          refine q_land C dX3_spreadInside_59 ?_
          refine q_lor C dX3_spreadInside_60 ?_
          refine q_lor C dX3_spreadInside_61 ?_
          refine q_lstore C dX3_spreadInside_62 (by decide) rfl ?_
          refine q_iinc1 C dX3_spreadInside_64 rfl (by decide) rfl ?_
          refine q_goto C (tgt := 23) dX3_spreadInside_67 (by decide) ?_
          exact q_mask [true, true, true, true, true, true, false, true, false, true, false] (ih_d0 _ _ _ ⟨rfl, rfl, fun i hi => by
            have hf : ap * (d0 + 1) < 64 := by
              have : ap * (d0 + 1) ≤ 12 * 3 := Nat.mul_le_mul hap (by omega)
              omega
            rw [kb_bit_or, hJ i hi, kb_cand_bit hf hi, kb_cds, List.any_append, Bool.or_assoc]⟩)
      · intro jn X2 Y2 hI_d0
        obtain ⟨rfl, rfl, hJ⟩ := hI_d0
        refine q_iload C dX3_spreadInside_23 rfl ?_
        refine q_aload_n C dX3_spreadInside_25 rfl ?_
        refine q_tlen C hj dX3_spreadInside_26 ?_
        refine q_icmpgeN C (tgt := 70) dX3_spreadInside_27 (by decide) (by omega) (by omega) (fun c27 => ?_) (fun c27 => ?_)
        · refine q_aload_n C dX3_spreadInside_70 rfl ?_
          refine x_getR C (ci := 3) (k := 0) (C0 := RX3) (T := TX3) (NF := 1) (ref := RX3) (host := RX4) dX3_spreadInside_71 (fr_Swords hS) rfl iX3_spreadInside_X3 (by decide) (List.mem_of_getElem? (i := 1) rfl) rfl ?_
          refine q_iload C dX3_spreadInside_74 rfl ?_
          refine q_lload C dX3_spreadInside_76 rfl ?_
          refine x_lastN C dX3_spreadInside_78 (la_Swords hS) (by decide) (by omega) ?_
          refine q_iinc1 C dX3_spreadInside_79 rfl (by decide) rfl ?_
          refine q_goto C (tgt := 3) dX3_spreadInside_82 (by decide) ?_
          exact q_mask [true, true, true, true, true, false, false, false, false, false, false] (ih_w0 () _ _ ⟨rfl, fun q hq => by rw [kb_up_ne hq]; exact hI.1 q hq, fun j hj i hi => by
            rw [kb_up_self]
            by_cases e : j = w0
            · subst e; rw [vp_updL, if_pos rfl, hJ i hi]
              by_cases e2 : mm = n
              · subst e2; rw [hI.2.2 j (Nat.le_refl _)]; rfl
              · rw [hI.1 (mm + 1) (by omega)]; rfl
            · rw [vp_updL, if_neg e]; exact hI.2.1 j (by omega) i hi, fun j hj => by
            rw [kb_up_self, vp_updL, if_neg (by omega)]; exact hI.2.2 j (by omega)⟩)
        · exact absurd c27 (by omega)
  · intro a X1 Y1 hI_w0
    obtain ⟨rfl, hI⟩ := hI_w0
    refine q_iload C dX3_spreadInside_3 rfl ?_
    refine q_bipush C (v := nI 64) dX3_spreadInside_5 (by decide) ?_
    refine q_icmpgeN C (tgt := 85) dX3_spreadInside_7 (by decide) (by omega) (by omega) (fun c7 => ?_) (fun c7 => ?_)
    · exact q_vret C dX3_spreadInside_85 ⟨rfl, _, rfl, hI.1, hI.2.1⟩
    · exact absurd c7 (by omega)
theorem kb_or_self {a : Bool} : a = (a || a) := by cases a <;> rfl
theorem kb_ib3 {f f' : Nat → Int64} (h : ∀ j, j < 64 → ∀ i, i < 64 → kb_bit (f' j) i = kb_ib (kb_PL 0) 12 (f j) i) {s : Nat} (hs : s < 4096) : kb_has f' s = (kb_has f s || kb_has f (kb_ss 6 s 3)) := by
  have hi : s % 64 < 64 := Nat.mod_lt _ (by decide)
  unfold kb_has
  rw [h _ (by omega) _ hi, (kb_ssI hs).1]
  have hl : kb_ss 6 (s % 64) 3 < 64 := by
    have : ∀ i, i < 64 → kb_ss 6 i 3 < 64 := by decide +kernel
    exact this _ hi
  rw [show (64 * (s / 64) + kb_ss 6 (s % 64) 3) / 64 = s / 64 by omega, show (64 * (s / 64) + kb_ss 6 (s % 64) 3) % 64 = kb_ss 6 (s % 64) 3 by omega]
  unfold kb_ib
  have e : kb_cds (kb_PL 0) 12 (s % 64) 3 = kb_cand kb_P3 12 0 (s % 64) ++ kb_cand kb_P3 12 1 (s % 64) ++ kb_cand kb_P3 12 2 (s % 64) := rfl
  rw [e, kb_cand3 _ hi]
  by_cases c : kb_ss 6 (s % 64) 3 = s % 64
  · rw [if_pos c, c]; simp
  · rw [if_neg c]; simp
theorem kb_ib4 {f f' : Nat → Int64} (h : ∀ j, j < 64 → ∀ i, i < 64 → kb_bit (f' j) i = kb_ib (kb_PL 1) 3 (f j) i) {s : Nat} (hs : s < 4096) : kb_has f' s = (kb_has f s || kb_has f (kb_ss 6 s 4)) := by
  have hi : s % 64 < 64 := Nat.mod_lt _ (by decide)
  unfold kb_has
  rw [h _ (by omega) _ hi, (kb_ssI hs).2]
  have hl : kb_ss 6 (s % 64) 4 < 64 := by
    have : ∀ i, i < 64 → kb_ss 6 i 4 < 64 := by decide +kernel
    exact this _ hi
  rw [show (64 * (s / 64) + kb_ss 6 (s % 64) 4) / 64 = s / 64 by omega, show (64 * (s / 64) + kb_ss 6 (s % 64) 4) % 64 = kb_ss 6 (s % 64) 4 by omega]
  unfold kb_ib
  have e : kb_cds (kb_PL 1) 3 (s % 64) 3 = kb_cand kb_P4 3 0 (s % 64) ++ kb_cand kb_P4 3 1 (s % 64) ++ kb_cand kb_P4 3 2 (s % 64) := rfl
  rw [e, kb_cand4 _ hi]
  by_cases c : kb_ss 6 (s % 64) 4 = s % 64
  · rw [if_pos c, c]; simp
  · rw [if_neg c]; simp
theorem kb_xb2 {f f' : Nat → Int64} (h : ∀ j, j < 64 → ∀ i, i < 64 → kb_bit (f' j) i = kb_xb f j i) {s : Nat} (hs : s < 4096) : kb_has f' s = (kb_has f s || kb_has f (kb_ss 6 s 2)) := by
  have hi : s % 64 < 64 := Nat.mod_lt _ (by decide)
  unfold kb_has
  rw [h _ (by omega) _ hi, kb_ssA hs]
  rw [show (64 * (s / 64 - s / 64 % 4 + s % 64 / 16) + (16 * (s / 64 % 4) + s % 64 % 16)) / 64 = s / 64 - s / 64 % 4 + s % 64 / 16 by omega, show (64 * (s / 64 - s / 64 % 4 + s % 64 / 16) + (16 * (s / 64 % 4) + s % 64 % 16)) % 64 = 16 * (s / 64 % 4) + s % 64 % 16 by omega]
  rfl
theorem kb_bb {f f' : Nat → Int64} {p : Nat} (hp : p < 2) (h : ∀ j, j < 64 → f' j = (f j ||| f (kb_ss 3 j p))) {s : Nat} (hs : s < 4096) : kb_has f' s = (kb_has f s || kb_has f (kb_ss 6 s p)) := by
  have hi : s % 64 < 64 := Nat.mod_lt _ (by decide)
  have hl := kb_ss3_lt (show s / 64 < 64 by omega) hp
  unfold kb_has
  rw [h _ (by omega), kb_bit_or, kb_ssB hs hp, show (64 * kb_ss 3 (s / 64) p + s % 64) / 64 = kb_ss 3 (s / 64) p by omega, show (64 * kb_ss 3 (s / 64) p + s % 64) % 64 = s % 64 by omega]
theorem iX3_spread_X3 : ∀ w ∈ wsX30, w ∈ wsX3_spread := fun _ h => List.mem_cons_of_mem _ (by first | exact h | exact List.mem_append_right _ h | exact List.mem_append_left _ (List.mem_append_right _ h) | exact List.mem_append_left _ (List.mem_append_left _ (List.mem_append_right _ h)) | exact List.mem_append_left _ (List.mem_append_left _ (List.mem_append_left _ (List.mem_append_right _ h))) | exact List.mem_append_left _ (List.mem_append_left _ (List.mem_append_left _ (List.mem_append_left _ (List.mem_append_right _ h)))) | exact List.mem_append_left _ (List.mem_append_left _ (List.mem_append_left _ (List.mem_append_left _ (List.mem_append_left _ (List.mem_append_right _ h))))))
set_option maxRecDepth 100000 in
set_option maxHeartbeats 4000000 in
/-- X3.spread -/
theorem m_spread (l : Launch) (E : kb_E) (X : Nat → Nat → Int32) (Y : Nat → Nat → Int64) (n mm p0 : Nat) (hS : kb_SN n) (hM : kb_SN mm) (hp : p0 < 5) : kb_Met l E 202 yX3_spread wsX3_spread ({ frames := 2, cells := 0, slots := 0, locals := 45 }) [.ref (E.2.2.2 n), .ref (E.2.2.2 mm), .int (nI p0)] (kb_ent E X Y) (fun v g' => v = none ∧ ∃ Y', g' = kb_ent E X Y' ∧ kb_sy (n + 1) Y Y' ∧ ∀ s, s < 4096 → kb_has (Y' (n + 1)) s = (kb_has (Y (mm + 1)) s || kb_has (Y (mm + 1)) (kb_ss 6 s p0))) := by
  refine kb_enter (cc := cX3_spread) (maxL := 3) (ret := none) (by decide +kernel) rfl (by simp [Value.category]) (Nat.le_of_ble_eq_true rfl) ?_
  intro p e s m args below meth c C hini
  rcases (show p0 = 2 ∨ p0 = 3 ∨ p0 = 4 ∨ p0 < 2 by omega) with rfl | rfl | rfl | hp2
  · refine q_iload_n C dX3_spread_0 rfl ?_
    refine q_tableIn C (off := 27) (tgt := 28) dX3_spread_1 (by decide) (by decide) (by decide) (by decide) ?_
    refine q_aload_n C dX3_spread_28 rfl ?_
    refine q_aload_n C dX3_spread_29 rfl ?_
    refine x_getR C (ci := 3) (k := 0) (C0 := RX3) (T := TX3) (NF := 1) (ref := RX3) (host := RX4) dX3_spread_30 (fr_Swords hM) rfl iX3_spread_X3 (by decide) (List.mem_of_getElem? (i := 1) rfl) rfl ?_
    refine x_callV (As := [_]) (nA := 1) (T := TX3) (NF := 1) C dX3_spread_33 (ob_S hS) rfl (m_spreadAcross _ _ _ _ n mm hS hM) gX3_spread_X3_spreadAcross rfl (by decide +kernel) rfl ⟨Nat.le_of_ble_eq_true rfl, Nat.le_of_ble_eq_true rfl⟩ (Nat.le_of_ble_eq_true rfl) ⟨Nat.le_of_ble_eq_true rfl, Nat.le_of_ble_eq_true rfl⟩ (fun v33 g33 h33 => ?_)
    obtain ⟨rfl, Y9, rfl, h9⟩ := h33
    refine q_goto C (tgt := 83) dX3_spread_36 (by decide) ?_
    exact q_vret C dX3_spread_83 ⟨rfl, _, rfl, h9.1, fun s hs => kb_xb2 h9.2 hs⟩
  · refine q_iload_n C dX3_spread_0 rfl ?_
    refine q_tableIn C (off := 38) (tgt := 39) dX3_spread_1 (by decide) (by decide) (by decide) (by decide) ?_
    refine q_aload_n C dX3_spread_39 rfl ?_
    refine q_aload_n C dX3_spread_40 rfl ?_
    refine x_getR C (ci := 3) (k := 0) (C0 := RX3) (T := TX3) (NF := 1) (ref := RX3) (host := RX4) dX3_spread_41 (fr_Swords hM) rfl iX3_spread_X3 (by decide) (List.mem_of_getElem? (i := 1) rfl) rfl ?_
    refine q_gets3 C dX3_spread_44 (List.mem_of_getElem? (i := 2) rfl) ?_
    refine q_bipush C (v := nI 12) dX3_spread_47 (by decide) ?_
    refine x_callV (As := [_, _, _]) (nA := 3) (T := TX3) (NF := 1) C dX3_spread_49 (ob_S hS) rfl (m_spreadInside _ _ _ _ n mm 0 12 hS hM (by decide) (by decide)) gX3_spread_X3_spreadInside rfl (by decide +kernel) rfl ⟨Nat.le_of_ble_eq_true rfl, Nat.le_of_ble_eq_true rfl⟩ (Nat.le_of_ble_eq_true rfl) ⟨Nat.le_of_ble_eq_true rfl, Nat.le_of_ble_eq_true rfl⟩ (fun v49 g49 h49 => ?_)
    obtain ⟨rfl, Y9, rfl, h9⟩ := h49
    refine q_goto C (tgt := 83) dX3_spread_52 (by decide) ?_
    exact q_vret C dX3_spread_83 ⟨rfl, _, rfl, h9.1, fun s hs => kb_ib3 h9.2 hs⟩
  · refine q_iload_n C dX3_spread_0 rfl ?_
    refine q_tableIn C (off := 54) (tgt := 55) dX3_spread_1 (by decide) (by decide) (by decide) (by decide) ?_
    refine q_aload_n C dX3_spread_55 rfl ?_
    refine q_aload_n C dX3_spread_56 rfl ?_
    refine x_getR C (ci := 3) (k := 0) (C0 := RX3) (T := TX3) (NF := 1) (ref := RX3) (host := RX4) dX3_spread_57 (fr_Swords hM) rfl iX3_spread_X3 (by decide) (List.mem_of_getElem? (i := 1) rfl) rfl ?_
    refine q_gets4 C dX3_spread_60 (List.mem_of_getElem? (i := 3) rfl) ?_
    refine q_iconst C (v := nI 3) dX3_spread_63 (by decide) ?_
    refine x_callV (As := [_, _, _]) (nA := 3) (T := TX3) (NF := 1) C dX3_spread_64 (ob_S hS) rfl (m_spreadInside _ _ _ _ n mm 1 3 hS hM (by decide) (by decide)) gX3_spread_X3_spreadInside rfl (by decide +kernel) rfl ⟨Nat.le_of_ble_eq_true rfl, Nat.le_of_ble_eq_true rfl⟩ (Nat.le_of_ble_eq_true rfl) ⟨Nat.le_of_ble_eq_true rfl, Nat.le_of_ble_eq_true rfl⟩ (fun v64 g64 h64 => ?_)
    obtain ⟨rfl, Y9, rfl, h9⟩ := h64
    refine q_goto C (tgt := 83) dX3_spread_67 (by decide) ?_
    exact q_vret C dX3_spread_83 ⟨rfl, _, rfl, h9.1, fun s hs => kb_ib4 h9.2 hs⟩
  · refine q_iload_n C dX3_spread_0 rfl ?_
    refine q_tableOut C (tgt := 70) dX3_spread_1 (Or.inl (by rw [nI_toInt (by omega)]; omega)) (by decide) ?_
    refine q_aload_n C dX3_spread_70 rfl ?_
    refine q_aload_n C dX3_spread_71 rfl ?_
    refine x_getR C (ci := 3) (k := 0) (C0 := RX3) (T := TX3) (NF := 1) (ref := RX3) (host := RX4) dX3_spread_72 (fr_Swords hM) rfl iX3_spread_X3 (by decide) (List.mem_of_getElem? (i := 1) rfl) rfl ?_
    refine q_iconst C (v := nI 2) dX3_spread_75 (by decide) ?_
    refine q_iconst C (v := nI 1) dX3_spread_76 (by decide) ?_
    refine q_iload_n C dX3_spread_77 rfl ?_
    refine q_isubN C dX3_spread_78 (by omega) ?_
    refine q_imulN C dX3_spread_79 ?_
    refine x_callV (As := [_, _]) (nA := 2) (T := TX3) (NF := 1) C dX3_spread_80 (ob_S hS) rfl (m_spreadBetween _ _ _ _ n mm p0 hS hM (by omega)) gX3_spread_X3_spreadBetween rfl (by decide +kernel) rfl ⟨Nat.le_of_ble_eq_true rfl, Nat.le_of_ble_eq_true rfl⟩ (Nat.le_of_ble_eq_true rfl) ⟨Nat.le_of_ble_eq_true rfl, Nat.le_of_ble_eq_true rfl⟩ (fun v80 g80 h80 => ?_)
    obtain ⟨rfl, Y9, rfl, h9⟩ := h80
    exact q_vret C dX3_spread_83 ⟨rfl, _, rfl, h9.1, fun s hs => kb_bb hp2 h9.2 hs⟩
def kb_both (f g : Nat → Int64) (s : Nat) : Prop := kb_has f s = true ∧ kb_has g s = true
theorem iX3_firstShared_X3 : ∀ w ∈ wsX30, w ∈ wsX3_firstShared := fun _ h => List.mem_cons_of_mem _ (by first | exact h | exact List.mem_append_right _ h | exact List.mem_append_left _ (List.mem_append_right _ h) | exact List.mem_append_left _ (List.mem_append_left _ (List.mem_append_right _ h)) | exact List.mem_append_left _ (List.mem_append_left _ (List.mem_append_left _ (List.mem_append_right _ h))) | exact List.mem_append_left _ (List.mem_append_left _ (List.mem_append_left _ (List.mem_append_left _ (List.mem_append_right _ h)))) | exact List.mem_append_left _ (List.mem_append_left _ (List.mem_append_left _ (List.mem_append_left _ (List.mem_append_left _ (List.mem_append_right _ h))))))
set_option maxRecDepth 100000 in
set_option maxHeartbeats 4000000 in
/-- X3.firstShared -/
theorem m_firstShared (l : Launch) (E : kb_E) (X : Nat → Nat → Int32) (Y : Nat → Nat → Int64) (n mm : Nat) (hS : kb_SN n) (hM : kb_SN mm) : kb_Met l E 202 yX3_firstShared wsX3_firstShared ({ frames := 0, cells := 0, slots := 0, locals := 0 }) [.ref (E.2.2.2 n), .ref (E.2.2.2 mm)] (kb_ent E X Y) (fun v g' => ∃ r, v = some (.int r) ∧ kb_fst (kb_both (Y (n + 1)) (Y (mm + 1))) 4096 r ∧ g' = kb_ent E X Y) := by
  refine kb_enter (cc := cX3_firstShared) (maxL := 6) (ret := (some .int)) (by decide +kernel) rfl (by simp [Value.category]) (Nat.le_of_ble_eq_true rfl) ?_
  intro p e s m args below meth c C hini
  refine q_iconst C (v := nI 0) dX3_firstShared_0 (by decide) ?_
  refine q_istore_n C dX3_firstShared_1 (by decide) rfl ?_
  refine q_mask [true, true, true, false, false, false] (q_for (σ := Unit) (k0 := 0) (64) (fun k _ X' Y' => X = X' ∧ Y = Y' ∧ ∀ s, s < 64 * k → ¬ kb_both (Y (n + 1)) (Y (mm + 1)) s) (fun k _ => [some (.ref (E.2.2.2 (n))), some (.ref (E.2.2.2 (mm))), some (.int (nI k)), none, none, none]) (Nat.zero_le _) () (⟨rfl, rfl, fun s hs => absurd hs (by omega)⟩) ?_ ?_)
  · intro w0 a X1 Y1 hk_w0 hk0_w0 hI_w0 ih_w0
    obtain ⟨rfl, rfl, hz⟩ := hI_w0
    refine q_iload_n C dX3_firstShared_2 rfl ?_
    refine q_bipush C (v := nI 64) dX3_firstShared_3 (by decide) ?_
    refine q_icmpgeN C (tgt := 69) dX3_firstShared_5 (by decide) (by omega) (by omega) (fun c5 => ?_) (fun c5 => ?_)
    · exact absurd c5 (by omega)
    · refine q_aload_n C dX3_firstShared_8 rfl ?_
      refine x_getR C (ci := 3) (k := 0) (C0 := RX3) (T := TX3) (NF := 1) (ref := RX3) (host := RX4) dX3_firstShared_9 (fr_Swords hS) rfl iX3_firstShared_X3 (by decide) (List.mem_of_getElem? (i := 1) rfl) rfl ?_
      refine q_iload_n C dX3_firstShared_12 rfl ?_
      refine x_laldN C dX3_firstShared_13 (la_Swords hS) (by decide) (by omega) ?_
      refine q_aload_n C dX3_firstShared_14 rfl ?_
      refine x_getR C (ci := 3) (k := 0) (C0 := RX3) (T := TX3) (NF := 1) (ref := RX3) (host := RX4) dX3_firstShared_15 (fr_Swords hM) rfl iX3_firstShared_X3 (by decide) (List.mem_of_getElem? (i := 1) rfl) rfl ?_
      refine q_iload_n C dX3_firstShared_18 rfl ?_
      refine x_laldN C dX3_firstShared_19 (la_Swords hM) (by decide) (by omega) ?_
      refine q_land C dX3_firstShared_20 ?_
      refine q_lstore_n C dX3_firstShared_21 (by decide) rfl ?_
      refine q_iconst C (v := nI 0) dX3_firstShared_22 (by decide) ?_
      refine q_istore C dX3_firstShared_23 (by decide) rfl ?_
      refine q_mask [true, true, true, true, false, true] (q_for (σ := Unit) (k0 := 0) (64) (fun k _ X' Y' => X = X' ∧ Y = Y' ∧ ∀ i, i < k → kb_bit (Y (n + 1) w0 &&& Y (mm + 1) w0) i = false) (fun k _ => [some (.ref (E.2.2.2 (n))), some (.ref (E.2.2.2 (mm))), some (.int (nI w0)), some (.long (Y (n + 1) w0 &&& Y (mm + 1) w0)), none, some (.int (nI k))]) (Nat.zero_le _) () (⟨rfl, rfl, fun i hi => absurd hi (Nat.not_lt_zero _)⟩) ?_ ?_)
      · intro i0 a1 X2 Y2 hk_i0 hk0_i0 hI_i0 ih_i0
        obtain ⟨rfl, rfl, hno⟩ := hI_i0
        refine q_lload_n C dX3_firstShared_25 rfl ?_
        refine q_lconst C (v := 0) dX3_firstShared_26 rfl ?_
        refine q_lcmp C dX3_firstShared_27 ?_
        refine q_ifeq C (tgt := 63) dX3_firstShared_28 (by decide) (fun c28 => ?_) (fun c28 => ?_)
        · refine q_iinc1 C dX3_firstShared_63 rfl (by decide) rfl ?_
          refine q_goto C (tgt := 2) dX3_firstShared_66 (by decide) ?_
          exact q_mask [true, true, true, false, false, false] (ih_w0 () _ _ ⟨rfl, rfl, fun s hs => by
            rcases Nat.lt_or_ge s (64 * w0) with q | q
            · exact hz s q
            · intro hb
              have e1 : s / 64 = w0 := by omega
              have hbit : kb_bit (Y (n + 1) w0 &&& Y (mm + 1) w0) (s % 64) = true := by
                rw [kb_bit_and]
                have h1 := hb.1
                have h2 := hb.2
                unfold kb_has at h1 h2
                rw [e1] at h1 h2
                rw [h1, h2]; rfl
              rw [(lg_cmp_eq _ _).mp c28, kb_bit_0] at hbit; cases hbit⟩)
        · refine q_iload C dX3_firstShared_31 rfl ?_
          refine q_bipush C (v := nI 64) dX3_firstShared_33 (by decide) ?_
          refine q_icmpgeN C (tgt := 63) dX3_firstShared_35 (by decide) (by omega) (by omega) (fun c35 => ?_) (fun c35 => ?_)
          · exact absurd c35 (by omega)
          · refine q_lload_n C dX3_firstShared_38 rfl ?_
            refine q_iload C dX3_firstShared_39 rfl ?_
            refine q_lushr C dX3_firstShared_41 ?_
            refine q_lconst C (v := 1) dX3_firstShared_42 rfl ?_
            refine q_land C dX3_firstShared_43 ?_
            refine q_lconst C (v := 0) dX3_firstShared_44 rfl ?_
            refine q_lcmp C dX3_firstShared_45 ?_
            refine q_ifeq C (tgt := 57) dX3_firstShared_46 (by decide) (fun c46 => ?_) (fun c46 => ?_)
            · refine q_iinc1 C dX3_firstShared_57 rfl (by decide) rfl ?_
              refine q_goto C (tgt := 25) dX3_firstShared_60 (by decide) ?_
              exact q_mask [true, true, true, true, false, true] (ih_i0 () _ _ ⟨rfl, rfl, fun i hi => by
                by_cases e : i = i0
                · subst e; exact (kb_tst (by omega)).mp ((lg_cmp_eq _ _).mp c46)
                · exact hno i (by omega)⟩)
            · refine q_bipush C (v := nI 64) dX3_firstShared_49 (by decide) ?_
              refine q_iload_n C dX3_firstShared_51 rfl ?_
              refine q_imulN C dX3_firstShared_52 ?_
              refine q_iload C dX3_firstShared_53 rfl ?_
              refine q_iaddN C dX3_firstShared_55 ?_
              exact q_iret C dX3_firstShared_56 ⟨_, rfl, Or.inl ⟨64 * w0 + i0, by omega, by
        have hb : kb_bit (Y (n + 1) w0 &&& Y (mm + 1) w0) i0 = true := by
          cases q : kb_bit (Y (n + 1) w0 &&& Y (mm + 1) w0) i0 with
          | true => rfl
          | false => exact absurd ((lg_cmp_eq _ _).mpr ((kb_tst (by omega)).mpr q)) c46
        rw [kb_bit_and, Bool.and_eq_true] at hb
        unfold kb_both kb_has
        rw [show (64 * w0 + i0) / 64 = w0 by omega, show (64 * w0 + i0) % 64 = i0 by omega]
        exact hb, fun t ht hb => by
        rcases Nat.lt_or_ge t (64 * w0) with q | q
        · exact hz t q hb
        · have e1 : t / 64 = w0 := by omega
          have h1 := hb.1
          have h2 := hb.2
          unfold kb_has at h1 h2
          rw [e1] at h1 h2
          have := hno (t % 64) (by omega)
          rw [kb_bit_and, h1, h2] at this
          exact absurd this (by decide), rfl⟩, rfl⟩
      · intro a1 X2 Y2 hI_i0
        obtain ⟨rfl, rfl, hno⟩ := hI_i0
        refine q_lload_n C dX3_firstShared_25 rfl ?_
        refine q_lconst C (v := 0) dX3_firstShared_26 rfl ?_
        refine q_lcmp C dX3_firstShared_27 ?_
        refine q_ifeq C (tgt := 63) dX3_firstShared_28 (by decide) (fun c28 => ?_) (fun c28 => ?_)
        · refine q_iinc1 C dX3_firstShared_63 rfl (by decide) rfl ?_
          refine q_goto C (tgt := 2) dX3_firstShared_66 (by decide) ?_
          exact q_mask [true, true, true, false, false, false] (ih_w0 () _ _ ⟨rfl, rfl, fun s hs => by
            rcases Nat.lt_or_ge s (64 * w0) with q | q
            · exact hz s q
            · intro hb
              have e1 : s / 64 = w0 := by omega
              have hbit : kb_bit (Y (n + 1) w0 &&& Y (mm + 1) w0) (s % 64) = true := by
                rw [kb_bit_and]
                have h1 := hb.1
                have h2 := hb.2
                unfold kb_has at h1 h2
                rw [e1] at h1 h2
                rw [h1, h2]; rfl
              rw [(lg_cmp_eq _ _).mp c28, kb_bit_0] at hbit; cases hbit⟩)
        · refine q_iload C dX3_firstShared_31 rfl ?_
          refine q_bipush C (v := nI 64) dX3_firstShared_33 (by decide) ?_
          refine q_icmpgeN C (tgt := 63) dX3_firstShared_35 (by decide) (by omega) (by omega) (fun c35 => ?_) (fun c35 => ?_)
          · refine q_iinc1 C dX3_firstShared_63 rfl (by decide) rfl ?_
            refine q_goto C (tgt := 2) dX3_firstShared_66 (by decide) ?_
            exact q_mask [true, true, true, false, false, false] (ih_w0 () _ _ ⟨rfl, rfl, fun s hs => by
              rcases Nat.lt_or_ge s (64 * w0) with q | q
              · exact hz s q
              · intro hb
                have e1 : s / 64 = w0 := by omega
                have hbit : kb_bit (Y (n + 1) w0 &&& Y (mm + 1) w0) (s % 64) = true := by
                  rw [kb_bit_and]
                  have h1 := hb.1
                  have h2 := hb.2
                  unfold kb_has at h1 h2
                  rw [e1] at h1 h2
                  rw [h1, h2]; rfl
                rw [hno _ (by omega)] at hbit; cases hbit⟩)
          · exact absurd c35 (by omega)
  · intro a X1 Y1 hI_w0
    obtain ⟨rfl, rfl, hz⟩ := hI_w0
    refine q_iload_n C dX3_firstShared_2 rfl ?_
    refine q_bipush C (v := nI 64) dX3_firstShared_3 (by decide) ?_
    refine q_icmpgeN C (tgt := 69) dX3_firstShared_5 (by decide) (by omega) (by omega) (fun c5 => ?_) (fun c5 => ?_)
    · refine q_iconst C (v := -1) dX3_firstShared_69 (by decide) ?_
      exact q_iret C dX3_firstShared_70 ⟨_, rfl, Or.inr ⟨hz, rfl⟩, rfl⟩
    · exact absurd c5 (by omega)

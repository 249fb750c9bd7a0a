/-! ===== Band.walk ===== -/
/-- all but what a walk of band i finds is as it was -/
def kb_sameB (i : Nat) (X X' : Nat → Nat → Int32) : Prop := ∀ q, q ≠ 92 + 7 * i + 3 → q ≠ 92 + 7 * i + 4 → q ≠ 92 + 7 * i + 5 → X' q = X q
/-- what a walk of R rows has found -/
def kb_walked (i n R : Nat) (X X' : Nat → Nat → Int32) : Prop := kb_sameB i X X' ∧ (∀ j, j < n → X' (92 + 7 * i + 3) j = nI (kb_at (kb_kd (X (92 + 7 * i + 2))) n R j)) ∧ (∀ t, t < n → X' (92 + 7 * i + 4) t = nI (kb_use (kb_kd (X (92 + 7 * i + 2))) n t R)) ∧ ∀ r, r < R → ∀ k, k < kb_kn n r → X' (92 + 7 * i + 5) (3 * r + k) = X (92 + 7 * i + 1) (kb_sh (kb_kd (X (92 + 7 * i + 2))) n r k)
/-- .. and k knots of row R -/
def kb_walkedR (i n R k : Nat) (X X' : Nat → Nat → Int32) : Prop := kb_sameB i X X' ∧ (∀ j, j < n → X' (92 + 7 * i + 3) j = nI (kb_rw (kb_kd (X (92 + 7 * i + 2))) R (kb_at (kb_kd (X (92 + 7 * i + 2))) n R) k j)) ∧ (∀ t, t < n → X' (92 + 7 * i + 4) t = nI (kb_use (kb_kd (X (92 + 7 * i + 2))) n t R + kb_useR (kb_kd (X (92 + 7 * i + 2))) n R t k)) ∧ ∀ r k', ((r < R ∧ k' < kb_kn n r) ∨ (r = R ∧ k' < k)) → X' (92 + 7 * i + 5) (3 * r + k') = X (92 + 7 * i + 1) (kb_sh (kb_kd (X (92 + 7 * i + 2))) n r k')
theorem kb_walkedR_step {i n R k : Nat} (hk : k < kb_kn n R) (hn : n ≤ 6) {X X1 X2 : Nat → Nat → Int32} (h : kb_walkedR i n R k X X1)
    (hs : kb_sameB i X1 X2) (h3 : ∀ j, j < n → X2 (92 + 7 * i + 3) j = nI ((if kb_kd (X (92 + 7 * i + 2)) R k < 2 then kb_sw (kb_rw (kb_kd (X (92 + 7 * i + 2))) R (kb_at (kb_kd (X (92 + 7 * i + 2))) n R) k) (kb_lf R k) else kb_rw (kb_kd (X (92 + 7 * i + 2))) R (kb_at (kb_kd (X (92 + 7 * i + 2))) n R) k) j))
    (h4 : X2 (92 + 7 * i + 4) = upd (upd (X1 (92 + 7 * i + 4)) (kb_sh (kb_kd (X (92 + 7 * i + 2))) n R k) (X1 (92 + 7 * i + 4) (kb_sh (kb_kd (X (92 + 7 * i + 2))) n R k) + nI 5)) (kb_hd (kb_kd (X (92 + 7 * i + 2))) n R k) (upd (X1 (92 + 7 * i + 4)) (kb_sh (kb_kd (X (92 + 7 * i + 2))) n R k) (X1 (92 + 7 * i + 4) (kb_sh (kb_kd (X (92 + 7 * i + 2))) n R k) + nI 5) (kb_hd (kb_kd (X (92 + 7 * i + 2))) n R k) + nI 1))
    (h5 : X2 (92 + 7 * i + 5) = upd (X1 (92 + 7 * i + 5)) (3 * R + k) (X (92 + 7 * i + 1) (kb_sh (kb_kd (X (92 + 7 * i + 2))) n R k))) : kb_walkedR i n R (k + 1) X X2 := by
  refine ⟨fun q a b c => (hs q a b c).trans (h.1 q a b c), fun j hj => ?_, fun t ht => ?_, fun r k' hrk => ?_⟩
  · rw [h3 j hj]
    show _ = nI ((kb_rw _ R _ (k + 1)) j)
    rw [kb_rw]
  · have ne := kb_sh_ne (kd := kb_kd (X (92 + 7 * i + 2))) hk
    rw [h4]
    show _ = nI (kb_use _ n t R + (kb_useR _ n R t k + kb_us _ n R k t))
    unfold kb_us
    by_cases a : t = kb_hd (kb_kd (X (92 + 7 * i + 2))) n R k
    · subst a
      rw [if_neg (Ne.symm ne), if_pos rfl]
      simp only [upd, if_true, if_neg (Ne.symm ne)]
      rw [h.2.2.1 _ ht, nI_add, Nat.add_assoc]
    · by_cases b : t = kb_sh (kb_kd (X (92 + 7 * i + 2))) n R k
      · subst b
        rw [if_pos rfl]
        simp only [upd, if_true, if_neg a]
        rw [h.2.2.1 _ ht, nI_add, Nat.add_assoc]
      · rw [if_neg b, if_neg a]
        simp only [upd, if_neg a, if_neg b]
        exact h.2.2.1 t ht
  · rw [h5]
    by_cases e1 : 3 * r + k' = 3 * R + k
    · have hkk : k' < 3 ∧ k < 3 := by
        have := kb_kn_le (r := R) hn
        have := kb_kn_le (r := r) hn
        rcases hrk with ⟨_, q⟩ | ⟨_, q⟩ <;> omega
      have : r = R ∧ k' = k := by omega
      obtain ⟨rfl, rfl⟩ := this
      simp [upd]
    · simp only [upd, if_neg e1]
      refine h.2.2.2 r k' ?_
      rcases hrk with q | ⟨rfl, q⟩
      · exact Or.inl q
      · exact Or.inr ⟨rfl, by omega⟩
theorem kb_walkedR_zero {i n R : Nat} {X X1 : Nat → Nat → Int32} (h : kb_walked i n R X X1) : kb_walkedR i n R 0 X X1 := ⟨h.1, h.2.1, fun t ht => h.2.2.1 t ht, fun r k' q => by
  rcases q with ⟨a, b⟩ | ⟨_, b⟩
  · exact h.2.2.2 r a k' b
  · exact absurd b (Nat.not_lt_zero _)⟩
theorem kb_walkedR_end {i n R : Nat} {X X1 : Nat → Nat → Int32} (h : kb_walkedR i n R (kb_kn n R) X X1) : kb_walked i n (R + 1) X X1 := ⟨h.1, h.2.1, h.2.2.1, fun r hr k hk => by
  rcases Nat.lt_or_ge r R with q | q
  · exact h.2.2.2 r k (Or.inl ⟨q, hk⟩)
  · have e1 : r = R := by omega
    subst e1
    exact h.2.2.2 r k (Or.inr ⟨rfl, hk⟩)⟩
theorem iX0_walk_X0 : ∀ w ∈ wsX00, w ∈ wsX0_walk := fun _ h => List.mem_cons_of_mem _ (by first | exact h | exact List.mem_append_right _ h | exact List.mem_append_left _ (List.mem_append_right _ h) | exact List.mem_append_left _ (List.mem_append_left _ (List.mem_append_right _ h)) | exact List.mem_append_left _ (List.mem_append_left _ (List.mem_append_left _ (List.mem_append_right _ h))) | exact List.mem_append_left _ (List.mem_append_left _ (List.mem_append_left _ (List.mem_append_left _ (List.mem_append_right _ h)))) | exact List.mem_append_left _ (List.mem_append_left _ (List.mem_append_left _ (List.mem_append_left _ (List.mem_append_left _ (List.mem_append_right _ h))))))
set_option maxRecDepth 100000 in
set_option maxHeartbeats 4000000 in
/-- X0.walk -/
theorem m_walk (l : Launch) (E : kb_E) (X : Nat → Nat → Int32) (Y : Nat → Nat → Int64) (i n R : Nat) (hi : i < 8) (hn : n ≤ 6) (hn2 : 2 ≤ n) (hR : R ≤ 16) (hth : X (92 + 7 * i) 2 = nI n) : kb_Met l E 202 yX0_walk wsX0_walk ({ frames := 2, cells := 0, slots := 0, locals := 49 }) [.ref (E.2.2.2 (92 + 7 * i)), .int (nI R)] (kb_ent E X Y) (fun v g' => v = none ∧ ∃ X', g' = kb_ent E X' Y ∧ kb_walked i n R X X') := by
  refine kb_enter (cc := cX0_walk) (maxL := 5) (ret := none) (by decide +kernel) rfl (by simp [Value.category]) (Nat.le_of_ble_eq_true rfl) ?_
  intro p e s m args below meth c C hini
  refine q_iconst C (v := nI 0) dX0_walk_0 (by decide) ?_
  refine q_istore_n C dX0_walk_1 (by decide) rfl ?_
  refine q_mask [true, true, true, true, true] (q_for (σ := Unit) (k0 := 0) (n) (fun k _ X' Y' => Y = Y' ∧ kb_sameB i X X' ∧ ∀ j, j < k → X' (92 + 7 * i + 3) j = nI j ∧ X' (92 + 7 * i + 4) j = nI 0) (fun k _ => [some (.ref (E.2.2.2 (92 + 7 * i))), some (.int (nI R)), some (.int (nI k)), none, none]) (Nat.zero_le _) () (⟨rfl, fun _ _ _ _ => rfl, fun j hj => absurd hj (Nat.not_lt_zero _)⟩) ?_ ?_)
  · intro k a X1 Y1 hk_k hk0_k hI_k ih_k
    obtain ⟨rfl, hI1⟩ := hI_k
    have hth1 : X1 (92 + 7 * i) 2 = nI n := by rw [hI1.1 _ (by omega) (by omega) (by omega)]; exact hth
    refine q_iload_n C dX0_walk_2 rfl ?_
    refine q_aload_n C dX0_walk_3 rfl ?_
    refine x_getI C (ci := 0) (k := 2) (C0 := RX0) (T := TX0) (NF := 8) (ref := RX0) (host := RX4) dX0_walk_4 (fi_Bthr hi) rfl iX0_walk_X0 (by decide) (List.mem_of_getElem? (i := 1) rfl) rfl ?_
    refine q_top (show Value.int _ = Value.int _ from congrArg Value.int (hth1)) ?_
    refine q_icmpgeN C (tgt := 30) dX0_walk_7 (by decide) (by omega) (by omega) (fun c7 => ?_) (fun c7 => ?_)
    · exact absurd c7 (by omega)
    · refine q_aload_n C dX0_walk_10 rfl ?_
      refine x_getR C (ci := 0) (k := 4) (C0 := RX0) (T := TX0) (NF := 8) (ref := RX0) (host := RX4) dX0_walk_11 (fr_Bsta hi) rfl iX0_walk_X0 (by decide) (List.mem_of_getElem? (i := 2) rfl) rfl ?_
      refine q_iload_n C dX0_walk_14 rfl ?_
      refine q_iload_n C dX0_walk_15 rfl ?_
      refine x_iastN C dX0_walk_16 (ia_Bsta hi) (by decide) (by omega) ?_
      refine q_aload_n C dX0_walk_17 rfl ?_
      refine x_getR C (ci := 0) (k := 5) (C0 := RX0) (T := TX0) (NF := 8) (ref := RX0) (host := RX4) dX0_walk_18 (fr_Bspe hi) rfl iX0_walk_X0 (by decide) (List.mem_of_getElem? (i := 3) rfl) rfl ?_
      refine q_iload_n C dX0_walk_21 rfl ?_
      refine q_iconst C (v := nI 0) dX0_walk_22 (by decide) ?_
      refine x_iastN C dX0_walk_23 (ia_Bspe hi) (by decide) (by omega) ?_
      refine q_iinc1 C dX0_walk_24 rfl (by decide) rfl ?_
      refine q_goto C (tgt := 2) dX0_walk_27 (by decide) ?_
      exact q_mask [true, true, true, true, true] (ih_k () _ _ ⟨rfl, fun q a b c => by simp only [va_up, a, b, c, if_false]; exact hI1.1 q a b c, fun j hj => by
        by_cases e : j = k
        · subst e; simp [va_up, upd]
        · have := hI1.2 j (by omega)
          simp [va_up, upd, e, this]⟩)
  · intro a X1 Y1 hI_k
    obtain ⟨rfl, hI1⟩ := hI_k
    have hth1 : X1 (92 + 7 * i) 2 = nI n := by rw [hI1.1 _ (by omega) (by omega) (by omega)]; exact hth
    refine q_iload_n C dX0_walk_2 rfl ?_
    refine q_aload_n C dX0_walk_3 rfl ?_
    refine x_getI C (ci := 0) (k := 2) (C0 := RX0) (T := TX0) (NF := 8) (ref := RX0) (host := RX4) dX0_walk_4 (fi_Bthr hi) rfl iX0_walk_X0 (by decide) (List.mem_of_getElem? (i := 1) rfl) rfl ?_
    refine q_top (show Value.int _ = Value.int _ from congrArg Value.int (hth1)) ?_
    refine q_icmpgeN C (tgt := 30) dX0_walk_7 (by decide) (by omega) (by omega) (fun c7 => ?_) (fun c7 => ?_)
    · refine q_iconst C (v := nI 0) dX0_walk_30 (by decide) ?_
      refine q_istore_n C dX0_walk_31 (by decide) rfl ?_
      refine q_mask [true, true, true, true, true] (q_for (σ := Unit) (k0 := 0) (R) (fun r _ X' Y' => Y = Y' ∧ kb_walked i n r X X') (fun k _ => [some (.ref (E.2.2.2 (92 + 7 * i))), some (.int (nI R)), some (.int (nI k)), none, none]) (Nat.zero_le _) () (⟨rfl, hI1.1, fun j hj => (hI1.2 j hj).1, fun t ht => (hI1.2 t ht).2, fun r hr => absurd hr (Nat.not_lt_zero _)⟩) ?_ ?_)
      · intro r a2 X2 Y2 hk_r hk0_r hI_r ih_r
        obtain ⟨rfl, hI2⟩ := hI_r
        have hth2 : X2 (92 + 7 * i) 2 = nI n := by rw [hI2.1 _ (by omega) (by omega) (by omega)]; exact hth
        have hkn3 : kb_kn n r ≤ 3 := kb_kn_le hn
        refine q_iload_n C dX0_walk_32 rfl ?_
        refine q_iload_n C dX0_walk_33 rfl ?_
        refine q_icmpgeN C (tgt := 74) dX0_walk_34 (by decide) (by omega) (by omega) (fun c34 => ?_) (fun c34 => ?_)
        · exact absurd c34 (by omega)
        · refine q_aload_n C dX0_walk_37 rfl ?_
          refine x_getI C (ci := 0) (k := 2) (C0 := RX0) (T := TX0) (NF := 8) (ref := RX0) (host := RX4) dX0_walk_38 (fi_Bthr hi) rfl iX0_walk_X0 (by decide) (List.mem_of_getElem? (i := 1) rfl) rfl ?_
          refine q_top (show Value.int _ = Value.int _ from congrArg Value.int (hth2)) ?_
          refine q_iload_n C dX0_walk_41 rfl ?_
          refine q_callSN (As := [_, _]) (nA := 2) (host := RX4) C dX0_walk_42 (m_knotsIn _ _ _ _ _) ggX0_walk_X4_knotsIn rfl (by decide +kernel) (List.mem_of_getElem? (i := 5) rfl) (List.mem_of_getElem? (i := 4) rfl) (by decide +kernel) rfl ⟨Nat.le_of_ble_eq_true rfl, Nat.le_of_ble_eq_true rfl⟩ (Nat.le_of_ble_eq_true rfl) ⟨Nat.le_of_ble_eq_true rfl, Nat.le_of_ble_eq_true rfl⟩ (fun v42 g42 h42 => ?_)
          obtain ⟨rfl, rfl⟩ := h42
          refine q_top (show Value.int _ = Value.int _ from congrArg Value.int (nv_knotsIn n (by omega) r (by omega) (by omega))) ?_
          refine q_istore_n C dX0_walk_45 (by decide) rfl ?_
          refine q_iconst C (v := nI 0) dX0_walk_46 (by decide) ?_
          refine q_istore C dX0_walk_47 (by decide) rfl ?_
          refine q_mask [true, true, true, true, true] (q_for (σ := Unit) (k0 := 0) (kb_kn n r) (fun k _ X' Y' => Y = Y' ∧ kb_walkedR i n r k X X') (fun k _ => [some (.ref (E.2.2.2 (92 + 7 * i))), some (.int (nI R)), some (.int (nI r)), some (.int (nI (kb_kn n r))), some (.int (nI k))]) (Nat.zero_le _) () (⟨rfl, kb_walkedR_zero hI2⟩) ?_ ?_)
          · intro k2 a3 X3 Y3 hk_k2 hk0_k2 hI_k2 ih_k2
            obtain ⟨rfl, hI3⟩ := hI_k2
            refine q_iload C dX0_walk_49 rfl ?_
            refine q_iload_n C dX0_walk_51 rfl ?_
            refine q_icmpgeN C (tgt := 68) dX0_walk_52 (by decide) (by omega) (by omega) (fun c52 => ?_) (fun c52 => ?_)
            · exact absurd c52 (by omega)
            · refine q_aload_n C dX0_walk_55 rfl ?_
              refine q_iload_n C dX0_walk_56 rfl ?_
              refine q_iload C dX0_walk_57 rfl ?_
              refine x_callV (As := [_, _]) (nA := 2) (T := TX0) (NF := 8) C dX0_walk_59 (ob_B hi) rfl (m_walkKnot _ _ _ _ i n r k2 hi hn (by omega) hk_k2 (kb_rw (kb_kd (X (92 + 7 * i + 2))) r (kb_at (kb_kd (X (92 + 7 * i + 2))) n r) k2) (kb_perm_rw (kb_perm_at r) _ (by omega)) hI3.2.1) gX0_walk_X0_walkKnot rfl (by decide +kernel) rfl ⟨Nat.le_of_ble_eq_true rfl, Nat.le_of_ble_eq_true rfl⟩ (Nat.le_of_ble_eq_true rfl) ⟨Nat.le_of_ble_eq_true rfl, Nat.le_of_ble_eq_true rfl⟩ (fun v59 g59 h59 => ?_)
              obtain ⟨rfl, X4, rfl, hs4, h43, h44, h45⟩ := h59
              refine q_iinc1 C dX0_walk_62 rfl (by decide) rfl ?_
              refine q_goto C (tgt := 49) dX0_walk_65 (by decide) ?_
              exact q_mask [true, true, true, true, true] (ih_k2 () _ _ ⟨rfl, by
                have e2 : X3 (92 + 7 * i + 2) = X (92 + 7 * i + 2) := hI3.1 _ (by omega) (by omega) (by omega)
                have e1 : X3 (92 + 7 * i + 1) = X (92 + 7 * i + 1) := hI3.1 _ (by omega) (by omega) (by omega)
                have hlf := kb_lf_lt hk_k2
                rw [e2] at h43 h44 h45
                rw [e1] at h45
                rw [kb_rw_ge _ _ (by omega)] at h44 h45
                rw [kb_rw_ge _ _ (by omega)] at h44
                exact kb_walkedR_step hk_k2 hn hI3 hs4 h43 h44 h45⟩)
          · intro a3 X3 Y3 hI_k2
            obtain ⟨rfl, hI3⟩ := hI_k2
            refine q_iload C dX0_walk_49 rfl ?_
            refine q_iload_n C dX0_walk_51 rfl ?_
            refine q_icmpgeN C (tgt := 68) dX0_walk_52 (by decide) (by omega) (by omega) (fun c52 => ?_) (fun c52 => ?_)
            · refine q_iinc1 C dX0_walk_68 rfl (by decide) rfl ?_
              refine q_goto C (tgt := 32) dX0_walk_71 (by decide) ?_
              exact q_mask [true, true, true, false, false] (ih_r () _ _ ⟨rfl, kb_walkedR_end hI3⟩)
            · exact absurd c52 (by omega)
      · intro a2 X2 Y2 hI_r
        obtain ⟨rfl, hI2⟩ := hI_r
        refine q_iload_n C dX0_walk_32 rfl ?_
        refine q_iload_n C dX0_walk_33 rfl ?_
        refine q_icmpgeN C (tgt := 74) dX0_walk_34 (by decide) (by omega) (by omega) (fun c34 => ?_) (fun c34 => ?_)
        · exact q_vret C dX0_walk_74 ⟨rfl, _, rfl, hI2⟩
        · exact absurd c34 (by omega)
    · exact absurd c7 (by omega)

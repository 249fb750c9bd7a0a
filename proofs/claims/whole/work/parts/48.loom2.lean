/-! ===== Loom: chooseKinds, findSuspects, workOut ===== -/
theorem kb_kindIn_bit (a : Int32) {j i : Nat} (hj : j < 3) (hi : i < 32) : (kb_kindIn a (nI j)).toBitVec.getLsbD i = (decide (i < 2) && a.toBitVec.getLsbD (2 * j + i)) := by
  have h3 : ∀ i, i < 32 → (nI 3).toBitVec.getLsbD i = decide (i < 2) := by decide +kernel
  have he : ∀ j, j < 3 → (((nI 2 * nI j) &&& 31).toBitVec.smod 32).toNat = 2 * j := by decide +kernel
  unfold kb_kindIn
  rw [Int32.toBitVec_and, BitVec.getLsbD_and, h3 i hi, Int32.toBitVec_shiftRight, BitVec.sshiftRight_eq', he j hj, BitVec.getLsbD_sshiftRight]
  by_cases h2 : i < 2
  · have h4 : 2 * j + i < 32 := by omega
    simp [h2, h4, Bool.and_comm, show ¬ 32 ≤ i by omega]
  · simp [h2]
theorem kb_withKind_bit (a : Int32) {k kk i : Nat} (hk : k < 3) (hkk : kk < 4) (hi : i < 32) : (kb_withKind a (nI k) (nI kk)).toBitVec.getLsbD i = if 2 * k ≤ i ∧ i < 2 * k + 2 then (nI kk).toBitVec.getLsbD (i - 2 * k) else a.toBitVec.getLsbD i := by
  have hm : ∀ k, k < 3 → ∀ i, i < 32 → (((nI 3 <<< ((nI 2 * nI k) &&& 31)) ^^^ (-1)).toBitVec.getLsbD i) = !decide (2 * k ≤ i ∧ i < 2 * k + 2) := by decide +kernel
  have hs : ∀ k, k < 3 → ∀ kk, kk < 4 → ∀ i, i < 32 → ((nI kk <<< ((nI 2 * nI k) &&& 31)).toBitVec.getLsbD i) = (decide (2 * k ≤ i ∧ i < 2 * k + 2) && (nI kk).toBitVec.getLsbD (i - 2 * k)) := by decide +kernel
  unfold kb_withKind
  rw [Int32.toBitVec_or, BitVec.getLsbD_or, Int32.toBitVec_and, BitVec.getLsbD_and, hm k hk i hi, hs k hk kk hkk i hi]
  by_cases c : 2 * k ≤ i ∧ i < 2 * k + 2
  · simp [c]
  · simp [c]
theorem kb_kindIn_with (a : Int32) {j k kk : Nat} (hj : j < 3) (hk : k < 3) (hkk : kk < 4) : kb_kindIn (kb_withKind a (nI k) (nI kk)) (nI j) = if j = k then nI kk else kb_kindIn a (nI j) := by
  have hz : ∀ kk, kk < 4 → ∀ i, i < 32 → (nI kk).toBitVec.getLsbD i = (decide (i < 2) && (nI kk).toBitVec.getLsbD i) := by decide +kernel
  apply Int32.toBitVec_inj.mp
  apply BitVec.eq_of_getLsbD_eq
  intro i hi
  rw [kb_kindIn_bit _ hj hi]
  by_cases h2 : i < 2
  · rw [kb_withKind_bit _ hk hkk (by omega)]
    by_cases e : j = k
    · subst e
      rw [if_pos rfl, if_pos (by omega), show 2 * j + i - 2 * j = i by omega]
      simp [h2]
    · rw [if_neg e, if_neg (by omega), kb_kindIn_bit _ hj hi]
  · by_cases e : j = k
    · subst e
      rw [if_pos rfl, hz kk hkk i hi]
      simp [h2]
    · rw [if_neg e, kb_kindIn_bit _ hj hi]
      simp [h2]
theorem nv_nmr : ∀ r, r < 16 → ∀ k, k < 3 → nI (8 * r + k) >>> (nI 3 &&& 31) = nI r := by decide +kernel
theorem nv_nmk : ∀ r, r < 16 → ∀ k, k < 3 → nI (8 * r + k) &&& nI 7 = nI k := by decide +kernel
/-- kind kk does at a knot, if behind it lies what B holds -/
def kb_gA (B : Nat → Prop) (p c s kk : Nat) : Prop := (c = 4 ∨ c = kb_dg 6 s (p + kk % 2)) ∧ B (kb_bh s p kk)
/-- the standing ahead of each knot when the least kinds are chosen, and the kinds -/
noncomputable def kb_sz (A : Nat → Nat → Prop) (lf wi : Nat → Nat) (s0 : Nat) : Nat → Nat
  | 0 => s0
  | z + 1 => kb_bh (kb_sz A lf wi s0 z) (lf z) (kb_l3 (kb_gA (A (z + 1)) (lf z) (wi z) (kb_sz A lf wi s0 z)))
noncomputable def kb_kz (A : Nat → Nat → Prop) (lf wi : Nat → Nat) (s0 z : Nat) : Nat := kb_l3 (kb_gA (A (z + 1)) (lf z) (wi z) (kb_sz A lf wi s0 z))
theorem kb_sz_lt {A : Nat → Nat → Prop} {lf wi : Nat → Nat} {s0 K : Nat} (hs : s0 < 4096) (hl : ∀ z, z < K → lf z < 5) : ∀ z, z ≤ K → kb_sz A lf wi s0 z < 4096
  | 0, _ => hs
  | z + 1, h => kb_bh_lt (kb_sz_lt hs hl z (by omega)) (hl z (by omega))
theorem iX1_chooseKinds_X1 : ∀ w ∈ wsX10, w ∈ wsX1_chooseKinds := fun _ h => List.mem_cons_of_mem _ (by first | exact h | exact List.mem_append_right _ h | exact List.mem_append_left _ (List.mem_append_right _ h) | exact List.mem_append_left _ (List.mem_append_left _ (List.mem_append_right _ h)) | exact List.mem_append_left _ (List.mem_append_left _ (List.mem_append_left _ (List.mem_append_right _ h))) | exact List.mem_append_left _ (List.mem_append_left _ (List.mem_append_left _ (List.mem_append_left _ (List.mem_append_right _ h)))) | exact List.mem_append_left _ (List.mem_append_left _ (List.mem_append_left _ (List.mem_append_left _ (List.mem_append_left _ (List.mem_append_right _ h))))))
theorem iX1_chooseKinds_X2 : ∀ w ∈ wsX20, w ∈ wsX1_chooseKinds := fun _ h => List.mem_cons_of_mem _ (by first | exact h | exact List.mem_append_right _ h | exact List.mem_append_left _ (List.mem_append_right _ h) | exact List.mem_append_left _ (List.mem_append_left _ (List.mem_append_right _ h)) | exact List.mem_append_left _ (List.mem_append_left _ (List.mem_append_left _ (List.mem_append_right _ h))) | exact List.mem_append_left _ (List.mem_append_left _ (List.mem_append_left _ (List.mem_append_left _ (List.mem_append_right _ h)))) | exact List.mem_append_left _ (List.mem_append_left _ (List.mem_append_left _ (List.mem_append_left _ (List.mem_append_left _ (List.mem_append_right _ h))))))
set_option maxRecDepth 100000 in
set_option maxHeartbeats 4000000 in
/-- X1.chooseKinds -/
theorem m_chooseKinds (l : Launch) (E : kb_E) (X : Nat → Nat → Int32) (Y : Nat → Nat → Int64) (q : Nat) (hq : q < 8) (K : Nat) (hK : K ≤ 40) (lf wi : Nat → Nat) (hkc : X 3 3 = nI K) (hlf : ∀ q, q < K → X 5 q = nI (lf q) ∧ lf q < 5) (hwi : ∀ q, q < K → X 6 q = nI (wi q) ∧ wi q ≤ 4) (rw0 kn0 : Nat → Nat) (hnm : ∀ z, z < K → X 4 z = nI (8 * rw0 z + kn0 z) ∧ rw0 z < 16 ∧ kn0 z < 3) (hinj : ∀ y z, y < K → z < K → rw0 y = rw0 z → kn0 y = kn0 z → y = z) (A : Nat → Nat → Prop) (hah : ∀ z, z ≤ K → kb_ist (Y (10 + 2 * z + 1)) (A z)) (s0 : Nat) (hs0 : s0 < 4096) (hfs : X (148 + 5 * q) 6 = nI s0) : kb_Met l E 202 yX1_chooseKinds wsX1_chooseKinds ({ frames := 3, cells := 0, slots := 0, locals := 70 }) [.ref (E.2.2.2 3), .ref (E.2.2.2 (148 + 5 * q))] (kb_ent E X Y) (fun v g' => v = none ∧ ∃ X', g' = kb_ent E X' Y ∧ (∀ c, c ≠ 148 + 5 * q + 3 → X' c = X c) ∧ ∀ y, y < K → kb_kindIn (X' (148 + 5 * q + 3) (rw0 y)) (nI (kn0 y)) = nI (kb_kz A lf wi s0 y)) := by
  refine kb_enter (cc := cX1_chooseKinds) (maxL := 6) (ret := none) (by decide +kernel) rfl (by simp [Value.category]) (Nat.le_of_ble_eq_true rfl) ?_
  intro p e s m args below meth c C hini
  refine q_aload_n C dX1_chooseKinds_0 rfl ?_
  refine x_getIN C (ci := 2) (k := 6) (C0 := RX2) (T := TX2) (NF := 10) (ref := RX2) (host := RX4) dX1_chooseKinds_1 (fi_Pfst hq) rfl iX1_chooseKinds_X2 (by decide) (by decide +kernel) rfl ?_
  refine q_top (show Value.int _ = Value.int _ from congrArg Value.int (hfs)) ?_
  refine q_istore_n C dX1_chooseKinds_4 (by decide) rfl ?_
  refine q_iconst C (v := nI 0) dX1_chooseKinds_5 (by decide) ?_
  refine q_istore_n C dX1_chooseKinds_6 (by decide) rfl ?_
  refine q_mask [true, true, true, true, false, false] (q_for (σ := Unit) (k0 := 0) (K) (fun z _ X' Y' => Y = Y' ∧ (∀ c, c ≠ 148 + 5 * q + 3 → X' c = X c) ∧ ∀ y, y < z → kb_kindIn (X' (148 + 5 * q + 3) (rw0 y)) (nI (kn0 y)) = nI (kb_kz A lf wi s0 y)) (fun z _ => [some (.ref (E.2.2.2 3)), some (.ref (E.2.2.2 (148 + 5 * q))), some (.int (nI (kb_sz A lf wi s0 z))), some (.int (nI z)), none, none]) (Nat.zero_le _) () (⟨rfl, fun _ _ => rfl, fun y hy => absurd hy (Nat.not_lt_zero _)⟩) ?_ ?_)
  · intro z a1 Xa Ya hk_z hk0_z hI_z ih_z
    obtain ⟨rfl, hI1⟩ := hI_z
    have hk1 : Xa 3 3 = nI K := by rw [hI1.1 _ (by omega)]; exact hkc
    have hz40 : z < 40 := by omega
    have hs1 : kb_sz A lf wi s0 z < 4096 := kb_sz_lt hs0 (fun y hy => (hlf y hy).2) z (by omega)
    have hl1 : Xa 5 z = nI (lf z) := by rw [hI1.1 _ (by omega)]; exact (hlf z hk_z).1
    have hlt := (hlf z hk_z).2
    have hw1 : Xa 6 z = nI (wi z) := by rw [hI1.1 _ (by omega)]; exact (hwi z hk_z).1
    have hn1 : Xa 4 z = nI (8 * rw0 z + kn0 z) := by rw [hI1.1 _ (by omega)]; exact (hnm z hk_z).1
    have hr16 := (hnm z hk_z).2.1
    have hk3 := (hnm z hk_z).2.2
    have hkz4 : kb_kz A lf wi s0 z < 4 := kb_l3_lt _
    have eG : kb_l3 (kb_gq (Y (10 + 2 * (z + 1) + 1)) (lf z) (wi z) (kb_sz A lf wi s0 z)) = kb_kz A lf wi s0 z := kb_l3_congr (fun j _ => by
      unfold kb_gq kb_gA
      rw [hah (z + 1) (by omega) _ (kb_bh_lt hs1 hlt)])
    refine q_iload_n C dX1_chooseKinds_7 rfl ?_
    refine q_aload_n C dX1_chooseKinds_8 rfl ?_
    refine x_getI C (ci := 1) (k := 3) (C0 := RX1) (T := TX1) (NF := 6) (ref := RX1) (host := RX4) dX1_chooseKinds_9 fi_Lkc rfl iX1_chooseKinds_X1 (by decide) (List.mem_of_getElem? (i := 1) rfl) rfl ?_
    refine q_top (show Value.int _ = Value.int _ from congrArg Value.int (hk1)) ?_
    refine q_icmpgeN C (tgt := 76) dX1_chooseKinds_12 (by decide) (by omega) (by omega) (fun c12 => ?_) (fun c12 => ?_)
    · exact absurd c12 (by omega)
    · refine q_aload_n C dX1_chooseKinds_15 rfl ?_
      refine q_iload_n C dX1_chooseKinds_16 rfl ?_
      refine q_iload_n C dX1_chooseKinds_17 rfl ?_
      refine x_callV (As := [_, _]) (nA := 2) (T := TX1) (NF := 6) C dX1_chooseKinds_18 ob_L rfl (m_leastKind _ _ Xa Y z (lf z) (kb_sz A lf wi s0 z) hz40 hl1 hlt hs1 (wi z) hw1 (hwi z hk_z).2) gX1_chooseKinds_X1_leastKind rfl (by decide +kernel) rfl ⟨Nat.le_of_ble_eq_true rfl, Nat.le_of_ble_eq_true rfl⟩ (Nat.le_of_ble_eq_true rfl) ⟨Nat.le_of_ble_eq_true rfl, Nat.le_of_ble_eq_true rfl⟩ (fun v18 g18 h18 => ?_)
      obtain ⟨rfl, rfl⟩ := h18
      refine q_top (show Value.int _ = Value.int _ from congrArg Value.int (congrArg nI eG)) ?_
      refine q_istore C dX1_chooseKinds_21 (by decide) rfl ?_
      refine q_aload_n C dX1_chooseKinds_23 rfl ?_
      refine x_getR C (ci := 1) (k := 0) (C0 := RX1) (T := TX1) (NF := 6) (ref := RX1) (host := RX4) dX1_chooseKinds_24 fr_Lnames rfl iX1_chooseKinds_X1 (by decide) (List.mem_of_getElem? (i := 2) rfl) rfl ?_
      refine q_iload_n C dX1_chooseKinds_27 rfl ?_
      refine x_ialdN C dX1_chooseKinds_28 ia_Lnames (by decide) (by omega) ?_
      refine q_top (show Value.int _ = Value.int _ from congrArg Value.int (hn1)) ?_
      refine q_iconst C (v := nI 3) dX1_chooseKinds_29 (by decide) ?_
      refine q_ishr C dX1_chooseKinds_30 ?_
      refine q_top (show Value.int _ = Value.int _ from congrArg Value.int (nv_nmr _ hr16 _ hk3)) ?_
      refine q_istore C dX1_chooseKinds_31 (by decide) rfl ?_
      refine q_aload_n C dX1_chooseKinds_33 rfl ?_
      refine x_getRN C (ci := 2) (k := 7) (C0 := RX2) (T := TX2) (NF := 10) (ref := RX2) (host := RX4) dX1_chooseKinds_34 (fr_Pkin hq) rfl iX1_chooseKinds_X2 (by decide) (by decide +kernel) rfl ?_
      refine q_iload C dX1_chooseKinds_37 rfl ?_
      refine q_aload_n C dX1_chooseKinds_39 rfl ?_
      refine x_getRN C (ci := 2) (k := 7) (C0 := RX2) (T := TX2) (NF := 10) (ref := RX2) (host := RX4) dX1_chooseKinds_40 (fr_Pkin hq) rfl iX1_chooseKinds_X2 (by decide) (by decide +kernel) rfl ?_
      refine q_iload C dX1_chooseKinds_43 rfl ?_
      refine x_ialdN C dX1_chooseKinds_45 (ia_Pkin hq) (by decide) (by omega) ?_
      refine q_aload_n C dX1_chooseKinds_46 rfl ?_
      refine x_getR C (ci := 1) (k := 0) (C0 := RX1) (T := TX1) (NF := 6) (ref := RX1) (host := RX4) dX1_chooseKinds_47 fr_Lnames rfl iX1_chooseKinds_X1 (by decide) (List.mem_of_getElem? (i := 2) rfl) rfl ?_
      refine q_iload_n C dX1_chooseKinds_50 rfl ?_
      refine x_ialdN C dX1_chooseKinds_51 ia_Lnames (by decide) (by omega) ?_
      refine q_top (show Value.int _ = Value.int _ from congrArg Value.int (hn1)) ?_
      refine q_bipush C (v := nI 7) dX1_chooseKinds_52 (by decide) ?_
      refine q_iand C dX1_chooseKinds_54 ?_
      refine q_top (show Value.int _ = Value.int _ from congrArg Value.int (nv_nmk _ hr16 _ hk3)) ?_
      refine q_iload C dX1_chooseKinds_55 rfl ?_
      refine q_callSN (As := [_, _, _]) (nA := 3) (host := RX4) C dX1_chooseKinds_57 (m_withKind _ _ _ _ _ _) ggX1_chooseKinds_X4_withKind rfl (by decide +kernel) (List.mem_of_getElem? (i := 12) rfl) (List.mem_of_getElem? (i := 31) rfl) (by decide +kernel) rfl ⟨Nat.le_of_ble_eq_true rfl, Nat.le_of_ble_eq_true rfl⟩ (Nat.le_of_ble_eq_true rfl) ⟨Nat.le_of_ble_eq_true rfl, Nat.le_of_ble_eq_true rfl⟩ (fun v57 g57 h57 => ?_)
      obtain ⟨rfl, rfl⟩ := h57
      refine x_iastN C dX1_chooseKinds_60 (ia_Pkin hq) (by decide) (by omega) ?_
      refine q_aload_n C dX1_chooseKinds_61 rfl ?_
      refine q_iload_n C dX1_chooseKinds_62 rfl ?_
      refine q_iload_n C dX1_chooseKinds_63 rfl ?_
      refine q_iload C dX1_chooseKinds_64 rfl ?_
      refine x_callV (As := [_, _, _]) (nA := 3) (T := TX1) (NF := 6) C dX1_chooseKinds_66 ob_L rfl (m_standingBehind _ _ _ Y z (lf z) (kb_sz A lf wi s0 z) hz40 (by rw [kb_up_ne (by omega)]; exact hl1) hlt hs1 (kb_kz A lf wi s0 z) hkz4) gX1_chooseKinds_X1_standingBehind rfl (by decide +kernel) rfl ⟨Nat.le_of_ble_eq_true rfl, Nat.le_of_ble_eq_true rfl⟩ (Nat.le_of_ble_eq_true rfl) ⟨Nat.le_of_ble_eq_true rfl, Nat.le_of_ble_eq_true rfl⟩ (fun v66 g66 h66 => ?_)
      obtain ⟨rfl, rfl⟩ := h66
      refine q_istore_n C dX1_chooseKinds_69 (by decide) rfl ?_
      refine q_iinc1 C dX1_chooseKinds_70 rfl (by decide) rfl ?_
      refine q_goto C (tgt := 7) dX1_chooseKinds_73 (by decide) ?_
      exact q_mask [true, true, true, true, false, false] (ih_z () _ _ ⟨rfl, fun c hc => by rw [kb_up_ne hc]; exact hI1.1 c hc, fun y hy => by
        rw [kb_up_self]
        by_cases e : y = z
        · subst e
          rw [upd, if_pos rfl, kb_kindIn_with _ hk3 hk3 hkz4, if_pos rfl]
        · have hyn := hnm y (by omega)
          have ihy := hI1.2 y (by omega)
          by_cases e2 : rw0 y = rw0 z
          · rw [e2] at ihy ⊢
            have e3 : ¬ kn0 y = kn0 z := fun h => e (hinj y z (by omega) hk_z e2 h)
            rw [upd, if_pos rfl, kb_kindIn_with _ hyn.2.2 hk3 hkz4, if_neg e3]
            exact ihy
          · rw [upd, if_neg e2]
            exact ihy⟩)
  · intro a1 Xa Ya hI_z
    obtain ⟨rfl, hI1⟩ := hI_z
    have hk1 : Xa 3 3 = nI K := by rw [hI1.1 _ (by omega)]; exact hkc
    refine q_iload_n C dX1_chooseKinds_7 rfl ?_
    refine q_aload_n C dX1_chooseKinds_8 rfl ?_
    refine x_getI C (ci := 1) (k := 3) (C0 := RX1) (T := TX1) (NF := 6) (ref := RX1) (host := RX4) dX1_chooseKinds_9 fi_Lkc rfl iX1_chooseKinds_X1 (by decide) (List.mem_of_getElem? (i := 1) rfl) rfl ?_
    refine q_top (show Value.int _ = Value.int _ from congrArg Value.int (hk1)) ?_
    refine q_icmpgeN C (tgt := 76) dX1_chooseKinds_12 (by decide) (by omega) (by omega) (fun c12 => ?_) (fun c12 => ?_)
    · exact q_vret C dX1_chooseKinds_76 ⟨rfl, _, rfl, hI1⟩
    · exact absurd c12 (by omega)
/-- what is reached ahead of knot z -/
def kb_FW (lf wi : Nat → Nat) (S0 : Nat → Prop) : Nat → Nat → Prop
  | 0, s => S0 s
  | z + 1, s => kb_okq (lf z) (wi z) s ∧ (kb_FW lf wi S0 z s ∨ kb_FW lf wi S0 z (kb_ss 6 s (lf z)))
/-- knot z is a suspect -/
def kb_qs (lf wi : Nat → Nat) (S0 : Nat → Prop) (A : Nat → Nat → Prop) (z : Nat) : Prop := wi z ≠ 4 ∧ ∃ s, s < 4096 ∧ (kb_FW lf wi S0 z s ∨ kb_FW lf wi S0 z (kb_ss 6 s (lf z))) ∧ A (z + 1) s
noncomputable def kb_ql (Q : Nat → Prop) (nm : Nat → Nat) : Nat → List Nat
  | 0 => []
  | z + 1 => kb_ql Q nm z ++ (if kb_b (Q z) then [nm z] else [])
theorem kb_ql_len (Q : Nat → Prop) (nm : Nat → Nat) : ∀ z, (kb_ql Q nm z).length ≤ z
  | 0 => Nat.le_refl _
  | z + 1 => by
    have := kb_ql_len Q nm z
    unfold kb_ql
    split <;> simp <;> omega
/-- the suspects L are laid down in picture q -/
def kb_sst (q : Nat) (L : List Nat) (X X' : Nat → Nat → Int32) : Prop := (∀ z, z ≠ 148 + 5 * q → z ≠ 148 + 5 * q + 4 → X' z = X z) ∧ (∀ j, j ≠ 9 → X' (148 + 5 * q) j = X (148 + 5 * q) j) ∧ X' (148 + 5 * q) 9 = nI L.length ∧ ∀ i, i < L.length → X' (148 + 5 * q + 4) i = nI (L.getD i 0)
theorem kb_sst_add {q x : Nat} {L : List Nat} {X X' : Nat → Nat → Int32} (h : kb_sst q L X X') : kb_sst q (L ++ [x]) X (va_up (va_up X' (148 + 5 * q + 4) (upd (X' (148 + 5 * q + 4)) L.length (nI x))) (148 + 5 * q) (upd (va_up X' (148 + 5 * q + 4) (upd (X' (148 + 5 * q + 4)) L.length (nI x)) (148 + 5 * q)) 9 (nI (L.length + 1)))) := by
  refine ⟨fun z h1 h2 => by rw [kb_up_ne h1, kb_up_ne h2]; exact h.1 z h1 h2, fun j hj => ?_, ?_, fun i hi => ?_⟩
  · rw [kb_up_self, upd, if_neg hj, kb_up_ne (by omega)]; exact h.2.1 j hj
  · rw [kb_up_self, upd, if_pos rfl]; simp
  · rw [kb_up_ne (by omega), kb_up_self]
    by_cases e : i = L.length
    · subst e; rw [upd, if_pos rfl]; simp
    · rw [upd, if_neg e]
      simp at hi
      rw [h.2.2.2 i (by omega)]
      congr 1
      simp only [List.getD_eq_getElem?_getD]
      rw [List.getElem?_append_left (by omega)]
theorem nI_ne_m1 {s : Nat} (h : s < 2 ^ 31) : ¬ nI s = -1 := fun e => by
  have := congrArg Int32.toInt e
  rw [nI_toInt h] at this
  have e1 : (-1 : Int32).toInt = -1 := by decide
  omega
theorem iX1_findSuspects_X1 : ∀ w ∈ wsX10, w ∈ wsX1_findSuspects := fun _ h => List.mem_cons_of_mem _ (by first | exact h | exact List.mem_append_right _ h | exact List.mem_append_left _ (List.mem_append_right _ h) | exact List.mem_append_left _ (List.mem_append_left _ (List.mem_append_right _ h)) | exact List.mem_append_left _ (List.mem_append_left _ (List.mem_append_left _ (List.mem_append_right _ h))) | exact List.mem_append_left _ (List.mem_append_left _ (List.mem_append_left _ (List.mem_append_left _ (List.mem_append_right _ h)))) | exact List.mem_append_left _ (List.mem_append_left _ (List.mem_append_left _ (List.mem_append_left _ (List.mem_append_left _ (List.mem_append_right _ h))))))
theorem iX1_findSuspects_X2 : ∀ w ∈ wsX20, w ∈ wsX1_findSuspects := fun _ h => List.mem_cons_of_mem _ (by first | exact h | exact List.mem_append_right _ h | exact List.mem_append_left _ (List.mem_append_right _ h) | exact List.mem_append_left _ (List.mem_append_left _ (List.mem_append_right _ h)) | exact List.mem_append_left _ (List.mem_append_left _ (List.mem_append_left _ (List.mem_append_right _ h))) | exact List.mem_append_left _ (List.mem_append_left _ (List.mem_append_left _ (List.mem_append_left _ (List.mem_append_right _ h)))) | exact List.mem_append_left _ (List.mem_append_left _ (List.mem_append_left _ (List.mem_append_left _ (List.mem_append_left _ (List.mem_append_right _ h))))))
set_option maxRecDepth 100000 in
set_option maxHeartbeats 4000000 in
/-- X1.findSuspects -/
theorem m_findSuspects (l : Launch) (E : kb_E) (X : Nat → Nat → Int32) (Y : Nat → Nat → Int64) (q : Nat) (hq : q < 8) (K : Nat) (hK : K ≤ 40) (lf wi : Nat → Nat) (hkc : X 3 3 = nI K) (hlf : ∀ q, q < K → X 5 q = nI (lf q) ∧ lf q < 5) (hwi : ∀ q, q < K → X 6 q = nI (wi q) ∧ wi q ≤ 4) (rw0 kn0 : Nat → Nat) (hnm : ∀ z, z < K → X 4 z = nI (8 * rw0 z + kn0 z) ∧ rw0 z < 16 ∧ kn0 z < 3) (A : Nat → Nat → Prop) (hah : ∀ z, z ≤ K → kb_ist (Y (10 + 2 * z + 1)) (A z)) (S0 : Nat → Prop) (hnow : kb_ist (Y 9) S0) (hsc : X (148 + 5 * q) 9 = nI 0) : kb_Met l E 202 yX1_findSuspects wsX1_findSuspects ({ frames := 3, cells := 0, slots := 0, locals := 67 }) [.ref (E.2.2.2 3), .ref (E.2.2.2 (148 + 5 * q))] (kb_ent E X Y) (fun v g' => v = none ∧ ∃ X' Y', g' = kb_ent E X' Y' ∧ kb_sst q (kb_ql (kb_qs lf wi S0 A) (fun z => 8 * rw0 z + kn0 z) K) X X' ∧ kb_sL Y Y') := by
  refine kb_enter (cc := cX1_findSuspects) (maxL := 3) (ret := none) (by decide +kernel) rfl (by simp [Value.category]) (Nat.le_of_ble_eq_true rfl) ?_
  intro p e s m args below meth c C hini
  have h0 : kb_sst q [] X X := ⟨fun _ _ _ => rfl, fun _ _ => rfl, hsc, fun i hi => absurd hi (Nat.not_lt_zero _)⟩
  refine q_iconst C (v := nI 0) dX1_findSuspects_0 (by decide) ?_
  refine q_istore_n C dX1_findSuspects_1 (by decide) rfl ?_
  refine q_mask [true, true, true] (q_for (σ := Unit) (k0 := 0) (K) (fun z _ X' Y' => kb_sst q (kb_ql (kb_qs lf wi S0 A) (fun z => 8 * rw0 z + kn0 z) z) X X' ∧ kb_sL Y Y' ∧ kb_ist (Y' 9) (kb_FW lf wi S0 z) ∧ ∀ y, y ≤ K → kb_ist (Y' (10 + 2 * y + 1)) (A y)) (fun z _ => [some (.ref (E.2.2.2 3)), some (.ref (E.2.2.2 (148 + 5 * q))), some (.int (nI z))]) (Nat.zero_le _) () (⟨h0, fun _ _ => rfl, hnow, hah⟩) ?_ ?_)
  · intro z a1 Xa Ya hk_z hk0_z hI_z ih_z
    obtain ⟨hIx, hIs, hIf, hIa⟩ := hI_z
    have hk1 : Xa 3 3 = nI K := by rw [hIx.1 _ (by omega) (by omega)]; exact hkc
    have hz40 : z < 40 := by omega
    have hl1 : Xa 5 z = nI (lf z) := by rw [hIx.1 _ (by omega) (by omega)]; exact (hlf z hk_z).1
    have hlt := (hlf z hk_z).2
    have hw1 : Xa 6 z = nI (wi z) := by rw [hIx.1 _ (by omega) (by omega)]; exact (hwi z hk_z).1
    have hw4 := (hwi z hk_z).2
    have hn1 : Xa 4 z = nI (8 * rw0 z + kn0 z) := by rw [hIx.1 _ (by omega) (by omega)]; exact (hnm z hk_z).1
    have hr16 := (hnm z hk_z).2.1
    have hk3 := (hnm z hk_z).2.2
    have hlen : (kb_ql (kb_qs lf wi S0 A) (fun z => 8 * rw0 z + kn0 z) z).length ≤ z := kb_ql_len _ _ z
    refine q_iload_n C dX1_findSuspects_2 rfl ?_
    refine q_aload_n C dX1_findSuspects_3 rfl ?_
    refine x_getI C (ci := 1) (k := 3) (C0 := RX1) (T := TX1) (NF := 6) (ref := RX1) (host := RX4) dX1_findSuspects_4 fi_Lkc rfl iX1_findSuspects_X1 (by decide) (List.mem_of_getElem? (i := 1) rfl) rfl ?_
    refine q_top (show Value.int _ = Value.int _ from congrArg Value.int (hk1)) ?_
    refine q_icmpgeN C (tgt := 106) dX1_findSuspects_7 (by decide) (by omega) (by omega) (fun c7 => ?_) (fun c7 => ?_)
    · exact absurd c7 (by omega)
    · refine q_aload_n C dX1_findSuspects_10 rfl ?_
      refine x_getR C (ci := 1) (k := 5) (C0 := RX1) (T := TX1) (NF := 6) (ref := RX1) (host := RX4) dX1_findSuspects_11 fr_Lnow rfl iX1_findSuspects_X1 (by decide) (List.mem_of_getElem? (i := 2) rfl) rfl ?_
      refine q_aload_n C dX1_findSuspects_14 rfl ?_
      refine x_getR C (ci := 1) (k := 5) (C0 := RX1) (T := TX1) (NF := 6) (ref := RX1) (host := RX4) dX1_findSuspects_15 fr_Lnow rfl iX1_findSuspects_X1 (by decide) (List.mem_of_getElem? (i := 2) rfl) rfl ?_
      refine q_aload_n C dX1_findSuspects_18 rfl ?_
      refine x_getR C (ci := 1) (k := 1) (C0 := RX1) (T := TX1) (NF := 6) (ref := RX1) (host := RX4) dX1_findSuspects_19 fr_Llefts rfl iX1_findSuspects_X1 (by decide) (List.mem_of_getElem? (i := 3) rfl) rfl ?_
      refine q_iload_n C dX1_findSuspects_22 rfl ?_
      refine x_ialdN C dX1_findSuspects_23 ia_Llefts (by decide) (by omega) ?_
      refine q_top (show Value.int _ = Value.int _ from congrArg Value.int (hl1)) ?_
      refine x_callV (As := [_, _]) (nA := 2) (T := TX3) (NF := 1) C dX1_findSuspects_24 (ob_S kb_SN8) rfl (m_spread _ _ Xa _ 8 8 (lf z) kb_SN8 kb_SN8 hlt) gX1_findSuspects_X3_spread rfl (by decide +kernel) rfl ⟨Nat.le_of_ble_eq_true rfl, Nat.le_of_ble_eq_true rfl⟩ (Nat.le_of_ble_eq_true rfl) ⟨Nat.le_of_ble_eq_true rfl, Nat.le_of_ble_eq_true rfl⟩ (fun v24 g24 h24 => ?_)
      obtain ⟨rfl, Ys, rfl, h24s⟩ := h24
      have hsp := kb_ist_spread hlt hIf h24s.2
      have hYa : ∀ y, y ≤ K → kb_ist (Ys (10 + 2 * y + 1)) (A y) := fun y hy => by rw [h24s.1 _ (by omega)]; exact hIa y hy
      have hYl : kb_sL Y Ys := fun c hc => (h24s.1 c (by omega)).trans (hIs c hc)
      refine q_aload_n C dX1_findSuspects_27 rfl ?_
      refine x_getR C (ci := 1) (k := 2) (C0 := RX1) (T := TX1) (NF := 6) (ref := RX1) (host := RX4) dX1_findSuspects_28 fr_Lwish rfl iX1_findSuspects_X1 (by decide) (List.mem_of_getElem? (i := 4) rfl) rfl ?_
      refine q_iload_n C dX1_findSuspects_31 rfl ?_
      refine x_ialdN C dX1_findSuspects_32 ia_Lwish (by decide) (by omega) ?_
      refine q_top (show Value.int _ = Value.int _ from congrArg Value.int (hw1)) ?_
      refine q_iconst C (v := nI 4) dX1_findSuspects_33 (by decide) ?_
      refine q_icmpeqN C (tgt := 100) dX1_findSuspects_34 (by decide) (by omega) (by omega) (fun c34 => ?_) (fun c34 => ?_)
      · have hXn : kb_sst q (kb_ql (kb_qs lf wi S0 A) (fun z => 8 * rw0 z + kn0 z) (z + 1)) X Xa := by
          rw [kb_ql, kb_b_f (fun h => h.1 c34)]
          simpa using hIx
        have hYn := hYl
        have hFn : kb_ist (Ys 9) (kb_FW lf wi S0 (z + 1)) := hsp.iff (fun s => ⟨fun u => ⟨Or.inl c34, u⟩, fun u => u.2⟩)
        have hAn := hYa
        refine q_iinc1 C dX1_findSuspects_100 rfl (by decide) rfl ?_
        refine q_goto C (tgt := 2) dX1_findSuspects_103 (by decide) ?_
        exact q_mask [true, true, true] (ih_z () _ _ ⟨hXn, hYn, hFn, hAn⟩)
      · refine q_aload_n C dX1_findSuspects_37 rfl ?_
        refine x_getR C (ci := 1) (k := 5) (C0 := RX1) (T := TX1) (NF := 6) (ref := RX1) (host := RX4) dX1_findSuspects_38 fr_Lnow rfl iX1_findSuspects_X1 (by decide) (List.mem_of_getElem? (i := 2) rfl) rfl ?_
        refine q_aload_n C dX1_findSuspects_41 rfl ?_
        refine x_getR C (ci := 1) (k := 4) (C0 := RX1) (T := TX1) (NF := 6) (ref := RX1) (host := RX4) dX1_findSuspects_42 fr_Lahead rfl iX1_findSuspects_X1 (by decide) (List.mem_of_getElem? (i := 5) rfl) rfl ?_
        refine q_iload_n C dX1_findSuspects_45 rfl ?_
        refine q_iconst C (v := nI 1) dX1_findSuspects_46 (by decide) ?_
        refine q_iaddN C dX1_findSuspects_47 ?_
        refine x_aaldN C dX1_findSuspects_48 ra_Lahead rfl (by decide) (by omega) ?_
        refine x_callV (As := [_]) (nA := 1) (T := TX3) (NF := 1) C dX1_findSuspects_49 (ob_S kb_SN8) rfl (m_firstShared _ _ Xa Ys 8 (10 + 2 * (z + 1)) kb_SN8 (kb_SNa (by omega))) gX1_findSuspects_X3_firstShared rfl (by decide +kernel) rfl ⟨Nat.le_of_ble_eq_true rfl, Nat.le_of_ble_eq_true rfl⟩ (Nat.le_of_ble_eq_true rfl) ⟨Nat.le_of_ble_eq_true rfl, Nat.le_of_ble_eq_true rfl⟩ (fun v49 g49 h49 => ?_)
        obtain ⟨rr, rfl, hr, rfl⟩ := h49
        refine q_iconst C (v := -1) dX1_findSuspects_52 (by decide) ?_
        refine q_icmpeq C (tgt := 81) dX1_findSuspects_53 (by decide) (fun c53 => ?_) (fun c53 => ?_)
        · have hXn : kb_sst q (kb_ql (kb_qs lf wi S0 A) (fun z => 8 * rw0 z + kn0 z) (z + 1)) X Xa := by
            have hno : ¬ (kb_qs lf wi S0 A) z := fun h => by
              obtain ⟨s, hs, h1, h2⟩ := h.2
              rcases hr with ⟨t, ht, -, -, e⟩ | ⟨h3, -⟩
              · exact nI_ne_m1 (by omega) (e.symm.trans c53)
              · exact h3 s hs ⟨(hsp s hs).mpr h1, (hYa (z + 1) (by omega) s hs).mpr h2⟩
            rw [kb_ql, kb_b_f hno]
            simpa using hIx
          refine q_aload_n C dX1_findSuspects_81 rfl ?_
          refine x_getR C (ci := 1) (k := 5) (C0 := RX1) (T := TX1) (NF := 6) (ref := RX1) (host := RX4) dX1_findSuspects_82 fr_Lnow rfl iX1_findSuspects_X1 (by decide) (List.mem_of_getElem? (i := 2) rfl) rfl ?_
          refine q_aload_n C dX1_findSuspects_85 rfl ?_
          refine x_getR C (ci := 1) (k := 1) (C0 := RX1) (T := TX1) (NF := 6) (ref := RX1) (host := RX4) dX1_findSuspects_86 fr_Llefts rfl iX1_findSuspects_X1 (by decide) (List.mem_of_getElem? (i := 3) rfl) rfl ?_
          refine q_iload_n C dX1_findSuspects_89 rfl ?_
          refine x_ialdN C dX1_findSuspects_90 ia_Llefts (by decide) (by omega) ?_
          refine q_top (show Value.int _ = Value.int _ from congrArg Value.int (hl1)) ?_
          refine q_aload_n C dX1_findSuspects_91 rfl ?_
          refine x_getR C (ci := 1) (k := 2) (C0 := RX1) (T := TX1) (NF := 6) (ref := RX1) (host := RX4) dX1_findSuspects_92 fr_Lwish rfl iX1_findSuspects_X1 (by decide) (List.mem_of_getElem? (i := 4) rfl) rfl ?_
          refine q_iload_n C dX1_findSuspects_95 rfl ?_
          refine x_ialdN C dX1_findSuspects_96 ia_Lwish (by decide) (by omega) ?_
          refine q_top (show Value.int _ = Value.int _ from congrArg Value.int (hw1)) ?_
          refine x_callV (As := [_, _]) (nA := 2) (T := TX3) (NF := 1) C dX1_findSuspects_97 (ob_S kb_SN8) rfl (m_keepEither _ _ _ Ys 8 (lf z) (wi z) kb_SN8 hlt (by omega)) gX1_findSuspects_X3_keepEither rfl (by decide +kernel) rfl ⟨Nat.le_of_ble_eq_true rfl, Nat.le_of_ble_eq_true rfl⟩ (Nat.le_of_ble_eq_true rfl) ⟨Nat.le_of_ble_eq_true rfl, Nat.le_of_ble_eq_true rfl⟩ (fun v97 g97 h97 => ?_)
          obtain ⟨rfl, Yk, rfl, h97s⟩ := h97
          have hYn : kb_sL Y Yk := fun c hc => (h97s.1 c (by omega)).trans (hYl c hc)
          have hFn : kb_ist (Yk 9) (kb_FW lf wi S0 (z + 1)) := kb_ist_keep2 hlt (by omega) hsp h97s.2
          have hAn : ∀ y, y ≤ K → kb_ist (Yk (10 + 2 * y + 1)) (A y) := fun y hy => by rw [h97s.1 _ (by omega)]; exact hYa y hy
          refine q_iinc1 C dX1_findSuspects_100 rfl (by decide) rfl ?_
          refine q_goto C (tgt := 2) dX1_findSuspects_103 (by decide) ?_
          exact q_mask [true, true, true] (ih_z () _ _ ⟨hXn, hYn, hFn, hAn⟩)
        · refine q_aload_n C dX1_findSuspects_56 rfl ?_
          refine x_getRN C (ci := 2) (k := 8) (C0 := RX2) (T := TX2) (NF := 10) (ref := RX2) (host := RX4) dX1_findSuspects_57 (fr_Psus hq) rfl iX1_findSuspects_X2 (by decide) (by decide +kernel) rfl ?_
          refine q_aload_n C dX1_findSuspects_60 rfl ?_
          refine x_getIN C (ci := 2) (k := 9) (C0 := RX2) (T := TX2) (NF := 10) (ref := RX2) (host := RX4) dX1_findSuspects_61 (fi_Psuc hq) rfl iX1_findSuspects_X2 (by decide) (by decide +kernel) rfl ?_
          refine q_top (show Value.int _ = Value.int _ from congrArg Value.int (hIx.2.2.1)) ?_
          refine q_aload_n C dX1_findSuspects_64 rfl ?_
          refine x_getR C (ci := 1) (k := 0) (C0 := RX1) (T := TX1) (NF := 6) (ref := RX1) (host := RX4) dX1_findSuspects_65 fr_Lnames rfl iX1_findSuspects_X1 (by decide) (List.mem_of_getElem? (i := 6) rfl) rfl ?_
          refine q_iload_n C dX1_findSuspects_68 rfl ?_
          refine x_ialdN C dX1_findSuspects_69 ia_Lnames (by decide) (by omega) ?_
          refine q_top (show Value.int _ = Value.int _ from congrArg Value.int (hn1)) ?_
          refine x_iastN C dX1_findSuspects_70 (ia_Psus hq) (by decide) (by omega) ?_
          refine q_aload_n C dX1_findSuspects_71 rfl ?_
          refine q_dup C dX1_findSuspects_72 rfl ?_
          refine x_getIN C (ci := 2) (k := 9) (C0 := RX2) (T := TX2) (NF := 10) (ref := RX2) (host := RX4) dX1_findSuspects_73 (fi_Psuc hq) rfl iX1_findSuspects_X2 (by decide) (by decide +kernel) rfl ?_
          refine q_top (show Value.int _ = Value.int _ from congrArg Value.int ((congrFun (kb_up_ne (by omega)) 9).trans hIx.2.2.1)) ?_
          refine q_iconst C (v := nI 1) dX1_findSuspects_76 (by decide) ?_
          refine q_iaddN C dX1_findSuspects_77 ?_
          refine x_putIN C (ci := 2) (k := 9) (C0 := RX2) (T := TX2) (NF := 10) (ref := RX2) (host := RX4) (ty := .int) dX1_findSuspects_78 (fi_Psuc hq) rfl iX1_findSuspects_X2 tyX2_ok nmX2 (by decide) (by decide +kernel) rfl rfl (by decide +kernel) rfl rfl ?_
          have hXn := kb_sst_add (x := 8 * rw0 z + kn0 z) hIx
          rw [show (kb_ql (kb_qs lf wi S0 A) (fun z => 8 * rw0 z + kn0 z) z) ++ [8 * rw0 z + kn0 z] = (kb_ql (kb_qs lf wi S0 A) (fun z => 8 * rw0 z + kn0 z) (z + 1)) from by
            have hyes : (kb_qs lf wi S0 A) z := by
              refine ⟨c34, ?_⟩
              rcases hr with ⟨t, ht, h1, -, -⟩ | ⟨-, e⟩
              · exact ⟨t, ht, (hsp t ht).mp h1.1, (hYa (z + 1) (by omega) t ht).mp h1.2⟩
              · exact absurd e c53
            rw [kb_ql, kb_b_t hyes]
            rfl] at hXn
          refine q_aload_n C dX1_findSuspects_81 rfl ?_
          refine x_getR C (ci := 1) (k := 5) (C0 := RX1) (T := TX1) (NF := 6) (ref := RX1) (host := RX4) dX1_findSuspects_82 fr_Lnow rfl iX1_findSuspects_X1 (by decide) (List.mem_of_getElem? (i := 2) rfl) rfl ?_
          refine q_aload_n C dX1_findSuspects_85 rfl ?_
          refine x_getR C (ci := 1) (k := 1) (C0 := RX1) (T := TX1) (NF := 6) (ref := RX1) (host := RX4) dX1_findSuspects_86 fr_Llefts rfl iX1_findSuspects_X1 (by decide) (List.mem_of_getElem? (i := 3) rfl) rfl ?_
          refine q_iload_n C dX1_findSuspects_89 rfl ?_
          refine x_ialdN C dX1_findSuspects_90 ia_Llefts (by decide) (by omega) ?_
          refine q_top (show Value.int _ = Value.int _ from congrArg Value.int ((congrFun ((kb_up_ne (by omega)).trans (kb_up_ne (by omega))) z).trans hl1)) ?_
          refine q_aload_n C dX1_findSuspects_91 rfl ?_
          refine x_getR C (ci := 1) (k := 2) (C0 := RX1) (T := TX1) (NF := 6) (ref := RX1) (host := RX4) dX1_findSuspects_92 fr_Lwish rfl iX1_findSuspects_X1 (by decide) (List.mem_of_getElem? (i := 4) rfl) rfl ?_
          refine q_iload_n C dX1_findSuspects_95 rfl ?_
          refine x_ialdN C dX1_findSuspects_96 ia_Lwish (by decide) (by omega) ?_
          refine q_top (show Value.int _ = Value.int _ from congrArg Value.int ((congrFun ((kb_up_ne (by omega)).trans (kb_up_ne (by omega))) z).trans hw1)) ?_
          refine x_callV (As := [_, _]) (nA := 2) (T := TX3) (NF := 1) C dX1_findSuspects_97 (ob_S kb_SN8) rfl (m_keepEither _ _ _ Ys 8 (lf z) (wi z) kb_SN8 hlt (by omega)) gX1_findSuspects_X3_keepEither rfl (by decide +kernel) rfl ⟨Nat.le_of_ble_eq_true rfl, Nat.le_of_ble_eq_true rfl⟩ (Nat.le_of_ble_eq_true rfl) ⟨Nat.le_of_ble_eq_true rfl, Nat.le_of_ble_eq_true rfl⟩ (fun v97 g97 h97 => ?_)
          obtain ⟨rfl, Yk, rfl, h97s⟩ := h97
          have hYn : kb_sL Y Yk := fun c hc => (h97s.1 c (by omega)).trans (hYl c hc)
          have hFn : kb_ist (Yk 9) (kb_FW lf wi S0 (z + 1)) := kb_ist_keep2 hlt (by omega) hsp h97s.2
          have hAn : ∀ y, y ≤ K → kb_ist (Yk (10 + 2 * y + 1)) (A y) := fun y hy => by rw [h97s.1 _ (by omega)]; exact hYa y hy
          refine q_iinc1 C dX1_findSuspects_100 rfl (by decide) rfl ?_
          refine q_goto C (tgt := 2) dX1_findSuspects_103 (by decide) ?_
          exact q_mask [true, true, true] (ih_z () _ _ ⟨hXn, hYn, hFn, hAn⟩)
  · intro a1 Xa Ya hI_z
    obtain ⟨hIx, hIs, hIf, hIa⟩ := hI_z
    have hk1 : Xa 3 3 = nI K := by rw [hIx.1 _ (by omega) (by omega)]; exact hkc
    refine q_iload_n C dX1_findSuspects_2 rfl ?_
    refine q_aload_n C dX1_findSuspects_3 rfl ?_
    refine x_getI C (ci := 1) (k := 3) (C0 := RX1) (T := TX1) (NF := 6) (ref := RX1) (host := RX4) dX1_findSuspects_4 fi_Lkc rfl iX1_findSuspects_X1 (by decide) (List.mem_of_getElem? (i := 1) rfl) rfl ?_
    refine q_top (show Value.int _ = Value.int _ from congrArg Value.int (hk1)) ?_
    refine q_icmpgeN C (tgt := 106) dX1_findSuspects_7 (by decide) (by omega) (by omega) (fun c7 => ?_) (fun c7 => ?_)
    · exact q_vret C dX1_findSuspects_106 ⟨rfl, _, _, rfl, hIx, hIs⟩
    · exact absurd c7 (by omega)

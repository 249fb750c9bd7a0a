/-! ===== the reference: swapped, changed, isKind, states, fits, isStart ===== -/
/-- bit k of b -/
def kb_bt (b k : Nat) : Bool := b / 2 ^ k % 2 == 1
/-- the state s when of the first k knots of row r those named by b have exchanged their threads -/
def kb_ch (n r b s : Nat) : Nat → Nat
  | 0 => s
  | k + 1 => if kb_bt b k then kb_ss n (kb_ch n r b s k) (kb_lf r k) else kb_ch n r b s k
theorem kb_ch_lt {n r b s : Nat} (hn : n ≤ 6) (hs : s < 4 ^ n) : ∀ k, k ≤ kb_kn n r → kb_ch n r b s k < 4 ^ n
  | 0, _ => hs
  | k + 1, hk => by
    unfold kb_ch
    split
    · exact kb_ss_lt hn (kb_ch_lt hn hs k (by omega)) (kb_lf_lt (by omega))
    · exact kb_ch_lt hn hs k (by omega)
/-- a wish c of knot k of row r is met by the state s -/
def kb_ok (n c r k s : Nat) : Prop := c = 4 ∨ kb_dg n s (kb_lf r k) = c ∨ kb_dg n s (kb_lf r k + 1) = c
theorem nv_bit {b k : Nat} (hb : b < 8) (hk : k < 3) : (nI b >>> (nI k &&& 31)) &&& nI 1 = nI (if kb_bt b k then 1 else 0) := by
  have : ∀ b, b < 8 → ∀ k, k < 3 → (nI b >>> (nI k &&& 31)) &&& nI 1 = nI (if kb_bt b k then 1 else 0) := by decide +kernel
  exact this b hb k hk
theorem nv_shl {k : Nat} (hk : k < 16) : nI 1 <<< (nI k &&& 31) = nI (2 ^ k) := by
  have : ∀ k, k < 16 → nI 1 <<< (nI k &&& 31) = nI (2 ^ k) := by decide +kernel
  exact this k hk
theorem kb_pow42 (n : Nat) : 2 ^ (2 * n) = 4 ^ n := by rw [Nat.pow_mul]
set_option maxRecDepth 100000 in
set_option maxHeartbeats 4000000 in
/-- X5.swapped -/
theorem m_swapped (l : Launch) (E : kb_E) (g : Nat → va_E) (n st p0 : Int32) : kb_Met l E 202 yX5_swapped wsX5_swapped ({ frames := 0, cells := 0, slots := 0, locals := 0 }) [.int n, .int st, .int p0] g (fun v g' => v = some (.int (kb_swapped n st p0)) ∧ g' = g) := by
  refine kb_enter (cc := cX5_swapped) (maxL := 6) (ret := (some .int)) (by decide +kernel) rfl (by simp [Value.category]) (Nat.le_of_ble_eq_true rfl) ?_
  intro p e s m args below meth c C hini
  refine q_iconst C (v := nI 2) dX5_swapped_0 (by decide) ?_
  refine q_iload_n C dX5_swapped_1 rfl ?_
  refine q_iconst C (v := nI 2) dX5_swapped_2 (by decide) ?_
  refine q_isub C dX5_swapped_3 ?_
  refine q_iload_n C dX5_swapped_4 rfl ?_
  refine q_isub C dX5_swapped_5 ?_
  refine q_imul C dX5_swapped_6 ?_
  refine q_istore_n C dX5_swapped_7 (by decide) rfl ?_
  refine q_iload_n C dX5_swapped_8 rfl ?_
  refine q_iload_n C dX5_swapped_9 rfl ?_
  refine q_iconst C (v := nI 2) dX5_swapped_10 (by decide) ?_
  refine q_iadd C dX5_swapped_11 ?_
  refine q_ishr C dX5_swapped_12 ?_
  refine q_iconst C (v := nI 3) dX5_swapped_13 (by decide) ?_
  refine q_iand C dX5_swapped_14 ?_
  refine q_istore C dX5_swapped_15 (by decide) rfl ?_
  refine q_iload_n C dX5_swapped_17 rfl ?_
  refine q_iload_n C dX5_swapped_18 rfl ?_
  refine q_ishr C dX5_swapped_19 ?_
  refine q_iconst C (v := nI 3) dX5_swapped_20 (by decide) ?_
  refine q_iand C dX5_swapped_21 ?_
  refine q_istore C dX5_swapped_22 (by decide) rfl ?_
  refine q_iload_n C dX5_swapped_24 rfl ?_
  refine q_bipush C (v := nI 15) dX5_swapped_25 (by decide) ?_
  refine q_iload_n C dX5_swapped_27 rfl ?_
  refine q_ishl C dX5_swapped_28 ?_
  refine q_iconst C (v := -1) dX5_swapped_29 (by decide) ?_
  refine q_ixor C dX5_swapped_30 ?_
  refine q_iand C dX5_swapped_31 ?_
  refine q_iload C dX5_swapped_32 rfl ?_
  refine q_iload_n C dX5_swapped_34 rfl ?_
  refine q_iconst C (v := nI 2) dX5_swapped_35 (by decide) ?_
  refine q_iadd C dX5_swapped_36 ?_
  refine q_ishl C dX5_swapped_37 ?_
  refine q_ior C dX5_swapped_38 ?_
  refine q_iload C dX5_swapped_39 rfl ?_
  refine q_iload_n C dX5_swapped_41 rfl ?_
  refine q_ishl C dX5_swapped_42 ?_
  refine q_ior C dX5_swapped_43 ?_
  exact q_iret C dX5_swapped_44 ⟨rfl, rfl⟩
set_option maxRecDepth 100000 in
set_option maxHeartbeats 4000000 in
/-- X5.changed -/
theorem m_changed (l : Launch) (E : kb_E) (X : Nat → Nat → Int32) (Y : Nat → Nat → Int64) (n r st0 b : Nat) (hn : n ≤ 6) (hn2 : 2 ≤ n) (hr : r < 16) (hs : st0 < 4 ^ n) (hb : b < 8) : kb_Met l E 202 yX5_changed wsX5_changed ({ frames := 1, cells := 0, slots := 0, locals := 25 }) [.int (nI n), .int (nI r), .int (nI st0), .int (nI b)] (kb_ent E X Y) (fun v g' => v = some (.int (nI (kb_ch n r b st0 (kb_kn n r)))) ∧ g' = kb_ent E X Y) := by
  refine kb_enter (cc := cX5_changed) (maxL := 6) (ret := (some .int)) (by decide +kernel) rfl (by simp [Value.category]) (Nat.le_of_ble_eq_true rfl) ?_
  intro p e s m args below meth c C hini
  have hkn3 : kb_kn n r ≤ 3 := kb_kn_le hn
  refine q_iload_n C dX5_changed_0 rfl ?_
  refine q_istore C dX5_changed_1 (by decide) rfl ?_
  refine q_iconst C (v := nI 0) dX5_changed_3 (by decide) ?_
  refine q_istore C dX5_changed_4 (by decide) rfl ?_
  refine q_mask [true, true, true, true, true, true] (q_for (σ := Unit) (k0 := 0) (kb_kn n r) (fun _ _ X' Y' => Y = Y' ∧ X = X') (fun k _ => [some (.int (nI n)), some (.int (nI r)), some (.int (nI st0)), some (.int (nI b)), some (.int (nI (kb_ch n r b st0 k))), some (.int (nI k))]) (Nat.zero_le _) () (⟨rfl, rfl⟩) ?_ ?_)
  · intro k a X1 Y1 hk_k hk0_k hI_k ih_k
    obtain ⟨rfl, rfl⟩ := hI_k
    have hlt : kb_ch n r b st0 k < 4 ^ n := kb_ch_lt hn hs k (by omega)
    refine q_iload C dX5_changed_6 rfl ?_
    refine q_iload_n C dX5_changed_8 rfl ?_
    refine q_iload_n C dX5_changed_9 rfl ?_
    refine q_callS (As := [_, _]) (nA := 2) C dX5_changed_10 (m_mknots _ _ _ _ _) gX5_changed_X5_knots rfl (by decide +kernel) rfl ⟨Nat.le_of_ble_eq_true rfl, Nat.le_of_ble_eq_true rfl⟩ (Nat.le_of_ble_eq_true rfl) ⟨Nat.le_of_ble_eq_true rfl, Nat.le_of_ble_eq_true rfl⟩ (fun v10 g10 h10 => ?_)
    obtain ⟨rfl, rfl⟩ := h10
    refine q_top (show Value.int _ = Value.int _ from congrArg Value.int (nv_mknots n (by omega) r (by omega) (by omega))) ?_
    refine q_icmpgeN C (tgt := 46) dX5_changed_13 (by decide) (by omega) (by omega) (fun c13 => ?_) (fun c13 => ?_)
    · exact absurd c13 (by omega)
    · refine q_iload_n C dX5_changed_16 rfl ?_
      refine q_iload C dX5_changed_17 rfl ?_
      refine q_ishr C dX5_changed_19 ?_
      refine q_iconst C (v := nI 1) dX5_changed_20 (by decide) ?_
      refine q_iand C dX5_changed_21 ?_
      refine q_top (show Value.int _ = Value.int _ from congrArg Value.int (nv_bit hb (by omega))) ?_
      refine q_iconst C (v := nI 1) dX5_changed_22 (by decide) ?_
      refine q_icmpneN C (tgt := 40) dX5_changed_23 (by decide) (by split <;> omega) (by omega) (fun c23 => ?_) (fun c23 => ?_)
      · have hbt : kb_bt b k = false := by
          cases q : kb_bt b k with
          | false => rfl
          | true => rw [q] at c23; exact absurd rfl c23
        have ech : kb_ch n r b st0 (k + 1) = kb_ch n r b st0 k := by rw [kb_ch, hbt]; rfl
        refine q_iinc1 C dX5_changed_40 rfl (by decide) rfl ?_
        refine q_goto C (tgt := 6) dX5_changed_43 (by decide) ?_
        have ih9 := ih_k () X Y ⟨rfl, rfl⟩
        rw [ech] at ih9
        exact q_mask [true, true, true, true, true, true] ih9
      · have hbt : kb_bt b k = true := by
          cases q : kb_bt b k with
          | true => rfl
          | false => rw [q] at c23; exact absurd c23 (by decide)
        have ech : kb_ch n r b st0 (k + 1) = kb_ss n (kb_ch n r b st0 k) (kb_lf r k) := by rw [kb_ch, hbt]; rfl
        refine q_iload_n C dX5_changed_26 rfl ?_
        refine q_iload C dX5_changed_27 rfl ?_
        refine q_iload_n C dX5_changed_29 rfl ?_
        refine q_iload C dX5_changed_30 rfl ?_
        refine q_callS (As := [_, _]) (nA := 2) C dX5_changed_32 (m_mleft _ _ _ _ _) gX5_changed_X5_left rfl (by decide +kernel) rfl ⟨Nat.le_of_ble_eq_true rfl, Nat.le_of_ble_eq_true rfl⟩ (Nat.le_of_ble_eq_true rfl) ⟨Nat.le_of_ble_eq_true rfl, Nat.le_of_ble_eq_true rfl⟩ (fun v32 g32 h32 => ?_)
        obtain ⟨rfl, rfl⟩ := h32
        refine q_top (show Value.int _ = Value.int _ from congrArg Value.int (nv_mleft r (by omega) k (by omega))) ?_
        refine q_callS (As := [_, _, _]) (nA := 3) C dX5_changed_35 (m_swapped _ _ _ _ _ _) gX5_changed_X5_swapped rfl (by decide +kernel) rfl ⟨Nat.le_of_ble_eq_true rfl, Nat.le_of_ble_eq_true rfl⟩ (Nat.le_of_ble_eq_true rfl) ⟨Nat.le_of_ble_eq_true rfl, Nat.le_of_ble_eq_true rfl⟩ (fun v35 g35 h35 => ?_)
        obtain ⟨rfl, rfl⟩ := h35
        refine q_top (show Value.int _ = Value.int _ from congrArg Value.int (nv_swapped hn2 hn hlt (kb_lf_lt hk_k))) ?_
        refine q_istore C dX5_changed_38 (by decide) rfl ?_
        refine q_iinc1 C dX5_changed_40 rfl (by decide) rfl ?_
        refine q_goto C (tgt := 6) dX5_changed_43 (by decide) ?_
        have ih9 := ih_k () X Y ⟨rfl, rfl⟩
        rw [ech] at ih9
        exact q_mask [true, true, true, true, true, true] ih9
  · intro a X1 Y1 hI_k
    obtain ⟨rfl, rfl⟩ := hI_k
    refine q_iload C dX5_changed_6 rfl ?_
    refine q_iload_n C dX5_changed_8 rfl ?_
    refine q_iload_n C dX5_changed_9 rfl ?_
    refine q_callS (As := [_, _]) (nA := 2) C dX5_changed_10 (m_mknots _ _ _ _ _) gX5_changed_X5_knots rfl (by decide +kernel) rfl ⟨Nat.le_of_ble_eq_true rfl, Nat.le_of_ble_eq_true rfl⟩ (Nat.le_of_ble_eq_true rfl) ⟨Nat.le_of_ble_eq_true rfl, Nat.le_of_ble_eq_true rfl⟩ (fun v10 g10 h10 => ?_)
    obtain ⟨rfl, rfl⟩ := h10
    refine q_top (show Value.int _ = Value.int _ from congrArg Value.int (nv_mknots n (by omega) r (by omega) (by omega))) ?_
    refine q_icmpgeN C (tgt := 46) dX5_changed_13 (by decide) (by omega) (by omega) (fun c13 => ?_) (fun c13 => ?_)
    · refine q_iload C dX5_changed_46 rfl ?_
      exact q_iret C dX5_changed_48 ⟨rfl, rfl⟩
    · exact absurd c13 (by omega)
theorem iX5_states_X5 : ∀ w ∈ wsX50, w ∈ wsX5_states := fun _ h => List.mem_cons_of_mem _ (by first | exact h | exact List.mem_append_right _ h | exact List.mem_append_left _ (List.mem_append_right _ h) | exact List.mem_append_left _ (List.mem_append_left _ (List.mem_append_right _ h)) | exact List.mem_append_left _ (List.mem_append_left _ (List.mem_append_left _ (List.mem_append_right _ h))) | exact List.mem_append_left _ (List.mem_append_left _ (List.mem_append_left _ (List.mem_append_left _ (List.mem_append_right _ h)))) | exact List.mem_append_left _ (List.mem_append_left _ (List.mem_append_left _ (List.mem_append_left _ (List.mem_append_left _ (List.mem_append_right _ h))))))
set_option maxRecDepth 100000 in
set_option maxHeartbeats 4000000 in
/-- X5.states -/
theorem m_states (l : Launch) (E : kb_E) (X : Nat → Nat → Int32) (Y : Nat → Nat → Int64) (b n : Nat) (hb : b < 8) (hn : n ≤ 6) (hw : X 193 b = nI n) : kb_Met l E 202 yX5_states wsX5_states ({ frames := 0, cells := 0, slots := 0, locals := 0 }) [.ref (E.2.2.2 188), .int (nI b)] (kb_ent E X Y) (fun v g' => v = some (.int (nI (4 ^ n))) ∧ g' = kb_ent E X Y) := by
  refine kb_enter (cc := cX5_states) (maxL := 2) (ret := (some .int)) (by decide +kernel) rfl (by simp [Value.category]) (Nat.le_of_ble_eq_true rfl) ?_
  intro p e s m args below meth c C hini
  refine q_iconst C (v := nI 1) dX5_states_0 (by decide) ?_
  refine q_iconst C (v := nI 2) dX5_states_1 (by decide) ?_
  refine q_aload_n C dX5_states_2 rfl ?_
  refine x_getR C (ci := 5) (k := 7) (C0 := RX5) (T := TX5) (NF := 15) (ref := RX5) (host := RX4) dX5_states_3 fr_Mwid rfl iX5_states_X5 (by decide) (List.mem_of_getElem? (i := 1) rfl) rfl ?_
  refine q_iload_n C dX5_states_6 rfl ?_
  refine x_ialdN C dX5_states_7 ia_Mwid (by decide) (by omega) ?_
  refine q_top (show Value.int _ = Value.int _ from congrArg Value.int (hw)) ?_
  refine q_imulN C dX5_states_8 ?_
  refine q_ishl C dX5_states_9 ?_
  refine q_top (show Value.int _ = Value.int _ from congrArg Value.int (nv_shl (by omega))) ?_
  exact q_iret C dX5_states_10 ⟨by rw [kb_pow42], rfl⟩
set_option maxRecDepth 100000 in
set_option maxHeartbeats 4000000 in
/-- X5.isKind -/
theorem m_isKind (l : Launch) (E : kb_E) (X : Nat → Nat → Int32) (Y : Nat → Nat → Int64) (n r k st0 c0 kk : Nat) (hn : n ≤ 6) (hn2 : 2 ≤ n) (hr : r < 16) (hk : k < kb_kn n r) (hs : st0 < 4 ^ n) (hc : c0 ≤ 4) (hkk : kk < 4) : kb_Met l E 202 yX5_isKind wsX5_isKind ({ frames := 1, cells := 0, slots := 0, locals := 22 }) [.ref (E.2.2.2 188), .int (nI n), .int (nI r), .int (nI k), .int (nI st0), .int (nI c0), .int (nI kk)] (kb_ent E X Y) (fun v g' => ∃ f, v = some (.int f) ∧ kb_flag (c0 = 4 ∨ kb_dg n st0 (kb_lf r k + kk % 2) = c0) f ∧ g' = kb_ent E X Y) := by
  refine kb_enter (cc := cX5_isKind) (maxL := 7) (ret := (some .boolean)) (by decide +kernel) rfl (by simp [Value.category]) (Nat.le_of_ble_eq_true rfl) ?_
  intro p e s m args below meth c C hini
  have hkn3 : kb_kn n r ≤ 3 := kb_kn_le hn
  refine q_iload C dX5_isKind_0 rfl ?_
  refine q_iconst C (v := nI 4) dX5_isKind_2 (by decide) ?_
  refine q_icmpeqN C (tgt := 27) dX5_isKind_3 (by decide) (by omega) (by omega) (fun c3 => ?_) (fun c3 => ?_)
  · refine q_iconst C (v := nI 1) dX5_isKind_27 (by decide) ?_
    refine q_goto C (tgt := 32) dX5_isKind_28 (by decide) ?_
    exact q_zret C dX5_isKind_32 (by decide) ⟨_, rfl, by first | exact Or.inl ⟨rfl, Or.inl c3⟩ | exact Or.inl ⟨rfl, Or.inr c24⟩ | exact Or.inr ⟨rfl, fun h => h.elim c3 c24⟩, rfl⟩
  · refine q_iload_n C dX5_isKind_6 rfl ?_
    refine q_iload C dX5_isKind_7 rfl ?_
    refine q_iload_n C dX5_isKind_9 rfl ?_
    refine q_iload_n C dX5_isKind_10 rfl ?_
    refine q_callS (As := [_, _]) (nA := 2) C dX5_isKind_11 (m_mleft _ _ _ _ _) gX5_isKind_X5_left rfl (by decide +kernel) rfl ⟨Nat.le_of_ble_eq_true rfl, Nat.le_of_ble_eq_true rfl⟩ (Nat.le_of_ble_eq_true rfl) ⟨Nat.le_of_ble_eq_true rfl, Nat.le_of_ble_eq_true rfl⟩ (fun v11 g11 h11 => ?_)
    obtain ⟨rfl, rfl⟩ := h11
    refine q_top (show Value.int _ = Value.int _ from congrArg Value.int (nv_mleft r (by omega) k (by omega))) ?_
    refine q_iload C dX5_isKind_14 rfl ?_
    refine q_iconst C (v := nI 2) dX5_isKind_16 (by decide) ?_
    refine q_irem C dX5_isKind_17 (by decide) ?_
    refine q_top (show Value.int _ = Value.int _ from congrArg Value.int (pk_rem (a := kk) (d := 2) (by omega) (by decide) (by decide))) ?_
    refine q_iaddN C dX5_isKind_18 ?_
    have hk2 : kk % 2 < 2 := Nat.mod_lt _ (by decide)
    have hdl := kb_dg_lt n st0 (kb_lf r k + kk % 2)
    refine q_callS (As := [_, _, _]) (nA := 3) C dX5_isKind_19 (m_digit _ _ _ _ _ _) gX5_isKind_X5_digit rfl (by decide +kernel) rfl ⟨Nat.le_of_ble_eq_true rfl, Nat.le_of_ble_eq_true rfl⟩ (Nat.le_of_ble_eq_true rfl) ⟨Nat.le_of_ble_eq_true rfl, Nat.le_of_ble_eq_true rfl⟩ (fun v19 g19 h19 => ?_)
    obtain ⟨rfl, rfl⟩ := h19
    refine q_top (show Value.int _ = Value.int _ from congrArg Value.int (nv_digit hn hs (by have := kb_lf_lt hk; omega))) ?_
    refine q_iload C dX5_isKind_22 rfl ?_
    refine q_icmpneN C (tgt := 31) dX5_isKind_24 (by decide) (by omega) (by omega) (fun c24 => ?_) (fun c24 => ?_)
    · refine q_iconst C (v := nI 0) dX5_isKind_31 (by decide) ?_
      exact q_zret C dX5_isKind_32 (by decide) ⟨_, rfl, by first | exact Or.inl ⟨rfl, Or.inl c3⟩ | exact Or.inl ⟨rfl, Or.inr c24⟩ | exact Or.inr ⟨rfl, fun h => h.elim c3 c24⟩, rfl⟩
    · refine q_iconst C (v := nI 1) dX5_isKind_27 (by decide) ?_
      refine q_goto C (tgt := 32) dX5_isKind_28 (by decide) ?_
      exact q_zret C dX5_isKind_32 (by decide) ⟨_, rfl, by first | exact Or.inl ⟨rfl, Or.inl c3⟩ | exact Or.inl ⟨rfl, Or.inr c24⟩ | exact Or.inr ⟨rfl, fun h => h.elim c3 c24⟩, rfl⟩
theorem iX5_fits_X5 : ∀ w ∈ wsX50, w ∈ wsX5_fits := fun _ h => List.mem_cons_of_mem _ (by first | exact h | exact List.mem_append_right _ h | exact List.mem_append_left _ (List.mem_append_right _ h) | exact List.mem_append_left _ (List.mem_append_left _ (List.mem_append_right _ h)) | exact List.mem_append_left _ (List.mem_append_left _ (List.mem_append_left _ (List.mem_append_right _ h))) | exact List.mem_append_left _ (List.mem_append_left _ (List.mem_append_left _ (List.mem_append_left _ (List.mem_append_right _ h)))) | exact List.mem_append_left _ (List.mem_append_left _ (List.mem_append_left _ (List.mem_append_left _ (List.mem_append_left _ (List.mem_append_right _ h))))))
set_option maxRecDepth 100000 in
set_option maxHeartbeats 4000000 in
/-- X5.fits -/
theorem m_fits (l : Launch) (E : kb_E) (X : Nat → Nat → Int32) (Y : Nat → Nat → Int64) (b n r st0 : Nat) (hb : b < 8) (hn : n ≤ 6) (hn2 : 2 ≤ n) (hr : r < 16) (hs : st0 < 4 ^ n) (hw : X 193 b = nI n) (told : Nat → Nat → Nat) (htd : ∀ r, r < 16 → ∀ k, k < 3 → X 195 (48 * b + 3 * r + k) = nI (told r k) ∧ told r k ≤ 4) : kb_Met l E 202 yX5_fits wsX5_fits ({ frames := 1, cells := 0, slots := 0, locals := 22 }) [.ref (E.2.2.2 188), .int (nI b), .int (nI r), .int (nI st0)] (kb_ent E X Y) (fun v g' => ∃ f, v = some (.int f) ∧ kb_flag (∀ j, j < kb_kn n r → kb_ok n (told r j) r j st0) f ∧ g' = kb_ent E X Y) := by
  refine kb_enter (cc := cX5_fits) (maxL := 7) (ret := (some .boolean)) (by decide +kernel) rfl (by simp [Value.category]) (Nat.le_of_ble_eq_true rfl) ?_
  intro p e s m args below meth c C hini
  have hkn3 : kb_kn n r ≤ 3 := kb_kn_le hn
  refine q_iconst C (v := nI 1) dX5_fits_0 (by decide) ?_
  refine q_istore C dX5_fits_1 (by decide) rfl ?_
  refine q_iconst C (v := nI 0) dX5_fits_3 (by decide) ?_
  refine q_istore C dX5_fits_4 (by decide) rfl ?_
  refine q_mask [true, true, true, true, true, true, false] (q_for (σ := Int32) (k0 := 0) (kb_kn n r) (fun k (f : Int32) X' Y' => Y = Y' ∧ X = X' ∧ kb_flag (∀ j, j < k → kb_ok n (told r j) r j st0) f) (fun k (f : Int32) => [some (.ref (E.2.2.2 188)), some (.int (nI b)), some (.int (nI r)), some (.int (nI st0)), some (.int f), some (.int (nI k)), none]) (Nat.zero_le _) (nI 1) (⟨rfl, rfl, Or.inl ⟨rfl, fun j hj => absurd hj (Nat.not_lt_zero _)⟩⟩) ?_ ?_)
  · intro k f X1 Y1 hk_k hk0_k hI_k ih_k
    obtain ⟨rfl, rfl, hf⟩ := hI_k
    have hlf := kb_lf_lt hk_k
    have htk := (htd r hr k (by omega)).2
    have hd0 := kb_dg_lt n st0 (kb_lf r k)
    have hd1 := kb_dg_lt n st0 (kb_lf r k + 1)
    refine q_iload C dX5_fits_6 rfl ?_
    refine q_aload_n C dX5_fits_8 rfl ?_
    refine x_getR C (ci := 5) (k := 7) (C0 := RX5) (T := TX5) (NF := 15) (ref := RX5) (host := RX4) dX5_fits_9 fr_Mwid rfl iX5_fits_X5 (by decide) (List.mem_of_getElem? (i := 1) rfl) rfl ?_
    refine q_iload_n C dX5_fits_12 rfl ?_
    refine x_ialdN C dX5_fits_13 ia_Mwid (by decide) (by omega) ?_
    refine q_top (show Value.int _ = Value.int _ from congrArg Value.int (hw)) ?_
    refine q_iload_n C dX5_fits_14 rfl ?_
    refine q_callS (As := [_, _]) (nA := 2) C dX5_fits_15 (m_mknots _ _ _ _ _) gX5_fits_X5_knots rfl (by decide +kernel) rfl ⟨Nat.le_of_ble_eq_true rfl, Nat.le_of_ble_eq_true rfl⟩ (Nat.le_of_ble_eq_true rfl) ⟨Nat.le_of_ble_eq_true rfl, Nat.le_of_ble_eq_true rfl⟩ (fun v15 g15 h15 => ?_)
    obtain ⟨rfl, rfl⟩ := h15
    refine q_top (show Value.int _ = Value.int _ from congrArg Value.int (nv_mknots n (by omega) r (by omega) (by omega))) ?_
    refine q_icmpgeN C (tgt := 107) dX5_fits_18 (by decide) (by omega) (by omega) (fun c18 => ?_) (fun c18 => ?_)
    · exact absurd c18 (by omega)
    · refine q_aload_n C dX5_fits_21 rfl ?_
      refine x_getR C (ci := 5) (k := 9) (C0 := RX5) (T := TX5) (NF := 15) (ref := RX5) (host := RX4) dX5_fits_22 fr_Msee rfl iX5_fits_X5 (by decide) (List.mem_of_getElem? (i := 2) rfl) rfl ?_
      refine q_bipush C (v := nI 48) dX5_fits_25 (by decide) ?_
      refine q_iload_n C dX5_fits_27 rfl ?_
      refine q_imulN C dX5_fits_28 ?_
      refine q_iconst C (v := nI 3) dX5_fits_29 (by decide) ?_
      refine q_iload_n C dX5_fits_30 rfl ?_
      refine q_imulN C dX5_fits_31 ?_
      refine q_iaddN C dX5_fits_32 ?_
      refine q_iload C dX5_fits_33 rfl ?_
      refine q_iaddN C dX5_fits_35 ?_
      refine x_ialdN C dX5_fits_36 ia_Msee (by decide) (by omega) ?_
      refine q_top (show Value.int _ = Value.int _ from congrArg Value.int ((htd r hr k (by omega)).1)) ?_
      refine q_istore C dX5_fits_37 (by decide) rfl ?_
      refine q_iload C dX5_fits_39 rfl ?_
      refine q_ifeq C (tgt := 98) dX5_fits_41 (by decide) (fun c41 => ?_) (fun c41 => ?_)
      · refine q_iconst C (v := nI 0) dX5_fits_98 (by decide) ?_
        refine q_istore C dX5_fits_99 (by decide) rfl ?_
        refine q_iinc1 C dX5_fits_101 rfl (by decide) rfl ?_
        refine q_goto C (tgt := 6) dX5_fits_104 (by decide) ?_
        exact q_mask [true, true, true, true, true, true, false] (ih_k _ _ _ ⟨rfl, rfl, by
          first
          | exact Or.inr ⟨rfl, fun h => (kb_flag0 hf c41) (fun j hj => h j (by omega))⟩
          | (refine Or.inl ⟨rfl, fun j hj => ?_⟩
             by_cases e : j = k
             · subst e
               first | exact Or.inl c47 | exact Or.inr (Or.inl c68) | exact Or.inr (Or.inr c91)
             · exact kb_flag1 hf c41 j (by omega))
          | (refine Or.inr ⟨rfl, fun h => ?_⟩
             rcases h k (by omega) with q | q | q
             · exact c47 q
             · exact c68 q
             · exact c91 q)⟩)
      · refine q_iload C dX5_fits_44 rfl ?_
        refine q_iconst C (v := nI 4) dX5_fits_46 (by decide) ?_
        refine q_icmpeqN C (tgt := 94) dX5_fits_47 (by decide) (by omega) (by omega) (fun c47 => ?_) (fun c47 => ?_)
        · refine q_iconst C (v := nI 1) dX5_fits_94 (by decide) ?_
          refine q_goto C (tgt := 99) dX5_fits_95 (by decide) ?_
          refine q_istore C dX5_fits_99 (by decide) rfl ?_
          refine q_iinc1 C dX5_fits_101 rfl (by decide) rfl ?_
          refine q_goto C (tgt := 6) dX5_fits_104 (by decide) ?_
          exact q_mask [true, true, true, true, true, true, false] (ih_k _ _ _ ⟨rfl, rfl, by
            first
            | exact Or.inr ⟨rfl, fun h => (kb_flag0 hf c41) (fun j hj => h j (by omega))⟩
            | (refine Or.inl ⟨rfl, fun j hj => ?_⟩
               by_cases e : j = k
               · subst e
                 first | exact Or.inl c47 | exact Or.inr (Or.inl c68) | exact Or.inr (Or.inr c91)
               · exact kb_flag1 hf c41 j (by omega))
            | (refine Or.inr ⟨rfl, fun h => ?_⟩
               rcases h k (by omega) with q | q | q
               · exact c47 q
               · exact c68 q
               · exact c91 q)⟩)
        · refine q_aload_n C dX5_fits_50 rfl ?_
          refine x_getR C (ci := 5) (k := 7) (C0 := RX5) (T := TX5) (NF := 15) (ref := RX5) (host := RX4) dX5_fits_51 fr_Mwid rfl iX5_fits_X5 (by decide) (List.mem_of_getElem? (i := 1) rfl) rfl ?_
          refine q_iload_n C dX5_fits_54 rfl ?_
          refine x_ialdN C dX5_fits_55 ia_Mwid (by decide) (by omega) ?_
          refine q_top (show Value.int _ = Value.int _ from congrArg Value.int (hw)) ?_
          refine q_iload_n C dX5_fits_56 rfl ?_
          refine q_iload_n C dX5_fits_57 rfl ?_
          refine q_iload C dX5_fits_58 rfl ?_
          refine q_callS (As := [_, _]) (nA := 2) C dX5_fits_60 (m_mleft _ _ _ _ _) gX5_fits_X5_left rfl (by decide +kernel) rfl ⟨Nat.le_of_ble_eq_true rfl, Nat.le_of_ble_eq_true rfl⟩ (Nat.le_of_ble_eq_true rfl) ⟨Nat.le_of_ble_eq_true rfl, Nat.le_of_ble_eq_true rfl⟩ (fun v60 g60 h60 => ?_)
          obtain ⟨rfl, rfl⟩ := h60
          refine q_top (show Value.int _ = Value.int _ from congrArg Value.int (nv_mleft r (by omega) k (by omega))) ?_
          refine q_callS (As := [_, _, _]) (nA := 3) C dX5_fits_63 (m_digit _ _ _ _ _ _) gX5_fits_X5_digit rfl (by decide +kernel) rfl ⟨Nat.le_of_ble_eq_true rfl, Nat.le_of_ble_eq_true rfl⟩ (Nat.le_of_ble_eq_true rfl) ⟨Nat.le_of_ble_eq_true rfl, Nat.le_of_ble_eq_true rfl⟩ (fun v63 g63 h63 => ?_)
          obtain ⟨rfl, rfl⟩ := h63
          refine q_top (show Value.int _ = Value.int _ from congrArg Value.int (nv_digit hn hs (by omega))) ?_
          refine q_iload C dX5_fits_66 rfl ?_
          refine q_icmpeqN C (tgt := 94) dX5_fits_68 (by decide) (by omega) (by omega) (fun c68 => ?_) (fun c68 => ?_)
          · refine q_iconst C (v := nI 1) dX5_fits_94 (by decide) ?_
            refine q_goto C (tgt := 99) dX5_fits_95 (by decide) ?_
            refine q_istore C dX5_fits_99 (by decide) rfl ?_
            refine q_iinc1 C dX5_fits_101 rfl (by decide) rfl ?_
            refine q_goto C (tgt := 6) dX5_fits_104 (by decide) ?_
            exact q_mask [true, true, true, true, true, true, false] (ih_k _ _ _ ⟨rfl, rfl, by
              first
              | exact Or.inr ⟨rfl, fun h => (kb_flag0 hf c41) (fun j hj => h j (by omega))⟩
              | (refine Or.inl ⟨rfl, fun j hj => ?_⟩
                 by_cases e : j = k
                 · subst e
                   first | exact Or.inl c47 | exact Or.inr (Or.inl c68) | exact Or.inr (Or.inr c91)
                 · exact kb_flag1 hf c41 j (by omega))
              | (refine Or.inr ⟨rfl, fun h => ?_⟩
                 rcases h k (by omega) with q | q | q
                 · exact c47 q
                 · exact c68 q
                 · exact c91 q)⟩)
          · refine q_aload_n C dX5_fits_71 rfl ?_
            refine x_getR C (ci := 5) (k := 7) (C0 := RX5) (T := TX5) (NF := 15) (ref := RX5) (host := RX4) dX5_fits_72 fr_Mwid rfl iX5_fits_X5 (by decide) (List.mem_of_getElem? (i := 1) rfl) rfl ?_
            refine q_iload_n C dX5_fits_75 rfl ?_
            refine x_ialdN C dX5_fits_76 ia_Mwid (by decide) (by omega) ?_
            refine q_top (show Value.int _ = Value.int _ from congrArg Value.int (hw)) ?_
            refine q_iload_n C dX5_fits_77 rfl ?_
            refine q_iload_n C dX5_fits_78 rfl ?_
            refine q_iload C dX5_fits_79 rfl ?_
            refine q_callS (As := [_, _]) (nA := 2) C dX5_fits_81 (m_mleft _ _ _ _ _) gX5_fits_X5_left rfl (by decide +kernel) rfl ⟨Nat.le_of_ble_eq_true rfl, Nat.le_of_ble_eq_true rfl⟩ (Nat.le_of_ble_eq_true rfl) ⟨Nat.le_of_ble_eq_true rfl, Nat.le_of_ble_eq_true rfl⟩ (fun v81 g81 h81 => ?_)
            obtain ⟨rfl, rfl⟩ := h81
            refine q_top (show Value.int _ = Value.int _ from congrArg Value.int (nv_mleft r (by omega) k (by omega))) ?_
            refine q_iconst C (v := nI 1) dX5_fits_84 (by decide) ?_
            refine q_iaddN C dX5_fits_85 ?_
            refine q_callS (As := [_, _, _]) (nA := 3) C dX5_fits_86 (m_digit _ _ _ _ _ _) gX5_fits_X5_digit rfl (by decide +kernel) rfl ⟨Nat.le_of_ble_eq_true rfl, Nat.le_of_ble_eq_true rfl⟩ (Nat.le_of_ble_eq_true rfl) ⟨Nat.le_of_ble_eq_true rfl, Nat.le_of_ble_eq_true rfl⟩ (fun v86 g86 h86 => ?_)
            obtain ⟨rfl, rfl⟩ := h86
            refine q_top (show Value.int _ = Value.int _ from congrArg Value.int (nv_digit hn hs (by omega))) ?_
            refine q_iload C dX5_fits_89 rfl ?_
            refine q_icmpneN C (tgt := 98) dX5_fits_91 (by decide) (by omega) (by omega) (fun c91 => ?_) (fun c91 => ?_)
            · refine q_iconst C (v := nI 0) dX5_fits_98 (by decide) ?_
              refine q_istore C dX5_fits_99 (by decide) rfl ?_
              refine q_iinc1 C dX5_fits_101 rfl (by decide) rfl ?_
              refine q_goto C (tgt := 6) dX5_fits_104 (by decide) ?_
              exact q_mask [true, true, true, true, true, true, false] (ih_k _ _ _ ⟨rfl, rfl, by
                first
                | exact Or.inr ⟨rfl, fun h => (kb_flag0 hf c41) (fun j hj => h j (by omega))⟩
                | (refine Or.inl ⟨rfl, fun j hj => ?_⟩
                   by_cases e : j = k
                   · subst e
                     first | exact Or.inl c47 | exact Or.inr (Or.inl c68) | exact Or.inr (Or.inr c91)
                   · exact kb_flag1 hf c41 j (by omega))
                | (refine Or.inr ⟨rfl, fun h => ?_⟩
                   rcases h k (by omega) with q | q | q
                   · exact c47 q
                   · exact c68 q
                   · exact c91 q)⟩)
            · refine q_iconst C (v := nI 1) dX5_fits_94 (by decide) ?_
              refine q_goto C (tgt := 99) dX5_fits_95 (by decide) ?_
              refine q_istore C dX5_fits_99 (by decide) rfl ?_
              refine q_iinc1 C dX5_fits_101 rfl (by decide) rfl ?_
              refine q_goto C (tgt := 6) dX5_fits_104 (by decide) ?_
              exact q_mask [true, true, true, true, true, true, false] (ih_k _ _ _ ⟨rfl, rfl, by
                first
                | exact Or.inr ⟨rfl, fun h => (kb_flag0 hf c41) (fun j hj => h j (by omega))⟩
                | (refine Or.inl ⟨rfl, fun j hj => ?_⟩
                   by_cases e : j = k
                   · subst e
                     first | exact Or.inl c47 | exact Or.inr (Or.inl c68) | exact Or.inr (Or.inr c91)
                   · exact kb_flag1 hf c41 j (by omega))
                | (refine Or.inr ⟨rfl, fun h => ?_⟩
                   rcases h k (by omega) with q | q | q
                   · exact c47 q
                   · exact c68 q
                   · exact c91 q)⟩)
  · intro f X1 Y1 hI_k
    obtain ⟨rfl, rfl, hf⟩ := hI_k
    refine q_iload C dX5_fits_6 rfl ?_
    refine q_aload_n C dX5_fits_8 rfl ?_
    refine x_getR C (ci := 5) (k := 7) (C0 := RX5) (T := TX5) (NF := 15) (ref := RX5) (host := RX4) dX5_fits_9 fr_Mwid rfl iX5_fits_X5 (by decide) (List.mem_of_getElem? (i := 1) rfl) rfl ?_
    refine q_iload_n C dX5_fits_12 rfl ?_
    refine x_ialdN C dX5_fits_13 ia_Mwid (by decide) (by omega) ?_
    refine q_top (show Value.int _ = Value.int _ from congrArg Value.int (hw)) ?_
    refine q_iload_n C dX5_fits_14 rfl ?_
    refine q_callS (As := [_, _]) (nA := 2) C dX5_fits_15 (m_mknots _ _ _ _ _) gX5_fits_X5_knots rfl (by decide +kernel) rfl ⟨Nat.le_of_ble_eq_true rfl, Nat.le_of_ble_eq_true rfl⟩ (Nat.le_of_ble_eq_true rfl) ⟨Nat.le_of_ble_eq_true rfl, Nat.le_of_ble_eq_true rfl⟩ (fun v15 g15 h15 => ?_)
    obtain ⟨rfl, rfl⟩ := h15
    refine q_top (show Value.int _ = Value.int _ from congrArg Value.int (nv_mknots n (by omega) r (by omega) (by omega))) ?_
    refine q_icmpgeN C (tgt := 107) dX5_fits_18 (by decide) (by omega) (by omega) (fun c18 => ?_) (fun c18 => ?_)
    · refine q_iload C dX5_fits_107 rfl ?_
      exact q_zret C dX5_fits_109 (by rcases hf with h | h <;> rw [h.1] <;> decide) ⟨_, rfl, hf, rfl⟩
    · exact absurd c18 (by omega)
theorem iX5_isStart_X5 : ∀ w ∈ wsX50, w ∈ wsX5_isStart := fun _ h => List.mem_cons_of_mem _ (by first | exact h | exact List.mem_append_right _ h | exact List.mem_append_left _ (List.mem_append_right _ h) | exact List.mem_append_left _ (List.mem_append_left _ (List.mem_append_right _ h)) | exact List.mem_append_left _ (List.mem_append_left _ (List.mem_append_left _ (List.mem_append_right _ h))) | exact List.mem_append_left _ (List.mem_append_left _ (List.mem_append_left _ (List.mem_append_left _ (List.mem_append_right _ h)))) | exact List.mem_append_left _ (List.mem_append_left _ (List.mem_append_left _ (List.mem_append_left _ (List.mem_append_left _ (List.mem_append_right _ h))))))
set_option maxRecDepth 100000 in
set_option maxHeartbeats 4000000 in
/-- X5.isStart -/
theorem m_isStart (l : Launch) (E : kb_E) (X : Nat → Nat → Int32) (Y : Nat → Nat → Int64) (b n st0 : Nat) (hb : b < 8) (hn : n ≤ 6) (hn2 : 2 ≤ n) (hs : st0 < 4 ^ n) (hw : X 193 b = nI n) (mu : Nat → Nat) (hmu : ∀ j, j < 6 → X 196 (6 * b + j) = nI (mu j) ∧ mu j ≤ 4) (cn : Prop) (hcn : kb_flag cn (X 200 st0)) : kb_Met l E 202 yX5_isStart wsX5_isStart ({ frames := 1, cells := 0, slots := 0, locals := 22 }) [.ref (E.2.2.2 188), .int (nI b), .int (nI st0)] (kb_ent E X Y) (fun v g' => ∃ f, v = some (.int f) ∧ kb_flag (cn ∧ ∀ j, j < n → mu j = 4 ∨ mu j = kb_dg n st0 j) f ∧ g' = kb_ent E X Y) := by
  refine kb_enter (cc := cX5_isStart) (maxL := 5) (ret := (some .boolean)) (by decide +kernel) rfl (by simp [Value.category]) (Nat.le_of_ble_eq_true rfl) ?_
  intro p e s m args below meth c C hini
  refine q_aload_n C dX5_isStart_0 rfl ?_
  refine x_getR C (ci := 5) (k := 14) (C0 := RX5) (T := TX5) (NF := 15) (ref := RX5) (host := RX4) dX5_isStart_1 fr_Mcan rfl iX5_isStart_X5 (by decide) (List.mem_of_getElem? (i := 1) rfl) rfl ?_
  refine q_iload_n C dX5_isStart_4 rfl ?_
  refine x_zaldN C dX5_isStart_5 (by have := kb_4n hn; omega) ?_
  refine q_istore_n C dX5_isStart_6 (by decide) rfl ?_
  refine q_iconst C (v := nI 0) dX5_isStart_7 (by decide) ?_
  refine q_istore C dX5_isStart_8 (by decide) rfl ?_
  refine q_mask [true, true, true, true, true] (q_for (σ := Int32) (k0 := 0) (n) (fun k (f : Int32) X' Y' => Y = Y' ∧ X = X' ∧ kb_flag (cn ∧ ∀ j, j < k → mu j = 4 ∨ mu j = kb_dg n st0 j) f) (fun k (f : Int32) => [some (.ref (E.2.2.2 188)), some (.int (nI b)), some (.int (nI st0)), some (.int f), some (.int (nI k))]) (Nat.zero_le _) _ (⟨rfl, rfl, by
  rcases hcn with h | h
  · exact Or.inl ⟨h.1, h.2, fun j hj => absurd hj (Nat.not_lt_zero _)⟩
  · exact Or.inr ⟨h.1, fun q => h.2 q.1⟩⟩) ?_ ?_)
  · intro k f X1 Y1 hk_k hk0_k hI_k ih_k
    obtain ⟨rfl, rfl, hf⟩ := hI_k
    have hmk := (hmu k (by omega)).2
    have hd0 := kb_dg_lt n st0 k
    refine q_iload C dX5_isStart_10 rfl ?_
    refine q_aload_n C dX5_isStart_12 rfl ?_
    refine x_getR C (ci := 5) (k := 7) (C0 := RX5) (T := TX5) (NF := 15) (ref := RX5) (host := RX4) dX5_isStart_13 fr_Mwid rfl iX5_isStart_X5 (by decide) (List.mem_of_getElem? (i := 2) rfl) rfl ?_
    refine q_iload_n C dX5_isStart_16 rfl ?_
    refine x_ialdN C dX5_isStart_17 ia_Mwid (by decide) (by omega) ?_
    refine q_top (show Value.int _ = Value.int _ from congrArg Value.int (hw)) ?_
    refine q_icmpgeN C (tgt := 80) dX5_isStart_18 (by decide) (by omega) (by omega) (fun c18 => ?_) (fun c18 => ?_)
    · exact absurd c18 (by omega)
    · refine q_iload_n C dX5_isStart_21 rfl ?_
      refine q_ifeq C (tgt := 72) dX5_isStart_22 (by decide) (fun c22 => ?_) (fun c22 => ?_)
      · refine q_iconst C (v := nI 0) dX5_isStart_72 (by decide) ?_
        refine q_istore_n C dX5_isStart_73 (by decide) rfl ?_
        refine q_iinc1 C dX5_isStart_74 rfl (by decide) rfl ?_
        refine q_goto C (tgt := 10) dX5_isStart_77 (by decide) ?_
        exact q_mask [true, true, true, true, true] (ih_k _ _ _ ⟨rfl, rfl, by
          first
          | exact Or.inr ⟨rfl, fun h => (kb_flag0 hf c22) ⟨h.1, fun j hj => h.2 j (by omega)⟩⟩
          | (refine Or.inl ⟨rfl, (kb_flag1 hf c22).1, fun j hj => ?_⟩
             by_cases e : j = k
             · subst e
               first | exact Or.inl c38 | exact Or.inr c65
             · exact (kb_flag1 hf c22).2 j (by omega))
          | (refine Or.inr ⟨rfl, fun h => ?_⟩
             rcases h.2 k (by omega) with q | q
             · exact c38 q
             · exact c65 q)⟩)
      · refine q_aload_n C dX5_isStart_25 rfl ?_
        refine x_getR C (ci := 5) (k := 10) (C0 := RX5) (T := TX5) (NF := 15) (ref := RX5) (host := RX4) dX5_isStart_26 fr_Mmus rfl iX5_isStart_X5 (by decide) (List.mem_of_getElem? (i := 3) rfl) rfl ?_
        refine q_bipush C (v := nI 6) dX5_isStart_29 (by decide) ?_
        refine q_iload_n C dX5_isStart_31 rfl ?_
        refine q_imulN C dX5_isStart_32 ?_
        refine q_iload C dX5_isStart_33 rfl ?_
        refine q_iaddN C dX5_isStart_35 ?_
        refine x_ialdN C dX5_isStart_36 ia_Mmus (by decide) (by omega) ?_
        refine q_top (show Value.int _ = Value.int _ from congrArg Value.int ((hmu k (by omega)).1)) ?_
        refine q_iconst C (v := nI 4) dX5_isStart_37 (by decide) ?_
        refine q_icmpeqN C (tgt := 68) dX5_isStart_38 (by decide) (by omega) (by omega) (fun c38 => ?_) (fun c38 => ?_)
        · refine q_iconst C (v := nI 1) dX5_isStart_68 (by decide) ?_
          refine q_goto C (tgt := 73) dX5_isStart_69 (by decide) ?_
          refine q_istore_n C dX5_isStart_73 (by decide) rfl ?_
          refine q_iinc1 C dX5_isStart_74 rfl (by decide) rfl ?_
          refine q_goto C (tgt := 10) dX5_isStart_77 (by decide) ?_
          exact q_mask [true, true, true, true, true] (ih_k _ _ _ ⟨rfl, rfl, by
            first
            | exact Or.inr ⟨rfl, fun h => (kb_flag0 hf c22) ⟨h.1, fun j hj => h.2 j (by omega)⟩⟩
            | (refine Or.inl ⟨rfl, (kb_flag1 hf c22).1, fun j hj => ?_⟩
               by_cases e : j = k
               · subst e
                 first | exact Or.inl c38 | exact Or.inr c65
               · exact (kb_flag1 hf c22).2 j (by omega))
            | (refine Or.inr ⟨rfl, fun h => ?_⟩
               rcases h.2 k (by omega) with q | q
               · exact c38 q
               · exact c65 q)⟩)
        · refine q_aload_n C dX5_isStart_41 rfl ?_
          refine x_getR C (ci := 5) (k := 10) (C0 := RX5) (T := TX5) (NF := 15) (ref := RX5) (host := RX4) dX5_isStart_42 fr_Mmus rfl iX5_isStart_X5 (by decide) (List.mem_of_getElem? (i := 3) rfl) rfl ?_
          refine q_bipush C (v := nI 6) dX5_isStart_45 (by decide) ?_
          refine q_iload_n C dX5_isStart_47 rfl ?_
          refine q_imulN C dX5_isStart_48 ?_
          refine q_iload C dX5_isStart_49 rfl ?_
          refine q_iaddN C dX5_isStart_51 ?_
          refine x_ialdN C dX5_isStart_52 ia_Mmus (by decide) (by omega) ?_
          refine q_top (show Value.int _ = Value.int _ from congrArg Value.int ((hmu k (by omega)).1)) ?_
          refine q_aload_n C dX5_isStart_53 rfl ?_
          refine x_getR C (ci := 5) (k := 7) (C0 := RX5) (T := TX5) (NF := 15) (ref := RX5) (host := RX4) dX5_isStart_54 fr_Mwid rfl iX5_isStart_X5 (by decide) (List.mem_of_getElem? (i := 2) rfl) rfl ?_
          refine q_iload_n C dX5_isStart_57 rfl ?_
          refine x_ialdN C dX5_isStart_58 ia_Mwid (by decide) (by omega) ?_
          refine q_top (show Value.int _ = Value.int _ from congrArg Value.int (hw)) ?_
          refine q_iload_n C dX5_isStart_59 rfl ?_
          refine q_iload C dX5_isStart_60 rfl ?_
          refine q_callS (As := [_, _, _]) (nA := 3) C dX5_isStart_62 (m_digit _ _ _ _ _ _) gX5_isStart_X5_digit rfl (by decide +kernel) rfl ⟨Nat.le_of_ble_eq_true rfl, Nat.le_of_ble_eq_true rfl⟩ (Nat.le_of_ble_eq_true rfl) ⟨Nat.le_of_ble_eq_true rfl, Nat.le_of_ble_eq_true rfl⟩ (fun v62 g62 h62 => ?_)
          obtain ⟨rfl, rfl⟩ := h62
          refine q_top (show Value.int _ = Value.int _ from congrArg Value.int (nv_digit hn hs hk_k)) ?_
          refine q_icmpneN C (tgt := 72) dX5_isStart_65 (by decide) (by omega) (by omega) (fun c65 => ?_) (fun c65 => ?_)
          · refine q_iconst C (v := nI 0) dX5_isStart_72 (by decide) ?_
            refine q_istore_n C dX5_isStart_73 (by decide) rfl ?_
            refine q_iinc1 C dX5_isStart_74 rfl (by decide) rfl ?_
            refine q_goto C (tgt := 10) dX5_isStart_77 (by decide) ?_
            exact q_mask [true, true, true, true, true] (ih_k _ _ _ ⟨rfl, rfl, by
              first
              | exact Or.inr ⟨rfl, fun h => (kb_flag0 hf c22) ⟨h.1, fun j hj => h.2 j (by omega)⟩⟩
              | (refine Or.inl ⟨rfl, (kb_flag1 hf c22).1, fun j hj => ?_⟩
                 by_cases e : j = k
                 · subst e
                   first | exact Or.inl c38 | exact Or.inr c65
                 · exact (kb_flag1 hf c22).2 j (by omega))
              | (refine Or.inr ⟨rfl, fun h => ?_⟩
                 rcases h.2 k (by omega) with q | q
                 · exact c38 q
                 · exact c65 q)⟩)
          · refine q_iconst C (v := nI 1) dX5_isStart_68 (by decide) ?_
            refine q_goto C (tgt := 73) dX5_isStart_69 (by decide) ?_
            refine q_istore_n C dX5_isStart_73 (by decide) rfl ?_
            refine q_iinc1 C dX5_isStart_74 rfl (by decide) rfl ?_
            refine q_goto C (tgt := 10) dX5_isStart_77 (by decide) ?_
            exact q_mask [true, true, true, true, true] (ih_k _ _ _ ⟨rfl, rfl, by
              first
              | exact Or.inr ⟨rfl, fun h => (kb_flag0 hf c22) ⟨h.1, fun j hj => h.2 j (by omega)⟩⟩
              | (refine Or.inl ⟨rfl, (kb_flag1 hf c22).1, fun j hj => ?_⟩
                 by_cases e : j = k
                 · subst e
                   first | exact Or.inl c38 | exact Or.inr c65
                 · exact (kb_flag1 hf c22).2 j (by omega))
              | (refine Or.inr ⟨rfl, fun h => ?_⟩
                 rcases h.2 k (by omega) with q | q
                 · exact c38 q
                 · exact c65 q)⟩)
  · intro f X1 Y1 hI_k
    obtain ⟨rfl, rfl, hf⟩ := hI_k
    refine q_iload C dX5_isStart_10 rfl ?_
    refine q_aload_n C dX5_isStart_12 rfl ?_
    refine x_getR C (ci := 5) (k := 7) (C0 := RX5) (T := TX5) (NF := 15) (ref := RX5) (host := RX4) dX5_isStart_13 fr_Mwid rfl iX5_isStart_X5 (by decide) (List.mem_of_getElem? (i := 2) rfl) rfl ?_
    refine q_iload_n C dX5_isStart_16 rfl ?_
    refine x_ialdN C dX5_isStart_17 ia_Mwid (by decide) (by omega) ?_
    refine q_top (show Value.int _ = Value.int _ from congrArg Value.int (hw)) ?_
    refine q_icmpgeN C (tgt := 80) dX5_isStart_18 (by decide) (by omega) (by omega) (fun c18 => ?_) (fun c18 => ?_)
    · refine q_iload_n C dX5_isStart_80 rfl ?_
      exact q_zret C dX5_isStart_81 (by rcases hf with h | h <;> rw [h.1] <;> decide) ⟨_, rfl, hf, rfl⟩
    · exact absurd c18 (by omega)

/-! ===== Long.bitCount, Standings.countShared ===== -/
theorem kb_enterL {l : Launch} {E : kb_E} {N : Nat} {y : MethodName} {ws ws' : List Cond} {rm : Room} {x : Int64} {g : Nat → va_E} {post : Option Value → (Nat → va_E) → Prop} {cc : ByteArray} {ret : Option FieldType} (hy : plainName y.cls = true) (hw : ws = Cond.code y cc 2 ret :: ws')
    (body : ∀ (p : Program) (e : Env) (s : State) (m : MethodId) (args : Array Value) (below : List Frame) (meth : Method) (c : Code), kb_C l E (kb_A E N s.heap.size) cc 2 y.cls ws ret p s m args meth c →
      kb_G p l e rm s m args below meth c E (kb_A E N s.heap.size) N 2 g 0 0 (MQ below (kb_Qc E N s.heap.size post) args s rm.cells rm.slots (kb_A E N s.heap.size)) 0 [some (.long x), none] []) : kb_Met l E N y ws rm [.long x] g post := by
  intro sz
  refine Met.ofW (cc := cc) (maxL := 2) (ret := ret) hy hw ?_
  intro p e s m args below meth c s₁ B hml hv
  obtain ⟨rfl, hp⟩ := hv
  have hsz := hp.1
  subst hsz
  rw [lg_entry_eq]
  exact body p e s m _ below meth c (kb_cx B hml hp) s.heap [] _ ⟨hp.2.1.1, kb_D_A hp.2.1.2⟩ va_S.rf (kb_L.of (lv_entry [.long x] (Nat.le_of_ble_eq_true rfl)) (fun i v hv => by
    rcases i with _ | _ | i
    · simp at hv; subst hv; exact List.mem_cons_self
    · simp at hv
    · simp at hv))
theorem kb_nI_mod (n : Nat) : nI n = nI (n % 2 ^ 32) := by
  apply Int32.toBitVec_inj.mp
  show BitVec.ofNat 32 n = BitVec.ofNat 32 (n % 2 ^ 32)
  apply BitVec.eq_of_toNat_eq
  rw [BitVec.toNat_ofNat, BitVec.toNat_ofNat, Nat.mod_mod]
def kb_sr (x : Int64) (k : Nat) : Int64 := (x.toUInt64 >>> ((nI k).toInt64.toUInt64 &&& Int64.toUInt64 63)).toInt64
def kb_q1 (z : Int64) : Int64 := z - (kb_sr z 1 &&& 6148914691236517205)
def kb_q2 (z : Int64) : Int64 := (z &&& 3689348814741910323) + (kb_sr z 2 &&& 3689348814741910323)
def kb_q3 (z : Int64) : Int64 := (z + kb_sr z 4) &&& 1085102592571150095
def kb_q4 (z : Int64) (k : Nat) : Int64 := z + kb_sr z k
theorem kb_popI (x : Int64) : ((kb_q4 (kb_q4 (kb_q4 (kb_q3 (kb_q2 (kb_q1 x))) 8) 16) 32).toInt32 &&& nI 127) = nI (kb_bc x) := by
  obtain ⟨n, hn, rfl⟩ := wb_of x
  have hbc : kb_bc (lN n) = kb_pc (fun i => n.testBit i) 64 := kb_pc_congr (fun i _ => kb_bit_lN hn i)
  have k1 : (6148914691236517205 : Int64) = lN (kb_mk 0x55 8) := by decide +kernel
  have k2 : (3689348814741910323 : Int64) = lN (kb_mk 0x33 8) := by decide +kernel
  have k3 : (1085102592571150095 : Int64) = lN (kb_mk 0x0f 8) := by decide +kernel
  have m1 : kb_mk 0x55 8 < 2 ^ 64 := by decide +kernel
  have m2 : kb_mk 0x33 8 < 2 ^ 62 := by decide +kernel
  have m3 : kb_mk 0x0f 8 < 2 ^ 61 := by decide +kernel
  rw [hbc]
  have f1 : kb_q1 (lN n) = lN (kb_s1 8 n) := by
    unfold kb_q1 kb_sr
    rw [k1, wb_shr hn (by decide), wb_and (by omega) m1, lN_sub]
    · rfl
    · exact Nat.le_trans Nat.and_le_left (by omega)
  rw [f1]
  obtain ⟨a, ha⟩ : ∃ a, a = kb_s1 8 n := ⟨_, rfl⟩
  have la : a < 2 ^ 64 := by rw [ha]; unfold kb_s1; omega
  rw [← ha]
  have f2 : kb_q2 (lN a) = lN (kb_s2 8 a) := by
    unfold kb_q2 kb_sr
    rw [k2, wb_shr la (by decide), wb_and la (by omega), wb_and (a := a / 2 ^ 2) (by omega) (by omega), lN_add]
    rfl
  rw [f2]
  obtain ⟨b, hb⟩ : ∃ b, b = kb_s2 8 a := ⟨_, rfl⟩
  have lb : b < 2 ^ 63 := by
    rw [hb]; unfold kb_s2
    have h1 : a &&& kb_mk 0x33 8 ≤ kb_mk 0x33 8 := Nat.and_le_right
    have h2 : a / 4 &&& kb_mk 0x33 8 ≤ kb_mk 0x33 8 := Nat.and_le_right
    omega
  rw [← hb]
  have f3 : kb_q3 (lN b) = lN (kb_s3 8 b) := by
    unfold kb_q3 kb_sr
    rw [k3, wb_shr (by omega) (by decide), lN_add, wb_and (by omega) (by omega)]
    rfl
  rw [f3]
  obtain ⟨c, hc⟩ : ∃ c, c = kb_s3 8 b := ⟨_, rfl⟩
  rw [← hc]
  obtain ⟨h1, h2, h3, h4⟩ := kb_pop_end hn c (by rw [hc, hb, ha])
  unfold kb_q4 kb_sr
  rw [wb_shr (k := 8) (by omega) (by decide), lN_add, wb_shr (k := 16) (by omega) (by decide), lN_add, wb_shr (k := 32) (by omega) (by decide), lN_add, lN_i, kb_nI_mod, pk_andN (Nat.mod_lt _ (by decide)) 7 (by decide), Nat.mod_mod_of_dvd _ (by decide : 2 ^ 7 ∣ 2 ^ 32), ← h4]
set_option maxRecDepth 100000 in
set_option maxHeartbeats 4000000 in
/-- Long.bitCount -/
theorem m_bitCount (l : Launch) (E : kb_E) (X : Nat → Nat → Int32) (Y : Nat → Nat → Int64) (x : Int64) : kb_Met l E 202 yJ13_bitCount_95d88 wsJ13_bitCount_95d88 ({ frames := 0, cells := 0, slots := 0, locals := 0 }) [.long x] (kb_ent E X Y) (fun v g' => v = some (.int (nI (kb_bc x))) ∧ g' = kb_ent E X Y) := by
  refine kb_enterL (cc := cJ13_bitCount_95d88) (ret := (some .int)) (by decide +kernel) rfl ?_
  intro p e s m args below meth c C
  refine q_lload_n C dJ13_bitCount_95d88_0 rfl ?_
  refine q_lload_n C dJ13_bitCount_95d88_1 rfl ?_
  refine q_iconst C (v := nI 1) dJ13_bitCount_95d88_2 (by decide) ?_
  refine q_lushr C dJ13_bitCount_95d88_3 ?_
  refine q_ldc2 C dJ13_bitCount_95d88_4 (List.mem_of_getElem? (i := 1) rfl) ?_
  refine q_land C dJ13_bitCount_95d88_7 ?_
  refine q_lsub C dJ13_bitCount_95d88_8 ?_
  refine q_lstore_n C dJ13_bitCount_95d88_9 (by decide) rfl ?_
  refine q_lload_n C dJ13_bitCount_95d88_10 rfl ?_
  refine q_ldc2 C dJ13_bitCount_95d88_11 (List.mem_of_getElem? (i := 2) rfl) ?_
  refine q_land C dJ13_bitCount_95d88_14 ?_
  refine q_lload_n C dJ13_bitCount_95d88_15 rfl ?_
  refine q_iconst C (v := nI 2) dJ13_bitCount_95d88_16 (by decide) ?_
  refine q_lushr C dJ13_bitCount_95d88_17 ?_
  refine q_ldc2 C dJ13_bitCount_95d88_18 (List.mem_of_getElem? (i := 2) rfl) ?_
  refine q_land C dJ13_bitCount_95d88_21 ?_
  refine q_ladd C dJ13_bitCount_95d88_22 ?_
  refine q_lstore_n C dJ13_bitCount_95d88_23 (by decide) rfl ?_
  refine q_lload_n C dJ13_bitCount_95d88_24 rfl ?_
  refine q_lload_n C dJ13_bitCount_95d88_25 rfl ?_
  refine q_iconst C (v := nI 4) dJ13_bitCount_95d88_26 (by decide) ?_
  refine q_lushr C dJ13_bitCount_95d88_27 ?_
  refine q_ladd C dJ13_bitCount_95d88_28 ?_
  refine q_ldc2 C dJ13_bitCount_95d88_29 (List.mem_of_getElem? (i := 3) rfl) ?_
  refine q_land C dJ13_bitCount_95d88_32 ?_
  refine q_lstore_n C dJ13_bitCount_95d88_33 (by decide) rfl ?_
  refine q_lload_n C dJ13_bitCount_95d88_34 rfl ?_
  refine q_lload_n C dJ13_bitCount_95d88_35 rfl ?_
  refine q_bipush C (v := nI 8) dJ13_bitCount_95d88_36 (by decide) ?_
  refine q_lushr C dJ13_bitCount_95d88_38 ?_
  refine q_ladd C dJ13_bitCount_95d88_39 ?_
  refine q_lstore_n C dJ13_bitCount_95d88_40 (by decide) rfl ?_
  refine q_lload_n C dJ13_bitCount_95d88_41 rfl ?_
  refine q_lload_n C dJ13_bitCount_95d88_42 rfl ?_
  refine q_bipush C (v := nI 16) dJ13_bitCount_95d88_43 (by decide) ?_
  refine q_lushr C dJ13_bitCount_95d88_45 ?_
  refine q_ladd C dJ13_bitCount_95d88_46 ?_
  refine q_lstore_n C dJ13_bitCount_95d88_47 (by decide) rfl ?_
  refine q_lload_n C dJ13_bitCount_95d88_48 rfl ?_
  refine q_lload_n C dJ13_bitCount_95d88_49 rfl ?_
  refine q_bipush C (v := nI 32) dJ13_bitCount_95d88_50 (by decide) ?_
  refine q_lushr C dJ13_bitCount_95d88_52 ?_
  refine q_ladd C dJ13_bitCount_95d88_53 ?_
  refine q_lstore_n C dJ13_bitCount_95d88_54 (by decide) rfl ?_
  refine q_lload_n C dJ13_bitCount_95d88_55 rfl ?_
  refine q_l2i C dJ13_bitCount_95d88_56 ?_
  refine q_bipush C (v := nI 127) dJ13_bitCount_95d88_57 (by decide) ?_
  refine q_iand C dJ13_bitCount_95d88_59 ?_
  exact q_iret C dJ13_bitCount_95d88_60 ⟨congrArg (fun z => some (Value.int z)) (kb_popI x), rfl⟩
theorem kb_bc_le (x : Int64) : kb_bc x ≤ 64 := by
  have : ∀ (f : Nat → Bool) k, kb_pc f k ≤ k := by
    intro f k
    induction k with
    | zero => exact Nat.le_refl _
    | succ k ih => unfold kb_pc; split <;> omega
  exact this _ 64
theorem kb_ct_word {f g : Nat → Int64} (w : Nat) : ∀ k, k ≤ 64 → kb_ct (kb_both f g) (64 * w + k) = kb_ct (kb_both f g) (64 * w) + kb_pc (fun i => kb_bit (f w &&& g w) i) k
  | 0, _ => rfl
  | k + 1, hk => by
    show kb_ct (kb_both f g) (64 * w + k) + _ = _ + (kb_pc _ k + _)
    rw [kb_ct_word w k (by omega), Nat.add_assoc]
    congr 2
    have e1 : (64 * w + k) / 64 = w := by omega
    have e2 : (64 * w + k) % 64 = k := by omega
    have e : kb_b (kb_both f g (64 * w + k)) = kb_bit (f w &&& g w) k := by
      rw [kb_bit_and]
      have hp : kb_both f g (64 * w + k) ↔ (kb_bit (f w) k && kb_bit (g w) k) = true := by
        unfold kb_both kb_has
        rw [e1, e2, Bool.and_eq_true]
      cases q : (kb_bit (f w) k && kb_bit (g w) k) with
      | true => exact kb_b_t (hp.mpr q)
      | false => exact kb_b_f (fun z => by rw [hp.mp z] at q; cases q)
    exact congrArg (fun z => if z = true then 1 else 0) e
theorem iX3_countShared_X3 : ∀ w ∈ wsX30, w ∈ wsX3_countShared := fun _ h => List.mem_cons_of_mem _ (by first | exact h | exact List.mem_append_right _ h | exact List.mem_append_left _ (List.mem_append_right _ h) | exact List.mem_append_left _ (List.mem_append_left _ (List.mem_append_right _ h)) | exact List.mem_append_left _ (List.mem_append_left _ (List.mem_append_left _ (List.mem_append_right _ h))) | exact List.mem_append_left _ (List.mem_append_left _ (List.mem_append_left _ (List.mem_append_left _ (List.mem_append_right _ h)))) | exact List.mem_append_left _ (List.mem_append_left _ (List.mem_append_left _ (List.mem_append_left _ (List.mem_append_left _ (List.mem_append_right _ h))))))
set_option maxRecDepth 100000 in
set_option maxHeartbeats 4000000 in
/-- X3.countShared -/
theorem m_countShared (l : Launch) (E : kb_E) (X : Nat → Nat → Int32) (Y : Nat → Nat → Int64) (n mm : Nat) (hS : kb_SN n) (hM : kb_SN mm) : kb_Met l E 202 yX3_countShared wsX3_countShared ({ frames := 1, cells := 0, slots := 0, locals := 21 }) [.ref (E.2.2.2 n), .ref (E.2.2.2 mm)] (kb_ent E X Y) (fun v g' => v = some (.int (nI (kb_ct (kb_both (Y (n + 1)) (Y (mm + 1))) 4096))) ∧ g' = kb_ent E X Y) := by
  refine kb_enter (cc := cX3_countShared) (maxL := 4) (ret := (some .int)) (by decide +kernel) rfl (by simp [Value.category]) (Nat.le_of_ble_eq_true rfl) ?_
  intro p e s m args below meth c C hini
  refine q_iconst C (v := nI 0) dX3_countShared_0 (by decide) ?_
  refine q_istore_n C dX3_countShared_1 (by decide) rfl ?_
  refine q_iconst C (v := nI 0) dX3_countShared_2 (by decide) ?_
  refine q_istore_n C dX3_countShared_3 (by decide) rfl ?_
  refine q_mask [true, true, true, true] (q_for (σ := Unit) (k0 := 0) (64) (fun k _ X' Y' => X = X' ∧ Y = Y') (fun k _ => [some (.ref (E.2.2.2 (n))), some (.ref (E.2.2.2 (mm))), some (.int (nI (kb_ct (kb_both (Y (n + 1)) (Y (mm + 1))) (64 * k)))), some (.int (nI k))]) (Nat.zero_le _) () (⟨rfl, rfl⟩) ?_ ?_)
  · intro w0 a X1 Y1 hk_w0 hk0_w0 hI_w0 ih_w0
    obtain ⟨rfl, rfl⟩ := hI_w0
    refine q_iload_n C dX3_countShared_4 rfl ?_
    refine q_bipush C (v := nI 64) dX3_countShared_5 (by decide) ?_
    refine q_icmpgeN C (tgt := 35) dX3_countShared_7 (by decide) (by omega) (by omega) (fun c7 => ?_) (fun c7 => ?_)
    · exact absurd c7 (by omega)
    · refine q_iload_n C dX3_countShared_10 rfl ?_
      refine q_aload_n C dX3_countShared_11 rfl ?_
      refine x_getR C (ci := 3) (k := 0) (C0 := RX3) (T := TX3) (NF := 1) (ref := RX3) (host := RX4) dX3_countShared_12 (fr_Swords hS) rfl iX3_countShared_X3 (by decide) (List.mem_of_getElem? (i := 1) rfl) rfl ?_
      refine q_iload_n C dX3_countShared_15 rfl ?_
      refine x_laldN C dX3_countShared_16 (la_Swords hS) (by decide) (by omega) ?_
      refine q_aload_n C dX3_countShared_17 rfl ?_
      refine x_getR C (ci := 3) (k := 0) (C0 := RX3) (T := TX3) (NF := 1) (ref := RX3) (host := RX4) dX3_countShared_18 (fr_Swords hM) rfl iX3_countShared_X3 (by decide) (List.mem_of_getElem? (i := 1) rfl) rfl ?_
      refine q_iload_n C dX3_countShared_21 rfl ?_
      refine x_laldN C dX3_countShared_22 (la_Swords hM) (by decide) (by omega) ?_
      refine q_land C dX3_countShared_23 ?_
      refine q_callS (As := [_]) (nA := 1) C dX3_countShared_24 (m_bitCount _ _ _ _ _) gX3_countShared_J13_bitCount_95d88 rfl (by decide +kernel) rfl ⟨Nat.le_of_ble_eq_true rfl, Nat.le_of_ble_eq_true rfl⟩ (Nat.le_of_ble_eq_true rfl) ⟨Nat.le_of_ble_eq_true rfl, Nat.le_of_ble_eq_true rfl⟩ (fun v24 g24 h24 => ?_)
      obtain ⟨rfl, rfl⟩ := h24
      refine q_iaddN C dX3_countShared_27 ?_
      refine q_istore_n C dX3_countShared_28 (by decide) rfl ?_
      refine q_iinc1 C dX3_countShared_29 rfl (by decide) rfl ?_
      refine q_goto C (tgt := 4) dX3_countShared_32 (by decide) ?_
      have ih9 := ih_w0 () X Y ⟨rfl, rfl⟩
      have ec : (kb_ct (kb_both (Y (n + 1)) (Y (mm + 1))) (64 * (w0 + 1))) = (kb_ct (kb_both (Y (n + 1)) (Y (mm + 1))) (64 * w0)) + kb_bc (Y (n + 1) w0 &&& Y (mm + 1) w0) := by rw [show 64 * (w0 + 1) = 64 * w0 + 64 by omega, kb_ct_word w0 64 (Nat.le_refl _)]; rfl
      rw [ec] at ih9
      exact q_mask [true, true, true, true] ih9
  · intro a X1 Y1 hI_w0
    obtain ⟨rfl, rfl⟩ := hI_w0
    refine q_iload_n C dX3_countShared_4 rfl ?_
    refine q_bipush C (v := nI 64) dX3_countShared_5 (by decide) ?_
    refine q_icmpgeN C (tgt := 35) dX3_countShared_7 (by decide) (by omega) (by omega) (fun c7 => ?_) (fun c7 => ?_)
    · refine q_iload_n C dX3_countShared_35 rfl ?_
      exact q_iret C dX3_countShared_36 ⟨rfl, rfl⟩
    · exact absurd c7 (by omega)

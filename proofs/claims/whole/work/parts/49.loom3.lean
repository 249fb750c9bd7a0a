/-! ===== Loom.workOut ===== -/
/-- row and knot of the knot that is number z through all rows -/
def kb_rk (n : Nat) : Nat → Nat → Nat × Nat
  | 0, z => (0, z)
  | R + 1, z => if kb_kc n R ≤ z then (R, z - kb_kc n R) else kb_rk n R z
theorem kb_rk_at : ∀ n, n < 7 → ∀ r, r < 16 → ∀ k, k < 3 → k < kb_kn n r → kb_rk n 16 (kb_kc n r + k) = (r, k) := by decide +kernel
def kb_rkc (n R z : Nat) : Bool := !(decide (z < kb_kc n R)) || (decide ((kb_rk n 16 z).1 < R) && (decide ((kb_rk n 16 z).2 < kb_kn n (kb_rk n 16 z).1) && decide (kb_kc n (kb_rk n 16 z).1 + (kb_rk n 16 z).2 = z)))
theorem kb_rkc_ok : ∀ n, n < 7 → ∀ R, R < 17 → ∀ z, z < 40 → kb_rkc n R z = true := by decide +kernel
theorem kb_rk_in (n : Nat) (hn : n < 7) (R : Nat) (hR : R < 17) (z : Nat) (hz : z < 40) (h : z < kb_kc n R) : (kb_rk n 16 z).1 < R ∧ (kb_rk n 16 z).2 < kb_kn n (kb_rk n 16 z).1 ∧ kb_kc n (kb_rk n 16 z).1 + (kb_rk n 16 z).2 = z := by
  have := kb_rkc_ok n hn R hR z hz
  unfold kb_rkc at this
  rw [decide_eq_true h, Bool.not_true, Bool.false_or, Bool.and_eq_true, Bool.and_eq_true, decide_eq_true_iff, decide_eq_true_iff, decide_eq_true_iff] at this
  exact this
def kb_lq (n z : Nat) : Nat := kb_lf (kb_rk n 16 z).1 (kb_rk n 16 z).2
def kb_wq (n : Nat) (told : Nat → Nat → Nat) (z : Nat) : Nat := told (kb_rk n 16 z).1 (kb_rk n 16 z).2
def kb_nq (n z : Nat) : Nat := 8 * (kb_rk n 16 z).1 + (kb_rk n 16 z).2
/-- the first colours that are told, on six places -/
def kb_S0 (mu : Nat → Nat) (k s : Nat) : Prop := ∀ j, j < k → mu j = 4 ∨ mu j = kb_dg 6 s j
/-- the set ahead of knot z -/
def kb_Az (n h : Nat) (told : Nat → Nat → Nat) (z s : Nat) : Prop := kb_AH (kb_lq n) (kb_wq n told) z (kb_kc n h - z) s
def kb_St (n h : Nat) (told : Nat → Nat → Nat) (mu : Nat → Nat) (s : Nat) : Prop := kb_S0 mu 6 s ∧ kb_Az n h told 0 s
noncomputable def kb_Lq (n h : Nat) (told : Nat → Nat → Nat) (mu : Nat → Nat) : List Nat := kb_ql (kb_qs (kb_lq n) (kb_wq n told) (kb_S0 mu 6) (kb_Az n h told)) (kb_nq n) (kb_kc n h)
theorem kb_ct_congr {P Q : Nat → Prop} : ∀ {N : Nat}, (∀ s, s < N → (P s ↔ Q s)) → kb_ct P N = kb_ct Q N
  | 0, _ => rfl
  | N + 1, h => by
    have e : kb_b (P N) = kb_b (Q N) := by rw [propext (h N (Nat.lt_succ_self _))]
    show kb_ct P N + (if kb_b (P N) then 1 else 0) = kb_ct Q N + (if kb_b (Q N) then 1 else 0)
    rw [e, kb_ct_congr (fun s hs => h s (by omega))]
theorem kb_ct_zero {P : Nat → Prop} : ∀ {N : Nat}, kb_ct P N = 0 ↔ ∀ s, s < N → ¬ P s
  | 0 => ⟨fun _ s hs => absurd hs (Nat.not_lt_zero _), fun _ => rfl⟩
  | N + 1 => by
    have e : kb_ct P (N + 1) = kb_ct P N + (if kb_b (P N) then 1 else 0) := rfl
    rw [e]
    constructor
    · intro h s hs hp
      have h1 : kb_ct P N = 0 := by omega
      rcases Nat.lt_or_ge s N with q | q
      · exact kb_ct_zero.mp h1 s q hp
      · have e2 : s = N := by omega
        subst e2
        rw [kb_b_t hp] at h
        simp at h
    · intro h
      rw [kb_b_f (h N (Nat.lt_succ_self _)), kb_ct_zero.mpr (fun s hs => h s (by omega))]
      rfl
theorem kb_fst_congr {P Q : Nat → Prop} {N : Nat} {r : Int32} (h : ∀ s, s < N → (P s ↔ Q s)) (hf : kb_fst P N r) : kb_fst Q N r := by
  rcases hf with ⟨s, h1, h2, h3, h4⟩ | ⟨h1, h2⟩
  · exact Or.inl ⟨s, h1, (h s h1).mp h2, fun t ht q => h3 t ht ((h t (by omega)).mpr q), h4⟩
  · exact Or.inr ⟨fun s hs q => h1 s hs ((h s hs).mpr q), h2⟩
theorem kb_ist_keep {f f' : Nat → Int64} {P : Nat → Prop} {p c : Nat} (hp : p < 6) (hc : c < 4) (h : kb_ist f P) (hf : ∀ j, j < 64 → f' j = f j &&& kb_hav j p c) : kb_ist f' (fun s => P s ∧ kb_dg 6 s p = c) := fun s hs => by
  rw [kb_has_keep hp hc hf hs, Bool.and_eq_true, h s hs, decide_eq_true_iff]
/-- suspectCount, startCount, firstStart laid down -/
def kb_p3 (X : Nat → Nat → Int32) (c : Nat) (a b : Int32) : Nat → Nat → Int32 := va_up (va_up (va_up X c (upd (X c) 9 (nI 0))) c (upd (va_up X c (upd (X c) 9 (nI 0)) c) 5 a)) c (upd (va_up (va_up X c (upd (X c) 9 (nI 0))) c (upd (va_up X c (upd (X c) 9 (nI 0)) c) 5 a) c) 6 b)
theorem kb_p3_ne {X : Nat → Nat → Int32} {c z : Nat} {a b : Int32} (h : z ≠ c) : kb_p3 X c a b z = X z := by simp [kb_p3, va_up, h]
theorem kb_p3_at {X : Nat → Nat → Int32} {c j : Nat} {a b : Int32} : kb_p3 X c a b c j = if j = 6 then b else if j = 5 then a else if j = 9 then nI 0 else X c j := by
  simp [kb_p3, va_up, upd]
/-- what the loom finds of picture q, as it stands in X -/
def kb_wk (q n h : Nat) (told : Nat → Nat → Nat) (mu : Nat → Nat) (X : Nat → Nat → Int32) : Prop :=
  X (148 + 5 * q) 5 = nI (kb_ct (kb_St n h told mu) 4096) ∧ kb_fst (kb_St n h told mu) 4096 (X (148 + 5 * q) 6) ∧
  (∀ s0, s0 < 4096 → X (148 + 5 * q) 6 = nI s0 → X (148 + 5 * q) 9 = nI 0 ∧ ∀ y, y < kb_kc n h → kb_kindIn (X (148 + 5 * q + 3) (kb_rk n 16 y).1) (nI (kb_rk n 16 y).2) = nI (kb_kz (kb_Az n h told) (kb_lq n) (kb_wq n told) s0 y)) ∧
  (kb_ct (kb_St n h told mu) 4096 = 0 → X (148 + 5 * q) 9 = nI (kb_Lq n h told mu).length ∧ ∀ i, i < (kb_Lq n h told mu).length → X (148 + 5 * q + 4) i = nI ((kb_Lq n h told mu).getD i 0))
/-- picture q is worked out in X', which is else as X -/
def kb_wout (q n h : Nat) (told : Nat → Nat → Nat) (mu : Nat → Nat) (X X' : Nat → Nat → Int32) : Prop :=
  (∀ z, z ≠ 3 → z ≠ 4 → z ≠ 5 → z ≠ 6 → z ≠ 148 + 5 * q → z ≠ 148 + 5 * q + 3 → z ≠ 148 + 5 * q + 4 → X' z = X z) ∧ X' (148 + 5 * q) 2 = X (148 + 5 * q) 2 ∧ X' (148 + 5 * q) 3 = X (148 + 5 * q) 3 ∧ X' (148 + 5 * q) 4 = nI 1 ∧ kb_wk q n h told mu X'
theorem iX1_workOut_X1 : ∀ w ∈ wsX10, w ∈ wsX1_workOut := fun _ h => List.mem_cons_of_mem _ (by first | exact h | exact List.mem_append_right _ h | exact List.mem_append_left _ (List.mem_append_right _ h) | exact List.mem_append_left _ (List.mem_append_left _ (List.mem_append_right _ h)) | exact List.mem_append_left _ (List.mem_append_left _ (List.mem_append_left _ (List.mem_append_right _ h))) | exact List.mem_append_left _ (List.mem_append_left _ (List.mem_append_left _ (List.mem_append_left _ (List.mem_append_right _ h)))) | exact List.mem_append_left _ (List.mem_append_left _ (List.mem_append_left _ (List.mem_append_left _ (List.mem_append_left _ (List.mem_append_right _ h))))))
theorem iX1_workOut_X2 : ∀ w ∈ wsX20, w ∈ wsX1_workOut := fun _ h => List.mem_cons_of_mem _ (by first | exact h | exact List.mem_append_right _ h | exact List.mem_append_left _ (List.mem_append_right _ h) | exact List.mem_append_left _ (List.mem_append_left _ (List.mem_append_right _ h)) | exact List.mem_append_left _ (List.mem_append_left _ (List.mem_append_left _ (List.mem_append_right _ h))) | exact List.mem_append_left _ (List.mem_append_left _ (List.mem_append_left _ (List.mem_append_left _ (List.mem_append_right _ h)))) | exact List.mem_append_left _ (List.mem_append_left _ (List.mem_append_left _ (List.mem_append_left _ (List.mem_append_left _ (List.mem_append_right _ h))))))
set_option maxRecDepth 100000 in
set_option maxHeartbeats 4000000 in
/-- X1.workOut -/
theorem m_workOut (l : Launch) (E : kb_E) (X : Nat → Nat → Int32) (Y : Nat → Nat → Int64) (q n h : Nat) (hq : q < 8) (hn : n ≤ 6) (hn2 : 2 ≤ n) (hh16 : h ≤ 16) (hth : X (148 + 5 * q) 2 = nI n) (hro : X (148 + 5 * q) 3 = nI h) (told : Nat → Nat → Nat) (htd : ∀ r, r < h → ∀ k, k < kb_kn n r → X (148 + 5 * q + 1) (3 * r + k) = nI (told r k) ∧ told r k ≤ 4) (mu : Nat → Nat) (hmu : ∀ j, j < 6 → X (148 + 5 * q + 2) j = nI (mu j) ∧ mu j ≤ 4) : kb_Met l E 202 yX1_workOut wsX1_workOut ({ frames := 4, cells := 0, slots := 0, locals := 95 }) [.ref (E.2.2.2 3), .ref (E.2.2.2 (148 + 5 * q))] (kb_ent E X Y) (fun v g' => v = none ∧ ∃ X' Y', g' = kb_ent E X' Y' ∧ kb_sL Y Y' ∧ kb_wout q n h told mu X X') := by
  refine kb_enter (cc := cX1_workOut) (maxL := 3) (ret := none) (by decide +kernel) rfl (by simp [Value.category]) (Nat.le_of_ble_eq_true rfl) ?_
  intro p e s m args below meth c C hini
  refine q_aload_n C dX1_workOut_0 rfl ?_
  refine q_aload_n C dX1_workOut_1 rfl ?_
  refine x_callV (As := [_]) (nA := 1) (T := TX1) (NF := 6) C dX1_workOut_2 ob_L rfl (m_listKnots _ _ X Y q n h hq hn hn2 hh16 hth hro) gX1_workOut_X1_listKnots rfl (by decide +kernel) rfl ⟨Nat.le_of_ble_eq_true rfl, Nat.le_of_ble_eq_true rfl⟩ (Nat.le_of_ble_eq_true rfl) ⟨Nat.le_of_ble_eq_true rfl, Nat.le_of_ble_eq_true rfl⟩ (fun v2 g2 h2 => ?_)
  obtain ⟨rfl, Xl, rfl, hL⟩ := h2
  have hK : (kb_kc n h) ≤ 40 := kb_kc_le n (by omega) h (by omega)
  have hin := kb_rk_in n (by omega) h (by omega)
  have hget : ∀ z, z < (kb_kc n h) → Xl 4 z = nI (kb_nq n z) ∧ Xl 5 z = nI (kb_lq n z) ∧ Xl 6 z = X (148 + 5 * q + 1) (3 * (kb_rk n 16 z).1 + (kb_rk n 16 z).2) := fun z hz => by
    obtain ⟨h1, h2, h3⟩ := hin z (by omega) hz
    have := hL.2.2 _ _ (Or.inl ⟨h1, h2⟩)
    rw [h3] at this
    exact this
  have hkn3 : ∀ z, z < (kb_kc n h) → (kb_rk n 16 z).2 < 3 := fun z hz => Nat.lt_of_lt_of_le (hin z (by omega) hz).2.1 (kb_kn_le hn)
  have hkc : Xl 3 3 = nI (kb_kc n h) := hL.2.1
  have hlf : ∀ z, z < (kb_kc n h) → Xl 5 z = nI (kb_lq n z) ∧ kb_lq n z < 5 := fun z hz => ⟨(hget z hz).2.1, by
    have := kb_lf_lt (hin z (by omega) hz).2.1
    show kb_lf _ _ < 5
    omega⟩
  have hwi : ∀ z, z < (kb_kc n h) → Xl 6 z = nI (kb_wq n told z) ∧ kb_wq n told z ≤ 4 := fun z hz => by
    have h1 := htd (kb_rk n 16 z).1 (hin z (by omega) hz).1 (kb_rk n 16 z).2 (hin z (by omega) hz).2.1
    exact ⟨(hget z hz).2.2.trans h1.1, h1.2⟩
  have hnm : ∀ z, z < (kb_kc n h) → Xl 4 z = nI (8 * (fun z => (kb_rk n 16 z).1) z + (fun z => (kb_rk n 16 z).2) z) ∧ (fun z => (kb_rk n 16 z).1) z < 16 ∧ (fun z => (kb_rk n 16 z).2) z < 3 := fun z hz => ⟨(hget z hz).1, by
    have := (hin z (by omega) hz).1
    show (kb_rk n 16 z).1 < 16
    omega, hkn3 z hz⟩
  have hinj : ∀ y z, y < (kb_kc n h) → z < (kb_kc n h) → (fun z => (kb_rk n 16 z).1) y = (fun z => (kb_rk n 16 z).1) z → (fun z => (kb_rk n 16 z).2) y = (fun z => (kb_rk n 16 z).2) z → y = z := fun y z hy hz h1 h2 => by
    dsimp only at h1 h2
    have e1 := (hin y (by omega) hy).2.2
    have e2 := (hin z (by omega) hz).2.2
    rw [h1, h2] at e1
    omega
  have hPl : ∀ j, Xl (148 + 5 * q) j = X (148 + 5 * q) j := fun j => by rw [hL.1 _ (by omega) (by omega) (by omega) (by omega)]
  have hmul : ∀ j, j < 6 → Xl (148 + 5 * q + 2) j = nI (mu j) ∧ mu j ≤ 4 := fun j hj => by rw [hL.1 _ (by omega) (by omega) (by omega) (by omega)]; exact hmu j hj
  refine q_aload_n C dX1_workOut_5 rfl ?_
  refine x_callV (As := []) (nA := 0) (T := TX1) (NF := 6) C dX1_workOut_6 ob_L rfl (m_workBackward _ _ Xl Y (kb_kc n h) hK (kb_lq n) (kb_wq n told) hkc hlf hwi) gX1_workOut_X1_workBackward rfl (by decide +kernel) rfl ⟨Nat.le_of_ble_eq_true rfl, Nat.le_of_ble_eq_true rfl⟩ (Nat.le_of_ble_eq_true rfl) ⟨Nat.le_of_ble_eq_true rfl, Nat.le_of_ble_eq_true rfl⟩ (fun v6 g6 h6 => ?_)
  obtain ⟨rfl, Yb, rfl, hYb, hAb⟩ := h6
  refine q_aload_n C dX1_workOut_9 rfl ?_
  refine x_getR C (ci := 1) (k := 5) (C0 := RX1) (T := TX1) (NF := 6) (ref := RX1) (host := RX4) dX1_workOut_10 fr_Lnow rfl iX1_workOut_X1 (by decide) (List.mem_of_getElem? (i := 1) rfl) rfl ?_
  refine x_callV (As := []) (nA := 0) (T := TX3) (NF := 1) C dX1_workOut_13 (ob_S kb_SN8) rfl (m_fill _ _ Xl Yb 8 kb_SN8) gX1_workOut_X3_fill rfl (by decide +kernel) rfl ⟨Nat.le_of_ble_eq_true rfl, Nat.le_of_ble_eq_true rfl⟩ (Nat.le_of_ble_eq_true rfl) ⟨Nat.le_of_ble_eq_true rfl, Nat.le_of_ble_eq_true rfl⟩ (fun v13 g13 h13 => ?_)
  obtain ⟨rfl, Yf, rfl, hf⟩ := h13
  refine q_iconst C (v := nI 0) dX1_workOut_16 (by decide) ?_
  refine q_istore_n C dX1_workOut_17 (by decide) rfl ?_
  refine q_mask [true, true, true] (q_for (σ := Unit) (k0 := 0) (6) (fun k _ X' Y' => Xl = X' ∧ kb_sL Y Y' ∧ (∀ z, z ≤ (kb_kc n h) → kb_ist (Y' (10 + 2 * z + 1)) (kb_Az n h told z)) ∧ kb_ist (Y' 9) (kb_S0 mu k)) (fun k _ => [some (.ref (E.2.2.2 3)), some (.ref (E.2.2.2 (148 + 5 * q))), some (.int (nI k))]) (Nat.zero_le _) () (⟨rfl, fun c hc => (hf.1 c (by omega)).trans (hYb c hc), fun z hz => by rw [hf.1 _ (by omega)]; exact hAb z hz, fun s hs => ⟨fun _ j hj => absurd hj (Nat.not_lt_zero _), fun _ => kb_has_fill hf.2 hs⟩⟩) ?_ ?_)
  · intro k a1 Xa Ya hk_k hk0_k hI_k ih_k
    obtain ⟨rfl, hIs, hIa, hIf⟩ := hI_k
    have hm1 := (hmul k hk_k).1
    have hm4 := (hmul k hk_k).2
    refine q_iload_n C dX1_workOut_18 rfl ?_
    refine q_bipush C (v := nI 6) dX1_workOut_19 (by decide) ?_
    refine q_icmpgeN C (tgt := 54) dX1_workOut_21 (by decide) (by omega) (by omega) (fun c21 => ?_) (fun c21 => ?_)
    · exact absurd c21 (by omega)
    · refine q_aload_n C dX1_workOut_24 rfl ?_
      refine x_getRN C (ci := 2) (k := 1) (C0 := RX2) (T := TX2) (NF := 10) (ref := RX2) (host := RX4) dX1_workOut_25 (fr_Pfir hq) rfl iX1_workOut_X2 (by decide) (by decide +kernel) rfl ?_
      refine q_iload_n C dX1_workOut_28 rfl ?_
      refine x_ialdN C dX1_workOut_29 (ia_Pfir hq) (by decide) (by omega) ?_
      refine q_top (show Value.int _ = Value.int _ from congrArg Value.int (hm1)) ?_
      refine q_iconst C (v := nI 4) dX1_workOut_30 (by decide) ?_
      refine q_icmpeqN C (tgt := 48) dX1_workOut_31 (by decide) (by omega) (by omega) (fun c31 => ?_) (fun c31 => ?_)
      · have hYn := hIs
        have hAn := hIa
        have hFn : kb_ist (Ya 9) (kb_S0 mu (k + 1)) := hIf.iff (fun s => ⟨fun u j hj => by
          by_cases e : j = k
          · subst e; exact Or.inl c31
          · exact u j (by omega), fun u j hj => u j (by omega)⟩)
        refine q_iinc1 C dX1_workOut_48 rfl (by decide) rfl ?_
        refine q_goto C (tgt := 18) dX1_workOut_51 (by decide) ?_
        exact q_mask [true, true, true] (ih_k () _ _ ⟨rfl, hYn, hAn, hFn⟩)
      · refine q_aload_n C dX1_workOut_34 rfl ?_
        refine x_getR C (ci := 1) (k := 5) (C0 := RX1) (T := TX1) (NF := 6) (ref := RX1) (host := RX4) dX1_workOut_35 fr_Lnow rfl iX1_workOut_X1 (by decide) (List.mem_of_getElem? (i := 1) rfl) rfl ?_
        refine q_iload_n C dX1_workOut_38 rfl ?_
        refine q_aload_n C dX1_workOut_39 rfl ?_
        refine x_getRN C (ci := 2) (k := 1) (C0 := RX2) (T := TX2) (NF := 10) (ref := RX2) (host := RX4) dX1_workOut_40 (fr_Pfir hq) rfl iX1_workOut_X2 (by decide) (by decide +kernel) rfl ?_
        refine q_iload_n C dX1_workOut_43 rfl ?_
        refine x_ialdN C dX1_workOut_44 (ia_Pfir hq) (by decide) (by omega) ?_
        refine q_top (show Value.int _ = Value.int _ from congrArg Value.int (hm1)) ?_
        refine x_callV (As := [_, _]) (nA := 2) (T := TX3) (NF := 1) C dX1_workOut_45 (ob_S kb_SN8) rfl (m_keep _ _ Xl _ 8 k (mu k) kb_SN8 hk_k (by omega)) gX1_workOut_X3_keep rfl (by decide +kernel) rfl ⟨Nat.le_of_ble_eq_true rfl, Nat.le_of_ble_eq_true rfl⟩ (Nat.le_of_ble_eq_true rfl) ⟨Nat.le_of_ble_eq_true rfl, Nat.le_of_ble_eq_true rfl⟩ (fun v45 g45 h45 => ?_)
        obtain ⟨rfl, Yk, rfl, h45s⟩ := h45
        have hYn : kb_sL Y Yk := fun c hc => (h45s.1 c (by omega)).trans (hIs c hc)
        have hAn : ∀ z, z ≤ (kb_kc n h) → kb_ist (Yk (10 + 2 * z + 1)) (kb_Az n h told z) := fun z hz => by rw [h45s.1 _ (by omega)]; exact hIa z hz
        have hFn : kb_ist (Yk 9) (kb_S0 mu (k + 1)) := (kb_ist_keep hk_k (by omega) hIf h45s.2).iff (fun s => ⟨fun u j hj => by
          by_cases e : j = k
          · subst e; exact Or.inr u.2.symm
          · exact u.1 j (by omega), fun u => ⟨fun j hj => u j (by omega), by
          rcases u k (Nat.lt_succ_self _) with z | z
          · exact absurd z c31
          · exact z.symm⟩⟩)
        refine q_iinc1 C dX1_workOut_48 rfl (by decide) rfl ?_
        refine q_goto C (tgt := 18) dX1_workOut_51 (by decide) ?_
        exact q_mask [true, true, true] (ih_k () _ _ ⟨rfl, hYn, hAn, hFn⟩)
  · intro a1 Xa Ya hI_k
    obtain ⟨rfl, hIs, hIa, hIf⟩ := hI_k
    refine q_iload_n C dX1_workOut_18 rfl ?_
    refine q_bipush C (v := nI 6) dX1_workOut_19 (by decide) ?_
    refine q_icmpgeN C (tgt := 54) dX1_workOut_21 (by decide) (by omega) (by omega) (fun c21 => ?_) (fun c21 => ?_)
    · have hboth : ∀ s, s < 4096 → (kb_both (Ya 9) (Ya 11) s ↔ kb_St n h told mu s) := fun s hs => by
        unfold kb_both kb_St
        rw [hIf s hs, hIa 0 (Nat.zero_le _) s hs]
      refine q_aload_n C dX1_workOut_54 rfl ?_
      refine q_iconst C (v := nI 0) dX1_workOut_55 (by decide) ?_
      refine x_putIN C (ci := 2) (k := 9) (C0 := RX2) (T := TX2) (NF := 10) (ref := RX2) (host := RX4) (ty := .int) dX1_workOut_56 (fi_Psuc hq) rfl iX1_workOut_X2 tyX2_ok nmX2 (by decide) (by decide +kernel) rfl rfl (by decide +kernel) rfl rfl ?_
      refine q_aload_n C dX1_workOut_59 rfl ?_
      refine q_aload_n C dX1_workOut_60 rfl ?_
      refine x_getR C (ci := 1) (k := 5) (C0 := RX1) (T := TX1) (NF := 6) (ref := RX1) (host := RX4) dX1_workOut_61 fr_Lnow rfl iX1_workOut_X1 (by decide) (List.mem_of_getElem? (i := 1) rfl) rfl ?_
      refine q_aload_n C dX1_workOut_64 rfl ?_
      refine x_getR C (ci := 1) (k := 4) (C0 := RX1) (T := TX1) (NF := 6) (ref := RX1) (host := RX4) dX1_workOut_65 fr_Lahead rfl iX1_workOut_X1 (by decide) (List.mem_of_getElem? (i := 2) rfl) rfl ?_
      refine q_iconst C (v := nI 0) dX1_workOut_68 (by decide) ?_
      refine x_aaldN C dX1_workOut_69 ra_Lahead rfl (by decide) (by omega) ?_
      refine x_callV (As := [_]) (nA := 1) (T := TX3) (NF := 1) C dX1_workOut_70 (ob_S kb_SN8) rfl (m_countShared _ _ _ Ya 8 (10 + 2 * 0) kb_SN8 (kb_SNa (by omega))) gX1_workOut_X3_countShared rfl (by decide +kernel) rfl ⟨Nat.le_of_ble_eq_true rfl, Nat.le_of_ble_eq_true rfl⟩ (Nat.le_of_ble_eq_true rfl) ⟨Nat.le_of_ble_eq_true rfl, Nat.le_of_ble_eq_true rfl⟩ (fun v70 g70 h70 => ?_)
      obtain ⟨rfl, rfl⟩ := h70
      refine x_putIN C (ci := 2) (k := 5) (C0 := RX2) (T := TX2) (NF := 10) (ref := RX2) (host := RX4) (ty := .int) dX1_workOut_73 (fi_Psta hq) rfl iX1_workOut_X2 tyX2_ok nmX2 (by decide) (by decide +kernel) rfl rfl (by decide +kernel) rfl rfl ?_
      refine q_aload_n C dX1_workOut_76 rfl ?_
      refine q_aload_n C dX1_workOut_77 rfl ?_
      refine x_getR C (ci := 1) (k := 5) (C0 := RX1) (T := TX1) (NF := 6) (ref := RX1) (host := RX4) dX1_workOut_78 fr_Lnow rfl iX1_workOut_X1 (by decide) (List.mem_of_getElem? (i := 1) rfl) rfl ?_
      refine q_aload_n C dX1_workOut_81 rfl ?_
      refine x_getR C (ci := 1) (k := 4) (C0 := RX1) (T := TX1) (NF := 6) (ref := RX1) (host := RX4) dX1_workOut_82 fr_Lahead rfl iX1_workOut_X1 (by decide) (List.mem_of_getElem? (i := 2) rfl) rfl ?_
      refine q_iconst C (v := nI 0) dX1_workOut_85 (by decide) ?_
      refine x_aaldN C dX1_workOut_86 ra_Lahead rfl (by decide) (by omega) ?_
      refine x_callV (As := [_]) (nA := 1) (T := TX3) (NF := 1) C dX1_workOut_87 (ob_S kb_SN8) rfl (m_firstShared _ _ _ Ya 8 (10 + 2 * 0) kb_SN8 (kb_SNa (by omega))) gX1_workOut_X3_firstShared rfl (by decide +kernel) rfl ⟨Nat.le_of_ble_eq_true rfl, Nat.le_of_ble_eq_true rfl⟩ (Nat.le_of_ble_eq_true rfl) ⟨Nat.le_of_ble_eq_true rfl, Nat.le_of_ble_eq_true rfl⟩ (fun v87 g87 h87 => ?_)
      obtain ⟨rr, rfl, hfr, rfl⟩ := h87
      refine x_putIN C (ci := 2) (k := 6) (C0 := RX2) (T := TX2) (NF := 10) (ref := RX2) (host := RX4) (ty := .int) dX1_workOut_90 (fi_Pfst hq) rfl iX1_workOut_X2 tyX2_ok nmX2 (by decide) (by decide +kernel) rfl rfl (by decide +kernel) rfl rfl ?_
      refine q_world (show _ = kb_ent E (kb_p3 Xl (148 + 5 * q) (nI (kb_ct (kb_both (Ya 9) (Ya 11)) 4096)) rr) Ya from rfl) ?_
      rw [kb_ct_congr hboth]
      have hrr := kb_fst_congr hboth hfr
      obtain ⟨X3, hX3⟩ : ∃ X3, X3 = kb_p3 Xl (148 + 5 * q) (nI (kb_ct (kb_St n h told mu) 4096)) rr := ⟨_, rfl⟩
      rw [← hX3]
      have h3 : ∀ z, z ≠ 148 + 5 * q → X3 z = Xl z := fun z hz => by rw [hX3]; exact kb_p3_ne hz
      have h35 : X3 (148 + 5 * q) 5 = nI (kb_ct (kb_St n h told mu) 4096) := by rw [hX3, kb_p3_at]; rfl
      have h36 : X3 (148 + 5 * q) 6 = rr := by rw [hX3, kb_p3_at]; rfl
      have h39 : X3 (148 + 5 * q) 9 = nI 0 := by rw [hX3, kb_p3_at]; rfl
      have h32 : X3 (148 + 5 * q) 2 = X (148 + 5 * q) 2 := by rw [hX3, kb_p3_at]; exact hPl 2
      have h33 : X3 (148 + 5 * q) 3 = X (148 + 5 * q) 3 := by rw [hX3, kb_p3_at]; exact hPl 3
      have hct := kb_ct_le (kb_St n h told mu) 4096
      refine q_aload_n C dX1_workOut_93 rfl ?_
      refine x_getIN C (ci := 2) (k := 5) (C0 := RX2) (T := TX2) (NF := 10) (ref := RX2) (host := RX4) dX1_workOut_94 (fi_Psta hq) rfl iX1_workOut_X2 (by decide) (by decide +kernel) rfl ?_
      refine q_top (show Value.int _ = Value.int _ from congrArg Value.int (h35)) ?_
      refine q_ifle C (tgt := 108) dX1_workOut_97 (by decide) (fun c97 => ?_) (fun c97 => ?_)
      · have hzero : kb_ct (kb_St n h told mu) 4096 = 0 := by
          have := (nI_leI (a := kb_ct (kb_St n h told mu) 4096) (b := 0) (by omega) (by omega)).mp c97
          omega
        refine q_aload_n C dX1_workOut_108 rfl ?_
        refine q_aload_n C dX1_workOut_109 rfl ?_
        refine x_callV (As := [_]) (nA := 1) (T := TX1) (NF := 6) C dX1_workOut_110 ob_L rfl (m_findSuspects _ _ X3 Ya q hq (kb_kc n h) hK (kb_lq n) (kb_wq n told) (by rw [h3 _ (by omega)]; exact hkc) (fun z hz => by rw [h3 _ (by omega)]; exact hlf z hz) (fun z hz => by rw [h3 _ (by omega)]; exact hwi z hz) (fun z => (kb_rk n 16 z).1) (fun z => (kb_rk n 16 z).2) (fun z hz => by rw [h3 _ (by omega)]; exact hnm z hz) (kb_Az n h told) hIa (kb_S0 mu 6) hIf h39) gX1_workOut_X1_findSuspects rfl (by decide +kernel) rfl ⟨Nat.le_of_ble_eq_true rfl, Nat.le_of_ble_eq_true rfl⟩ (Nat.le_of_ble_eq_true rfl) ⟨Nat.le_of_ble_eq_true rfl, Nat.le_of_ble_eq_true rfl⟩ (fun v110 g110 h110 => ?_)
        obtain ⟨rfl, Xc, Ys, rfl, hc, hYs⟩ := h110
        have hu : ∀ j, j ≠ 4 → j ≠ 9 → va_up Xc (148 + 5 * q) (upd (Xc (148 + 5 * q)) 4 (nI 1)) (148 + 5 * q) j = X3 (148 + 5 * q) j := fun j hj h9 => by rw [kb_up_self, upd, if_neg hj, hc.2.1 j h9]
        refine q_aload_n C dX1_workOut_113 rfl ?_
        refine q_iconst C (v := nI 1) dX1_workOut_114 (by decide) ?_
        refine x_putIN C (ci := 2) (k := 4) (C0 := RX2) (T := TX2) (NF := 10) (ref := RX2) (host := RX4) (ty := .boolean) dX1_workOut_115 (fi_Pwor hq) rfl iX1_workOut_X2 tyX2_ok nmX2 (by decide) (by decide +kernel) rfl rfl (by decide +kernel) (by decide) (by decide) ?_
        exact q_vret C dX1_workOut_118 ⟨rfl, _, _, rfl, fun c hc => (hYs c hc).trans (hIs c hc), ⟨fun z a1 a2 a3 a4 a5 a6 a7 => by rw [kb_up_ne a5, hc.1 z a5 a7, h3 z a5]; exact hL.1 z a1 a2 a3 a4, by rw [hu 2 (by decide) (by decide)]; exact h32, by rw [hu 3 (by decide) (by decide)]; exact h33, by rw [kb_up_self, upd, if_pos rfl], by rw [hu 5 (by decide) (by decide)]; exact h35, by rw [hu 6 (by decide) (by decide), h36]; exact hrr, fun t ht h6 => by
        rw [hu 6 (by decide) (by decide), h36] at h6
        rcases hrr with ⟨u, hu1, hu2, -, -⟩ | ⟨-, e9⟩
        · exact absurd hu2 (kb_ct_zero.mp hzero u hu1)
        · exact absurd (h6.symm.trans e9) (nI_ne_m1 (by omega)), fun _ => ⟨by rw [kb_up_self, upd, if_neg (by decide)]; exact hc.2.2.1, fun i hi => by rw [kb_up_ne (by omega)]; exact hc.2.2.2 i hi⟩⟩⟩
      · have hne : ¬ kb_ct (kb_St n h told mu) 4096 = 0 := fun e => c97 (by rw [e]; decide)
        obtain ⟨s0, hs0, es0⟩ : ∃ s0, s0 < 4096 ∧ rr = nI s0 := by
          rcases hrr with ⟨u, hu1, -, -, hu4⟩ | ⟨h9, -⟩
          · exact ⟨u, hu1, hu4⟩
          · exact absurd (kb_ct_zero.mpr h9) hne
        refine q_aload_n C dX1_workOut_100 rfl ?_
        refine q_aload_n C dX1_workOut_101 rfl ?_
        refine x_callV (As := [_]) (nA := 1) (T := TX1) (NF := 6) C dX1_workOut_102 ob_L rfl (m_chooseKinds _ _ X3 Ya q hq (kb_kc n h) hK (kb_lq n) (kb_wq n told) (by rw [h3 _ (by omega)]; exact hkc) (fun z hz => by rw [h3 _ (by omega)]; exact hlf z hz) (fun z hz => by rw [h3 _ (by omega)]; exact hwi z hz) (fun z => (kb_rk n 16 z).1) (fun z => (kb_rk n 16 z).2) (fun z hz => by rw [h3 _ (by omega)]; exact hnm z hz) hinj (kb_Az n h told) hIa s0 hs0 (h36.trans es0)) gX1_workOut_X1_chooseKinds rfl (by decide +kernel) rfl ⟨Nat.le_of_ble_eq_true rfl, Nat.le_of_ble_eq_true rfl⟩ (Nat.le_of_ble_eq_true rfl) ⟨Nat.le_of_ble_eq_true rfl, Nat.le_of_ble_eq_true rfl⟩ (fun v102 g102 h102 => ?_)
        obtain ⟨rfl, Xc, rfl, hc⟩ := h102
        refine q_goto C (tgt := 113) dX1_workOut_105 (by decide) ?_
        have hu : ∀ j, j ≠ 4 → va_up Xc (148 + 5 * q) (upd (Xc (148 + 5 * q)) 4 (nI 1)) (148 + 5 * q) j = X3 (148 + 5 * q) j := fun j hj => by rw [kb_up_self, upd, if_neg hj, hc.1 _ (by omega)]
        refine q_aload_n C dX1_workOut_113 rfl ?_
        refine q_iconst C (v := nI 1) dX1_workOut_114 (by decide) ?_
        refine x_putIN C (ci := 2) (k := 4) (C0 := RX2) (T := TX2) (NF := 10) (ref := RX2) (host := RX4) (ty := .boolean) dX1_workOut_115 (fi_Pwor hq) rfl iX1_workOut_X2 tyX2_ok nmX2 (by decide) (by decide +kernel) rfl rfl (by decide +kernel) (by decide) (by decide) ?_
        exact q_vret C dX1_workOut_118 ⟨rfl, _, _, rfl, hIs, ⟨fun z a1 a2 a3 a4 a5 a6 a7 => by rw [kb_up_ne a5, hc.1 z a6, h3 z a5]; exact hL.1 z a1 a2 a3 a4, by rw [hu 2 (by decide)]; exact h32, by rw [hu 3 (by decide)]; exact h33, by rw [kb_up_self, upd, if_pos rfl], by rw [hu 5 (by decide)]; exact h35, by rw [hu 6 (by decide), h36]; exact hrr, fun t ht h6 => ⟨by rw [hu 9 (by decide)]; exact h39, by
        rw [hu 6 (by decide), h36, es0] at h6
        have e9 : s0 = t := (nI_eq (by omega) (by omega)).mp h6
        subst e9
        intro y hy
        rw [kb_up_ne (by omega)]
        exact hc.2 y hy⟩, fun h0 => absurd h0 hne⟩⟩
    · exact absurd c21 (by omega)

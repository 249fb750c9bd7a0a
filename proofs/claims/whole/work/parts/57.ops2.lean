/-! ===== the steps that change a band ===== -/
/-- band b alone has changed -/
theorem kb_REL.upB {X X2 : Nat → Nat → Int32} (h : kb_REL X) {b : Nat} (hb : b < 8) (hn1 : kb_le (X2 188 1) 8) (h03 : X2 0 3 = X2 188 1) (h04 : X2 0 4 = X 0 4) (h2 : X2 188 2 = X 188 2) (hN : ∀ b', b' ≠ b → (b' < kb_tn (X2 188 1) ↔ b' < kb_tn (X 188 1)))
    (hc : ∀ b', b' < 8 → b' ≠ b → ∀ j, j < 3 → X2 (92 + 7 * b' + j) = X (92 + 7 * b' + j)) (hp : ∀ q, q < 8 → ∀ j, j < 5 → X2 (148 + 5 * q + j) = X (148 + 5 * q + j)) (hm : ∀ z, 193 ≤ z → z < 197 → X2 z = X z)
    (m1 : ∀ b', b' ≠ b → X2 189 b' = X 189 b') (m2 : ∀ b', b' ≠ b → X2 190 b' = X 190 b') (m3 : ∀ j, (j < 6 * b ∨ 6 * b + 6 ≤ j) → X2 191 j = X 191 j) (m4 : ∀ j, (j < 48 * b ∨ 48 * b + 48 ≤ j) → X2 192 j = X 192 j)
    (hbb : b < kb_tn (X2 188 1) → kb_le (X2 189 b) 6 ∧ 2 ≤ kb_tn (X2 189 b) ∧ kb_le (X2 190 b) 16) (hcol : ∀ t, t < 6 → kb_le (X2 191 (6 * b + t)) 3) (hkin : ∀ j, j < 48 → kb_le (X2 192 (48 * b + j)) 3) (hrb : kb_rb (kb_tn (X2 188 1)) X2 b) : kb_REL X2 := by
  obtain ⟨h0, ⟨g1, g2⟩, g3, g4⟩ := h
  have hMI : kb_MI X2 := by
    refine ⟨⟨hn1, by rw [h2]; exact h0.1.2⟩, fun b' hb' => ?_, fun q hq => ?_, fun q hq => ?_, ?_, ?_, ?_⟩
    · by_cases e : b' = b
      · rw [e]; exact hbb (e ▸ hb')
      · rw [m1 b' e, m2 b' e]
        exact h0.2.1 b' ((hN b' e).mp hb')
    · by_cases e : q < 6 * b ∨ 6 * b + 6 ≤ q
      · rw [m3 q e]; exact h0.2.2.1 q hq
      · have := hcol (q - 6 * b) (by omega)
        rwa [show 6 * b + (q - 6 * b) = q by omega] at this
    · by_cases e : q < 48 * b ∨ 48 * b + 48 ≤ q
      · rw [m4 q e]; exact h0.2.2.2.1 q hq
      · have := hkin (q - 48 * b) (by omega)
        rwa [show 48 * b + (q - 48 * b) = q by omega] at this
    · rw [h2, hm 193 (by decide) (by decide), hm 194 (by decide) (by decide)]
      exact h0.2.2.2.2.1
    · rw [hm 195 (by decide) (by decide)]
      exact h0.2.2.2.2.2.1
    · rw [hm 196 (by decide) (by decide)]
      exact h0.2.2.2.2.2.2
  refine ⟨hMI, ⟨h03, by rw [h04, h2, g2]⟩, fun b' hb' => ?_, fun q hq => ?_⟩
  · by_cases e : b' = b
    · rw [e]; exact hrb
    · have e0 := hc b' hb' e 0 (by decide)
      rw [Nat.add_zero] at e0
      exact (g3 b' hb').go (hN b' e) (fun z => h0.b16 z) (by rw [e0]) (by rw [e0]) (hc b' hb' e 1 (by decide)) (hc b' hb' e 2 (by decide)) (m1 b' e) (m2 b' e) (fun t ht => m3 _ (by omega)) (fun j hj => m4 _ (by omega))
  · rw [h2]
    have e0 := hp q hq 0 (by decide)
    rw [Nat.add_zero] at e0
    exact (g4 q hq).go Iff.rfl (fun z => h0.p16 z) e0 (hp q hq 1 (by decide)) (hp q hq 2 (by decide)) (hp q hq 3 (by decide)) (hp q hq 4 (by decide)) (by rw [hm _ (by decide) (by decide)]) (by rw [hm _ (by decide) (by decide)]) (fun _ _ => by rw [hm _ (by decide) (by decide)]) (fun _ _ => by rw [hm _ (by decide) (by decide)])
theorem kb_le_of {x : Int32} {n B : Nat} (h : x = nI n) (hn : n ≤ B) (hB : B < 2 ^ 31) : kb_le x B := by
  rw [h]
  exact kb_le_nI hn hB
theorem kb_noB_iff {X X1 : Nat → Nat → Int32} (h : kb_REL X) (hX : kb_MU X X1) {n : Int32} : kb_noBc X n ↔ kb_noB X1 n := by
  unfold kb_noBc kb_noB
  rw [hX 188 (by decide), h.2.1.1]
theorem kb_not_noB {X : Nat → Nat → Int32} {n : Int32} (h : ¬ kb_noBc X n) (hle : kb_le (X 0 3) 8) : kb_tn (X 0 3) < 8 ∧ n = nI (kb_tn n) ∧ 2 ≤ kb_tn n ∧ kb_tn n ≤ 6 := by
  unfold kb_noBc at h
  rw [not_or, not_or, Classical.not_not, Int32.not_lt] at h
  obtain ⟨h1, h2, h3⟩ := h
  have h0 : ¬ n < 0 := by
    rw [Int32.lt_iff_toInt_lt]
    rw [Int32.le_iff_toInt_le, nI_toInt (by decide)] at h2
    have : (0 : Int32).toInt = 0 := rfl
    omega
  obtain ⟨j, hj, rfl⟩ := nI_of h0
  rw [kb_tn_nI hj]
  refine ⟨by have := hle.2; omega, rfl, ?_, ?_⟩
  · exact (nI_leI (by decide) hj).mp h2
  · exact (nI_leI hj (by decide)).mp h3
theorem kb_s_band {X X1 X2 : Nat → Nat → Int32} {n r v : Int32} (hR : kb_REL X) (hc : (kb_noBc X n ∧ r = -1 ∧ X1 = X) ∨ (¬ kb_noBc X n ∧ r = nI (kb_tn (X 0 3)) ∧ X1 = kb_cband X n))
    (hm : (kb_noB X1 n ∧ v = -1 ∧ X2 = kb_thr X1 (nI 0)) ∨ (¬ kb_noB X1 n ∧ v = nI (kb_tn (X1 188 1)) ∧ X2 = kb_mband (kb_thr X1 (nI 0)) n)) : r = v ∧ kb_REL X2 := by
  have hle : kb_le (X 0 3) 8 := by rw [hR.2.1.1]; exact hR.1.1.1
  rcases hc with ⟨a1, rfl, rfl⟩ | ⟨a1, rfl, rfl⟩
  · rcases hm with ⟨-, rfl, rfl⟩ | ⟨b1, -, -⟩
    · exact ⟨rfl, hR.sc (kb_SC.thr _ _)⟩
    · exact absurd ((kb_noB_iff hR (kb_MU.rf _)).mp a1) b1
  · obtain ⟨hb8, hn, hn2, hn6⟩ := kb_not_noB a1 hle
    rw [hR.2.1.1] at hb8
    have hX : kb_MU X (kb_cband X n) := fun z hz => by
      unfold kb_cband
      rw [hR.2.1.1, kb_up_ne (by omega), kb_up_ne (by omega)]
    rcases hm with ⟨b1, -, -⟩ | ⟨-, rfl, rfl⟩
    · exact absurd ((kb_noB_iff hR hX).mpr b1) a1
    · have e188 : kb_cband X n 188 = X 188 := hX 188 (by decide)
      refine ⟨by rw [e188, hR.2.1.1], ?_⟩
      generalize hbe : kb_tn (X 188 1) = b at hb8
      have hz : ∀ z, z ≠ 0 → z ≠ 92 + 7 * b → z ≠ 188 → z ≠ 189 → kb_mband (kb_thr (kb_cband X n) (nI 0)) n z = X z := by
        intro z z0 z1 z2 z3
        unfold kb_mband kb_cband
        rw [kb_up_ne z2, kb_up_ne z3, kb_thr_ne z2, hR.2.1.1, hbe, kb_up_ne z0, kb_up_ne z1]
      have e0 : ∀ k, kb_mband (kb_thr (kb_cband X n) (nI 0)) n 0 k = if k = 3 then nI (b + 1) else X 0 k := by
        intro k
        unfold kb_mband kb_cband
        rw [kb_up_ne (by decide), kb_up_ne (by decide), kb_thr_ne (by decide), hR.2.1.1, hbe, kb_up_self, kb_up_ne (by omega)]
        rfl
      have eb : ∀ k, kb_mband (kb_thr (kb_cband X n) (nI 0)) n (92 + 7 * b) k = if k = 2 then n else X (92 + 7 * b) k := by
        intro k
        unfold kb_mband kb_cband
        rw [kb_up_ne (by omega), kb_up_ne (by omega), kb_thr_ne (by omega), hR.2.1.1, hbe, kb_up_ne (by omega), kb_up_self]
        rfl
      have em1 : kb_mband (kb_thr (kb_cband X n) (nI 0)) n 188 1 = nI (b + 1) := by
        unfold kb_mband
        rw [kb_up_self, kb_thr_k (by decide), e188, hbe, pk_us]
      have em2 : kb_mband (kb_thr (kb_cband X n) (nI 0)) n 188 2 = X 188 2 := by
        unfold kb_mband
        rw [kb_up_self, pk_un (by decide), kb_thr_k (by decide), e188]
      have em3 : ∀ k, kb_mband (kb_thr (kb_cband X n) (nI 0)) n 189 k = if k = b then n else X 189 k := by
        intro k
        unfold kb_mband
        rw [kb_up_ne (by decide), kb_up_self, kb_thr_k (by decide), kb_thr_ne (by decide), e188, hbe, hX 189 (by decide)]
        rfl
      generalize kb_mband (kb_thr (kb_cband X n) (nI 0)) n = X2 at hz e0 eb em1 em2 em3
      have hrb := hR.2.2.1 b hb8
      rw [hbe] at hrb
      obtain ⟨r1, r2, r3, -, r5⟩ := hrb
      have tn1 : kb_tn (nI (b + 1)) = b + 1 := kb_tn_nI (by omega)
      have z0 : X2 190 b = nI 0 := by rw [hz 190 (by decide) (by omega) (by decide) (by decide)]; exact r5 (Nat.le_refl _)
      refine hR.upB hb8 (by rw [em1]; exact kb_le_nI (by omega) (by decide)) (by rw [e0, em1]; rfl) (by rw [e0]; rfl) em2 (fun b' hb' => by rw [em1, tn1, hbe]; omega) (fun b' h1 h2 j hj => hz _ (by omega) (by omega) (by omega) (by omega)) (fun q hq j hj => hz _ (by omega) (by omega) (by omega) (by omega)) (fun z h1 h2 => hz _ (by omega) (by omega) (by omega) (by omega)) (fun b' hb' => by rw [em3, if_neg hb']) (fun b' hb' => by rw [hz 190 (by decide) (by omega) (by decide) (by decide)]) (fun j _ => by rw [hz 191 (by decide) (by omega) (by decide) (by decide)]) (fun j _ => by rw [hz 192 (by decide) (by omega) (by decide) (by decide)]) (fun _ => ?_) (fun t ht => ?_) (fun j hj => ?_) ?_
      · rw [em3, if_pos rfl, z0, hn]
        exact ⟨kb_le_nI hn6 (by decide), by rw [kb_tn_nI (by omega)]; exact hn2, kb_le_nI (by decide) (by decide)⟩
      · rw [hz 191 (by decide) (by omega) (by decide) (by decide)]
        exact hR.1.2.2.1 _ (by omega)
      · rw [hz 192 (by decide) (by omega) (by decide) (by decide)]
        exact hR.1.2.2.2.1 _ (by omega)
      · refine ⟨by rw [eb, em3, if_pos rfl, if_pos rfl], ?_, fun t ht => ?_, fun _ r hr => ?_, fun hbb => absurd hbb (by rw [em1, tn1]; omega)⟩
        · rw [eb, if_neg (by decide), hz 190 (by decide) (by omega) (by decide) (by decide)]
          exact r2
        · rw [hz _ (by omega) (by omega) (by omega) (by omega), hz 191 (by decide) (by omega) (by decide) (by decide)]
          exact r3 t ht
        · rw [z0, kb_tn_nI (by decide)] at hr
          exact absurd hr (Nat.not_lt_zero _)
/-- what stays as it was of band b while it is asked about -/
theorem kb_REL.rbd {X : Nat → Nat → Int32} (h : kb_REL X) {b : Nat} (hb : b < kb_tn (X 188 1)) : b < 8 ∧ kb_rb (kb_tn (X 188 1)) X b ∧ (kb_le (X 189 b) 6 ∧ 2 ≤ kb_tn (X 189 b) ∧ kb_le (X 190 b) 16) := ⟨Nat.lt_of_lt_of_le hb h.1.1.1.2, h.2.2.1 b (Nat.lt_of_lt_of_le hb h.1.1.1.2), h.1.2.1 b hb⟩
theorem kb_s_colour {X X1 X2 : Nat → Nat → Int32} {b t c0 v0 v : Int32} {kk : Nat} (hR : kb_REL X) (hc : kb_hx (kb_e b (X 0 3) ∧ kb_e t (X (92 + 7 * kb_tn b) 2)) (kb_e c0 (nI 4)) (fun v X1 => v = X (92 + 7 * kb_tn b + 1) (kb_tn t) ∧ X1 = va_up X (92 + 7 * kb_tn b + 1) (upd (X (92 + 7 * kb_tn b + 1)) (kb_tn t) c0)) (fun X1 => X1 = X) kk v0 X1)
    (hX : kb_MU X X1) (hm : kb_om (kb_okB X1 b ∧ (¬ t < 0 ∧ ¬ X1 189 (kb_tn b) ≤ t)) (¬ c0 < 0 ∧ ¬ nI 3 < c0) (fun r X' => r = X1 191 (6 * kb_tn b + kb_tn t) ∧ X' = va_up (kb_thr X1 (nI 0)) 191 (upd (X1 191) (6 * kb_tn b + kb_tn t) c0)) X1 v X2) : kb_stp kk v0 v X2 := by
  refine kb_pair hc hm (hR.okT hX) (fun _ => kb_ec4) (fun h => by rw [h]; exact hR) (fun c1 c2 h1 h2 => ?_)
  obtain ⟨hb, ht⟩ := c1
  obtain ⟨b1, b2, b3⟩ := hR.eB hb
  obtain ⟨e1, -, -, n1, -⟩ := hR.bd hX b1
  rw [e1] at ht
  obtain ⟨t1, t2⟩ := ht.nat n1
  obtain ⟨c3, c4⟩ := c2.natN (by decide)
  obtain ⟨-, ⟨r1, r2, r3, r4, r5⟩, l1, l2, l3⟩ := hR.rbd b1
  rw [hX 189 (by decide)] at t2
  obtain ⟨rfl, h1⟩ := h1
  obtain ⟨rfl, rfl⟩ := h2
  generalize kb_tn b = B at *
  generalize kb_tn t = T at *
  have hT6 : T < 6 := Nat.lt_of_lt_of_le t2 l1.2
  have e191 : X1 191 = X 191 := hX 191 (by decide)
  rw [e191]
  refine ⟨r3 T hT6, ?_⟩
  have hz : ∀ z, z ≠ 188 → z ≠ 191 → z ≠ 92 + 7 * B + 1 → va_up (kb_thr X1 (nI 0)) 191 (upd (X 191) (6 * B + T) c0) z = X z := fun z h2 h3 h4 => by
    rw [kb_up_ne h3, kb_thr_ne h2, h1, kb_up_ne h4]
  have e188 : ∀ k, k ≠ 0 → va_up (kb_thr X1 (nI 0)) 191 (upd (X 191) (6 * B + T) c0) 188 k = X 188 k := fun k hk => by
    rw [kb_up_ne (by decide), kb_thr_k hk, hX 188 (by decide)]
  have ec : ∀ j, va_up (kb_thr X1 (nI 0)) 191 (upd (X 191) (6 * B + T) c0) (92 + 7 * B + 1) j = if j = T then c0 else X (92 + 7 * B + 1) j := fun j => by
    rw [kb_up_ne (by omega), kb_thr_ne (by omega), h1, kb_up_self]
    rfl
  have em : ∀ j, va_up (kb_thr X1 (nI 0)) 191 (upd (X 191) (6 * B + T) c0) 191 j = if j = 6 * B + T then c0 else X 191 j := fun j => by
    rw [kb_up_self]
    rfl
  generalize va_up (kb_thr X1 (nI 0)) 191 (upd (X 191) (6 * B + T) c0) = X2 at hz e188 ec em
  have z1 := e188 1 (by decide)
  refine hR.upB b2 (by rw [z1]; exact hR.1.1.1) (by rw [z1, hz 0 (by decide) (by decide) (by omega)]; exact hR.2.1.1) (by rw [hz 0 (by decide) (by decide) (by omega)]) (e188 2 (by decide)) (fun b' _ => by rw [z1]) (fun b' h1 h2 j hj => hz _ (by omega) (by omega) (by omega)) (fun q hq j hj => hz _ (by omega) (by omega) (by omega)) (fun z h1 h2 => hz _ (by omega) (by omega) (by omega)) (fun b' _ => by rw [hz 189 (by decide) (by decide) (by omega)]) (fun b' _ => by rw [hz 190 (by decide) (by decide) (by omega)]) (fun j hj => by rw [em, if_neg (by omega)]) (fun j _ => by rw [hz 192 (by decide) (by decide) (by omega)]) (fun _ => ?_) (fun t ht => ?_) (fun j hj => ?_) ?_
  · rw [hz 189 (by decide) (by decide) (by omega), hz 190 (by decide) (by decide) (by omega)]
    exact ⟨l1, l2, l3⟩
  · rw [em]
    split
    · rw [c3]; exact kb_le_nI (by omega) (by decide)
    · exact hR.1.2.2.1 _ (by omega)
  · rw [hz 192 (by decide) (by decide) (by omega)]
    exact hR.1.2.2.2.1 _ (by omega)
  · unfold kb_rb kb_mkd
    rw [z1, hz 189 (by decide) (by decide) (by omega), hz 190 (by decide) (by decide) (by omega), hz (92 + 7 * B) (by omega) (by omega) (by omega), hz (92 + 7 * B + 2) (by omega) (by omega) (by omega), hz 192 (by decide) (by decide) (by omega)]
    refine ⟨r1, r2, fun t ht => ?_, r4, r5⟩
    rw [ec, em]
    by_cases e : t = T
    · rw [if_pos e, if_pos (by omega)]
    · rw [if_neg e, if_neg (by omega)]
      exact r3 t ht
theorem kb_kindIn_le {x : Int32} {k : Int32} : kb_le (kb_kindIn x k) 3 := by
  obtain ⟨j, hj, e⟩ := nv_kindIn x k
  rw [e]
  exact kb_le_nI (by omega) (by decide)
theorem kb_s_row {X X1 X2 : Nat → Nat → Int32} {b kinds v0 v : Int32} {kk : Nat} (hR : kb_REL X) (hc : kb_hx (kb_e b (X 0 3)) True (fun v X1 => (((kb_tn (X (92 + 7 * kb_tn b) 3)) = 16 ∧ v = -1 ∧ X1 = X) ∨ (¬ (kb_tn (X (92 + 7 * kb_tn b) 3)) = 16 ∧ v = nI ((kb_tn (X (92 + 7 * kb_tn b) 3)) + 1) ∧ X1 = kb_crow X (kb_tn b) kinds))) (fun X1 => X1 = X) kk v0 X1)
    (hX : kb_MU X X1) (hm : kb_om (kb_okB X1 b) True (fun v X' => (kb_tn (X1 190 (kb_tn b)) = 16 → v = -1 ∧ X' = kb_thr X1 (nI 0)) ∧ (¬ kb_tn (X1 190 (kb_tn b)) = 16 → v = nI (kb_tn (X1 190 (kb_tn b)) + 1) ∧ ∃ X3, kb_mrow X1 X3 (48 * kb_tn b + 3 * kb_tn (X1 190 (kb_tn b))) 3 kinds ∧ X' = va_up X3 190 (upd (X1 190) (kb_tn b) (nI (kb_tn (X1 190 (kb_tn b)) + 1))))) X1 v X2) : kb_stp kk v0 v X2 := by
  refine kb_pair hc hm (hR.okB hX) (fun _ => Iff.rfl) (fun h => by rw [h]; exact hR) (fun hb _ h1 h2 => ?_)
  obtain ⟨b1, b2, b3⟩ := hR.eB hb
  obtain ⟨-, e2, -⟩ := hR.bd hX b1
  obtain ⟨-, ⟨r1, r2, r3, r4, r5⟩, l1, l2, l3⟩ := hR.rbd b1
  rw [e2] at h1
  rcases h1 with ⟨a1, rfl, rfl⟩ | ⟨a1, rfl, h1⟩
  · obtain ⟨rfl, rfl⟩ := h2.1 a1
    exact ⟨rfl, hR.sc (kb_SC.thr _ _)⟩
  · obtain ⟨rfl, X3, h3, rfl⟩ := h2.2 a1
    refine ⟨rfl, ?_⟩
    have e190 : X1 190 = X 190 := hX 190 (by decide)
    rw [e190] at h3 a1 ⊢
    have r4 := r4 b1
    unfold kb_crow at h1
    rw [r2] at h1
    generalize kb_tn b = B at *
    have hrn := l3.1
    generalize hrr : kb_tn (X 190 B) = rr at *
    have hr16 : rr < 16 := by have := l3.2; omega
    obtain ⟨q1, q2⟩ := h3
    have hz : ∀ z, z ≠ 188 → z ≠ 190 → z ≠ 192 → z ≠ 92 + 7 * B → z ≠ 92 + 7 * B + 2 → va_up X3 190 (upd (X 190) B (nI (rr + 1))) z = X z := fun z a b c d e => by
      rw [kb_up_ne b, q1 z c, kb_thr_ne a, h1, kb_up_ne d, kb_up_ne e]
    have e188 : ∀ k, k ≠ 0 → va_up X3 190 (upd (X 190) B (nI (rr + 1))) 188 k = X 188 k := fun k hk => by
      rw [kb_up_ne (by decide), q1 188 (by decide), kb_thr_k hk, hX 188 (by decide)]
    have em : ∀ j, va_up X3 190 (upd (X 190) B (nI (rr + 1))) 190 j = if j = B then nI (rr + 1) else X 190 j := fun j => by
      rw [kb_up_self]
      rfl
    have ek : ∀ j, va_up X3 190 (upd (X 190) B (nI (rr + 1))) 192 j = if 48 * B + 3 * rr ≤ j ∧ j < 48 * B + 3 * rr + 3 then kb_kindIn kinds (nI (j - (48 * B + 3 * rr))) else X 192 j := fun j => by
      rw [kb_up_ne (by decide), q2 j, hX 192 (by decide)]
    have ec : ∀ j, va_up X3 190 (upd (X 190) B (nI (rr + 1))) (92 + 7 * B) j = if j = 3 then nI (rr + 1) else X (92 + 7 * B) j := fun j => by
      rw [kb_up_ne (by omega), q1 _ (by omega), kb_thr_ne (by omega), h1, kb_up_self, kb_up_ne (by omega)]
      rfl
    have ed : ∀ j, va_up X3 190 (upd (X 190) B (nI (rr + 1))) (92 + 7 * B + 2) j = if j = rr then kinds else X (92 + 7 * B + 2) j := fun j => by
      rw [kb_up_ne (by omega), q1 _ (by omega), kb_thr_ne (by omega), h1, kb_up_ne (by omega), kb_up_self]
      rfl
    generalize va_up X3 190 (upd (X 190) B (nI (rr + 1))) = X2 at hz e188 em ek ec ed
    have z1 := e188 1 (by decide)
    refine hR.upB b2 (by rw [z1]; exact hR.1.1.1) (by rw [z1, hz 0 (by decide) (by decide) (by decide) (by omega) (by omega)]; exact hR.2.1.1) (by rw [hz 0 (by decide) (by decide) (by decide) (by omega) (by omega)]) (e188 2 (by decide)) (fun b' _ => by rw [z1]) (fun b' h1 h2 j hj => hz _ (by omega) (by omega) (by omega) (by omega) (by omega)) (fun q hq j hj => hz _ (by omega) (by omega) (by omega) (by omega) (by omega)) (fun z h1 h2 => hz _ (by omega) (by omega) (by omega) (by omega) (by omega)) (fun b' _ => by rw [hz 189 (by decide) (by decide) (by decide) (by omega) (by omega)]) (fun b' hb' => by rw [em, if_neg hb']) (fun j _ => by rw [hz 191 (by decide) (by decide) (by decide) (by omega) (by omega)]) (fun j hj => by rw [ek, if_neg (by omega)]) (fun _ => ?_) (fun t ht => ?_) (fun j hj => ?_) ?_
    · rw [hz 189 (by decide) (by decide) (by decide) (by omega) (by omega), em, if_pos rfl]
      exact ⟨l1, l2, kb_le_nI (by omega) (by decide)⟩
    · rw [hz 191 (by decide) (by decide) (by decide) (by omega) (by omega)]
      exact hR.1.2.2.1 _ (by omega)
    · rw [ek]
      split
      · exact kb_kindIn_le
      · exact hR.1.2.2.2.1 _ (by omega)
    · unfold kb_rb
      rw [z1, hz 189 (by decide) (by decide) (by decide) (by omega) (by omega), hz 191 (by decide) (by decide) (by decide) (by omega) (by omega), hz (92 + 7 * B + 1) (by omega) (by omega) (by omega) (by omega) (by omega), ec, ec, if_neg (by decide), if_pos rfl, em, if_pos rfl, kb_tn_nI (by omega)]
      refine ⟨r1, rfl, r3, fun _ r hr k hk => ?_, fun z => absurd b1 (by omega)⟩
      have hk3 := Nat.lt_of_lt_of_le hk (kb_kn_le (r := r) l1.2)
      unfold kb_mkd
      rw [ek]
      by_cases e : r = rr
      · rw [if_pos (by omega), show 48 * B + 3 * r + k - (48 * B + 3 * rr) = k by omega]
        unfold kb_kd
        rw [ed, if_pos e]
        rfl
      · rw [if_neg (by omega)]
        have := r4 r (by omega) k hk
        unfold kb_kd at this ⊢
        rw [ed, if_neg e]
        exact this
theorem kb_s_knot {X X1 X2 : Nat → Nat → Int32} {b r k k0 v0 v : Int32} {kk : Nat} (hR : kb_REL X) (hc : kb_hx (kb_e b (X 0 3) ∧ kb_e r (X (92 + 7 * kb_tn b) 3) ∧ kb_e k (kb_knotsIn (X (92 + 7 * kb_tn b) 2) r)) (k0 = -1 ∨ kb_e k0 (nI 4)) (fun v X1 => v = kb_kindIn (X (92 + 7 * kb_tn b + 2) (kb_tn r)) k ∧ X1 = (if k0 = -1 then X else va_up X (92 + 7 * kb_tn b + 2) (upd (X (92 + 7 * kb_tn b + 2)) (kb_tn r) (kb_withKind (X (92 + 7 * kb_tn b + 2) (kb_tn r)) k k0)))) (fun X1 => X1 = X) kk v0 X1)
    (hX : kb_MU X X1) (hm : kb_om (kb_okK X1 b r k) (¬ k0 < -1 ∧ ¬ nI 3 < k0) (fun v X' => v = X1 192 (48 * kb_tn b + 3 * kb_tn r + kb_tn k) ∧ X' = if k0 = -1 then kb_thr X1 (nI 0) else va_up (kb_thr X1 (nI 0)) 192 (upd (X1 192) (48 * kb_tn b + 3 * kb_tn r + kb_tn k) k0)) X1 v X2) : kb_stp kk v0 v X2 := by
  have hm1 : (-1 : Int32).toInt = -1 := by decide
  have h00 : (0 : Int32).toInt = 0 := by decide
  refine kb_pair hc hm (hR.okK hX) (fun _ => ?_) (fun h => by rw [h]; exact hR) (fun c1 c2 h1 h2 => ?_)
  · rw [kb_ec4]
    constructor
    · rintro (rfl | ⟨h1, h2⟩)
      · exact ⟨by decide, by decide⟩
      · refine ⟨fun h => h1 ?_, h2⟩
        rw [Int32.lt_iff_toInt_lt] at h ⊢
        omega
    · rintro ⟨h1, h2⟩
      by_cases e : k0 = -1
      · exact Or.inl e
      · refine Or.inr ⟨fun h => ?_, h2⟩
        rw [Int32.lt_iff_toInt_lt] at h1 h
        exact e (Int32.toInt_inj.mp (by omega))
  · obtain ⟨hb, hr, hk⟩ := c1
    obtain ⟨b1, b2, b3⟩ := hR.eB hb
    obtain ⟨e1, e2, -, n1, n2, n3, n4, n5⟩ := hR.bd hX b1
    rw [e2] at hr
    rw [e1] at hk
    obtain ⟨k1, k2, k3, k4⟩ := kb_knot_nat n1 (by omega) n4 n2 n5 hr hk
    obtain ⟨-, ⟨r1, r2, r3, r4, r5⟩, l1, l2, l3⟩ := hR.rbd b1
    have r4 := r4 b1
    rw [hX 189 (by decide)] at k4
    rw [hX 190 (by decide)] at k2
    have hk3 := Nat.lt_of_lt_of_le k4 (kb_kn_le (r := kb_tn r) l1.2)
    have e192 : X1 192 = X 192 := hX 192 (by decide)
    obtain ⟨rfl, h1⟩ := h1
    obtain ⟨rfl, h2⟩ := h2
    rw [e192] at h2 ⊢
    have hr16 : kb_tn r < 16 := Nat.lt_of_lt_of_le k2 l3.2
    have heq : kb_kindIn (X (92 + 7 * kb_tn b + 2) (kb_tn r)) k = X 192 (48 * kb_tn b + 3 * kb_tn r + kb_tn k) := by
      have h9 := r4 _ k2 _ k4
      have h8 := (kb_kd_eq (X (92 + 7 * kb_tn b + 2)) (kb_tn r) (kb_tn k)).1
      rw [← k3, h9] at h8
      rw [h8]
      exact (hR.1.2.2.2.1 _ (by omega)).1.symm
    refine ⟨heq, ?_⟩
    by_cases e : k0 = -1
    · rw [if_pos e] at h1 h2
      rw [h2, h1]
      exact hR.sc (kb_SC.thr _ _)
    · rw [if_neg e] at h1 h2
      have c2 : kb_e k0 (nI 4) := c2.resolve_left e
      obtain ⟨c3, c4⟩ := c2.natN (by decide)
      rw [k3, c3] at h1
      rw [c3] at h2
      generalize kb_tn b = B at *
      generalize kb_tn r = rr at *
      generalize kb_tn k = j0 at *
      generalize kb_tn k0 = kd0 at *
      rw [h2]
      have hz : ∀ z, z ≠ 188 → z ≠ 192 → z ≠ 92 + 7 * B + 2 → va_up (kb_thr X1 (nI 0)) 192 (upd (X 192) (48 * B + 3 * rr + j0) (nI kd0)) z = X z := fun z a b c => by
        rw [kb_up_ne b, kb_thr_ne a, h1, kb_up_ne c]
      have e188 : ∀ k, k ≠ 0 → va_up (kb_thr X1 (nI 0)) 192 (upd (X 192) (48 * B + 3 * rr + j0) (nI kd0)) 188 k = X 188 k := fun k hk => by
        rw [kb_up_ne (by decide), kb_thr_k hk, hX 188 (by decide)]
      have ek : ∀ j, va_up (kb_thr X1 (nI 0)) 192 (upd (X 192) (48 * B + 3 * rr + j0) (nI kd0)) 192 j = if j = 48 * B + 3 * rr + j0 then nI kd0 else X 192 j := fun j => by
        rw [kb_up_self]
        rfl
      have ed : ∀ j, va_up (kb_thr X1 (nI 0)) 192 (upd (X 192) (48 * B + 3 * rr + j0) (nI kd0)) (92 + 7 * B + 2) j = if j = rr then kb_withKind (X (92 + 7 * B + 2) rr) (nI j0) (nI kd0) else X (92 + 7 * B + 2) j := fun j => by
        rw [kb_up_ne (by omega), kb_thr_ne (by omega), h1, kb_up_self]
        rfl
      generalize va_up (kb_thr X1 (nI 0)) 192 (upd (X 192) (48 * B + 3 * rr + j0) (nI kd0)) = X9 at hz e188 ek ed
      have z1 := e188 1 (by decide)
      refine hR.upB b2 (by rw [z1]; exact hR.1.1.1) (by rw [z1, hz 0 (by decide) (by decide) (by omega)]; exact hR.2.1.1) (by rw [hz 0 (by decide) (by decide) (by omega)]) (e188 2 (by decide)) (fun b' _ => by rw [z1]) (fun b' h1 h2 j hj => hz _ (by omega) (by omega) (by omega)) (fun q hq j hj => hz _ (by omega) (by omega) (by omega)) (fun z h1 h2 => hz _ (by omega) (by omega) (by omega)) (fun b' _ => by rw [hz 189 (by decide) (by decide) (by omega)]) (fun b' _ => by rw [hz 190 (by decide) (by decide) (by omega)]) (fun j _ => by rw [hz 191 (by decide) (by decide) (by omega)]) (fun j hj => by rw [ek, if_neg (by omega)]) (fun _ => ?_) (fun t ht => ?_) (fun j hj => ?_) ?_
      · rw [hz 189 (by decide) (by decide) (by omega), hz 190 (by decide) (by decide) (by omega)]
        exact ⟨l1, l2, l3⟩
      · rw [hz 191 (by decide) (by decide) (by omega)]
        exact hR.1.2.2.1 _ (by omega)
      · rw [ek]
        split
        · exact kb_le_nI (by omega) (by decide)
        · exact hR.1.2.2.2.1 _ (by omega)
      · unfold kb_rb
        rw [z1, hz 189 (by decide) (by decide) (by omega), hz 190 (by decide) (by decide) (by omega), hz 191 (by decide) (by decide) (by omega), hz (92 + 7 * B) (by omega) (by omega) (by omega), hz (92 + 7 * B + 1) (by omega) (by omega) (by omega)]
        refine ⟨r1, r2, r3, fun _ r hr k hk => ?_, r5⟩
        have hk3' := Nat.lt_of_lt_of_le hk (kb_kn_le (r := r) l1.2)
        have old := r4 r hr k hk
        unfold kb_mkd kb_kd at old ⊢
        rw [ek, ed]
        by_cases e : r = rr
        · subst e
          rw [if_pos rfl, kb_kindIn_with _ hk3' hk3 c4]
          by_cases e2 : k = j0
          · rw [if_pos e2, if_pos (by omega)]
            rfl
          · rw [if_neg e2, if_neg (by omega)]
            exact old
        · rw [if_neg e, if_neg (by omega)]
          exact old

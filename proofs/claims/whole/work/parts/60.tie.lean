/-! ===== tie ===== -/
theorem kb_tie0_188 {X : Nat → Nat → Int32} {nb n h : Nat} : kb_tie0 X nb n h 188 = upd (X 188) 1 (nI (nb + 1)) := by
  unfold kb_tie0
  rw [kb_up_ne (by decide), kb_up_ne (by decide), kb_up_self]
theorem kb_tie0_189 {X : Nat → Nat → Int32} {nb n h : Nat} : kb_tie0 X nb n h 189 = upd (X 189) nb (nI n) := by
  unfold kb_tie0
  rw [kb_up_ne (by decide), kb_up_self]
theorem kb_tie0_190 {X : Nat → Nat → Int32} {nb n h : Nat} : kb_tie0 X nb n h 190 = upd (X 190) nb (nI h) := by
  unfold kb_tie0
  rw [kb_up_self]
set_option maxHeartbeats 2000000 in
theorem kb_s_tie {X X1 X2 : Nat → Nat → Int32} {b v0 v : Int32} {kk : Nat} (hR : kb_REL X) (hc : kb_hx (kb_e b (X 0 4)) True (fun v X1 => ∃ X', kb_wout (kb_tn b) (kb_tn (X (148 + 5 * kb_tn b) 2)) (kb_tn (X (148 + 5 * kb_tn b) 3)) (kb_mtd X (kb_tn b)) (kb_mu6 X (kb_tn b)) X X' ∧ ((((kb_ct (kb_St (kb_tn (X (148 + 5 * kb_tn b) 2)) (kb_tn (X (148 + 5 * kb_tn b) 3)) (kb_mtd X (kb_tn b)) (kb_mu6 X (kb_tn b))) 4096) = 0 ∨ (kb_tn (X 0 3)) = 8) ∧ v = -1 ∧ X1 = X') ∨ (¬ (kb_ct (kb_St (kb_tn (X (148 + 5 * kb_tn b) 2)) (kb_tn (X (148 + 5 * kb_tn b) 3)) (kb_mtd X (kb_tn b)) (kb_mu6 X (kb_tn b))) 4096) = 0 ∧ (kb_tn (X 0 3)) < 8 ∧ ∃ s0, s0 < 4096 ∧ X' (148 + 5 * kb_tn b) 6 = nI s0 ∧ v = nI (kb_tn (X 0 3)) ∧ ∃ Xb, kb_bcm (kb_tn (X 0 3)) (kb_tn b) (kb_tn (X (148 + 5 * kb_tn b) 2)) (kb_tn (X (148 + 5 * kb_tn b) 3)) s0 (kb_tn (X (148 + 5 * kb_tn b) 2)) (kb_tn (X (148 + 5 * kb_tn b) 3)) X' Xb ∧ X1 = va_up Xb 0 (upd (Xb 0) 3 (nI ((kb_tn (X 0 3)) + 1)))))) (fun X1 => X1 = X) kk v0 X1)
    (hX : kb_MU X X1) (hm : kb_om (kb_okP X1 b) True (fun v X' => (((∀ s, s < 4 ^ (kb_tn (X1 193 (kb_tn b))) → ¬ kb_mst X1 (kb_tn b) s) ∨ (kb_tn (X1 188 1)) = 8) ∧ v = -1 ∧ kb_MS X1 X') ∨ (∃ s, s < 4 ^ (kb_tn (X1 193 (kb_tn b))) ∧ kb_mst X1 (kb_tn b) s ∧ (∀ t, t < s → ¬ kb_mst X1 (kb_tn b) t) ∧ (kb_tn (X1 188 1)) < 8 ∧ v = nI (kb_tn (X1 188 1)) ∧ ∃ X3 XA, kb_led (kb_tn (X1 193 (kb_tn b))) (kb_tn (X1 194 (kb_tn b))) (kb_mtd X1 (kb_tn b)) (kb_thr X1 (nI 0)) X3 ∧ (∀ q, q ≠ 191 → XA q = kb_tie0 X3 (kb_tn (X1 188 1)) (kb_tn (X1 193 (kb_tn b))) (kb_tn (X1 194 (kb_tn b))) q) ∧ (∀ j, j < (kb_tn (X1 193 (kb_tn b))) → XA 191 (6 * (kb_tn (X1 188 1)) + j) = nI (kb_dg (kb_tn (X1 193 (kb_tn b))) s j)) ∧ (∀ q, (∀ j, j < (kb_tn (X1 193 (kb_tn b))) → q ≠ 6 * (kb_tn (X1 188 1)) + j) → XA 191 q = X3 191 q) ∧ kb_laid 192 (48 * (kb_tn (X1 188 1))) (fun r k => kb_lk (kb_tn (X1 193 (kb_tn b))) (kb_tn (X1 194 (kb_tn b))) (kb_mtd X1 (kb_tn b)) r k (kb_stf (kb_tn (X1 193 (kb_tn b))) (kb_tn (X1 194 (kb_tn b))) (kb_mtd X1 (kb_tn b)) s r) (kb_btf (kb_tn (X1 193 (kb_tn b))) (kb_tn (X1 194 (kb_tn b))) (kb_mtd X1 (kb_tn b)) r (kb_stf (kb_tn (X1 193 (kb_tn b))) (kb_tn (X1 194 (kb_tn b))) (kb_mtd X1 (kb_tn b)) s r) k)) (fun r' k' => r' < (kb_tn (X1 194 (kb_tn b))) ∧ k' < kb_kn (kb_tn (X1 193 (kb_tn b))) r') XA X')) X1 v X2) : kb_stp kk v0 v X2 := by
  refine kb_pair hc hm (hR.okP hX) (fun _ => Iff.rfl) (fun h => by rw [h]; exact hR) (fun hb _ h1 h2 => ?_)
  obtain ⟨b1, b2, b3⟩ := hR.eP hb
  obtain ⟨-, ⟨r1, r2, -⟩, l1, l2, l3, l4⟩ := hR.rpd b1
  obtain ⟨X', hw, h1⟩ := h1
  have hR' := hR.wout b1 hw
  have hX' : kb_MU X X' := fun z hz => hw.1 z (by omega) (by omega) (by omega) (by omega) (by omega) (by omega) (by omega)
  have hf := hR.fst b1 hw
  rw [hR.ct b1, hR.2.1.1] at h1
  rw [r1, r2] at hw h1
  rw [hX.mst, hX.mtd, hX 193 (by decide), hX 194 (by decide), hX 188 (by decide)] at h2
  rcases h1 with ⟨a1, rfl, rfl⟩ | ⟨a1, a2, s0, a3, a4, rfl, Xb, a5, h1⟩
  · rcases h2 with ⟨-, rfl, h2⟩ | ⟨s, s1, s2, s3, s4, -⟩
    · exact ⟨rfl, hR'.sc (kb_SC.ms h2)⟩
    · rcases a1 with a1 | a1
      · exact absurd s2 (kb_ct_zero.mp a1 s s1)
      · omega
  · rcases h2 with ⟨c1, -, -⟩ | ⟨s, s1, s2, s3, s4, rfl, X3, XA, m1, m2, m3, m4, m5⟩
    · rcases c1 with c1 | c1
      · exact absurd (kb_ct_zero.mpr c1) a1
      · omega
    · refine ⟨rfl, ?_⟩
      have hs0 : s0 = kb_em (kb_tn (X 193 (kb_tn b))) s := by
        rcases hf with ⟨s', p1, p2, p3, p4⟩ | ⟨p1, -⟩
        · have e := kb_min_uniq s2 s3 p2 p3
          subst e
          rw [a4] at p4
          exact (nI_eq (by omega) (by have := kb_em_lt l1.2 s1; omega)).mp p4
        · exact absurd s2 (p1 s s1)
      obtain ⟨-, w2, w3, w4, k1, k2, k3, k4⟩ := hw
      obtain ⟨-, kinds⟩ := k3 s0 a3 a4
      rw [hs0] at kinds a5
      have hcR : kb_cR (kb_tn (X 193 (kb_tn b))) (kb_tn (X 194 (kb_tn b))) (kb_mtd X (kb_tn b)) (kb_tn (X 194 (kb_tn b))) s := s2.1
      have eX1 : X' 188 1 = X 188 1 := by rw [hX' 188 (by decide)]
      generalize hB : kb_tn b = B at *
      generalize hnb : kb_tn (X 188 1) = nb at *
      have hl1 := l1.2
      have hl3 := l3.2
      have hn193 := l1.1
      have hn194 := l3.1
      generalize hn : kb_tn (X 193 B) = n at *
      generalize hh : kb_tn (X 194 B) = h at *
      obtain ⟨g1, g2, g3, g4, g5⟩ := a5
      obtain ⟨m1, -⟩ := m1
      obtain ⟨q1, q2, q3⟩ := m5
      have hP3 : ∀ r k, (r < h ∧ k < kb_kn n r) → r < 16 ∧ k < 3 := fun r k hp => ⟨by omega, Nat.lt_of_lt_of_le hp.2 (kb_kn_le hl1)⟩
      have hx1 : ∀ z, z ≠ 0 → X1 z = Xb z := fun z hz => by rw [h1, kb_up_ne hz]
      have hx3 : ∀ z, z ≠ 188 → z ≠ 200 → X3 z = X1 z := fun z h1 h2 => by rw [m1 z h2, kb_thr_ne h1]
      have hz : ∀ z, z ≠ 0 → z < 197 → z ≠ 188 → z ≠ 189 → z ≠ 190 → z ≠ 191 → z ≠ 192 → z ≠ 92 + 7 * nb → z ≠ 92 + 7 * nb + 1 → z ≠ 92 + 7 * nb + 2 → X2 z = X' z := fun z z0 z1 z2 z3 z4 z5 z6 z7 z8 z9 => by
        rw [q1 z z6, m2 z z5, kb_tie0_ne z2 z3 z4, hx3 z z2 (by omega), hx1 z z0, g1 z z7 z8 z9]
      have e0 : ∀ k, X2 0 k = if k = 3 then nI (nb + 1) else X' 0 k := fun k => by
        rw [q1 0 (by decide), m2 0 (by decide), kb_tie0_ne (by decide) (by decide) (by decide), hx3 0 (by decide) (by decide), h1, kb_up_self, g1 0 (by omega) (by omega) (by omega)]
        rfl
      have e188 : X2 188 1 = nI (nb + 1) := by
        rw [q1 188 (by decide), m2 188 (by decide), kb_tie0_188, pk_us]
      have e1882 : X2 188 2 = X' 188 2 := by
        rw [q1 188 (by decide), m2 188 (by decide), kb_tie0_188, pk_un (by decide), m1 188 (by decide), kb_thr_k (by decide), hX 188 (by decide), hX' 188 (by decide)]
      have hM : ∀ z, 188 ≤ z → X1 z = X' z := fun z hz => by rw [hX z hz, hX' z hz]
      have e189 : ∀ k, X2 189 k = if k = nb then nI n else X' 189 k := fun k => by
        rw [q1 189 (by decide), m2 189 (by decide), kb_tie0_189, hx3 189 (by decide) (by decide), hM 189 (by decide)]
        rfl
      have e190 : ∀ k, X2 190 k = if k = nb then nI h else X' 190 k := fun k => by
        rw [q1 190 (by decide), m2 190 (by decide), kb_tie0_190, hx3 190 (by decide) (by decide), hM 190 (by decide)]
        rfl
      have e191 : ∀ j, j < n → X2 191 (6 * nb + j) = nI (kb_dg n s j) := fun j hj => by
        rw [q1 191 (by decide), m3 j hj]
      have e191' : ∀ q, (∀ j, j < n → q ≠ 6 * nb + j) → X2 191 q = X' 191 q := fun q hq => by
        rw [q1 191 (by decide), m4 q hq, hx3 191 (by decide) (by decide), hM 191 (by decide)]
      have e192 : ∀ q, (∀ r k, (r < h ∧ k < kb_kn n r) → q ≠ 48 * nb + 3 * r + k) → X2 192 q = X' 192 q := fun q hq => by
        rw [q3 q hq, m2 192 (by decide), kb_tie0_ne (by decide) (by decide) (by decide), hx3 192 (by decide) (by decide), hM 192 (by decide)]
      have ecb : ∀ z, z ≠ 0 → z < 188 → X2 z = Xb z := fun z z0 z1 => by
        rw [q1 z (by omega), m2 z (by omega), kb_tie0_ne (by omega) (by omega) (by omega), hx3 z (by omega) (by omega), hx1 z z0]
      have tn1 : kb_tn (nI (nb + 1)) = nb + 1 := kb_tn_nI (by omega)
      have hrb := hR'.2.2.1 nb a2
      obtain ⟨v1, v2, v3, v4, v5⟩ := hrb
      refine hR'.upB a2 (by rw [e188]; exact kb_le_nI (by omega) (by decide)) (by rw [e0, e188]; rfl) (by rw [e0]; rfl) e1882 (fun b' hb' => by rw [e188, tn1, eX1, hnb]; omega) (fun b' h1 h2 j hj => hz _ (by omega) (by omega) (by omega) (by omega) (by omega) (by omega) (by omega) (by omega) (by omega) (by omega)) (fun q hq j hj => hz _ (by omega) (by omega) (by omega) (by omega) (by omega) (by omega) (by omega) (by omega) (by omega) (by omega)) (fun z h1 h2 => hz _ (by omega) (by omega) (by omega) (by omega) (by omega) (by omega) (by omega) (by omega) (by omega) (by omega)) (fun b' hb' => by rw [e189, if_neg hb']) (fun b' hb' => by rw [e190, if_neg hb']) (fun j hj => e191' j (fun j' hj' => by omega)) (fun j hj => e192 j (fun r k hp => by have := hP3 r k hp; omega)) (fun _ => ?_) (fun t ht => ?_) (fun j hj => ?_) ?_
      · rw [e189, e190, if_pos rfl, if_pos rfl, kb_tn_nI (by omega)]
        exact ⟨kb_le_nI hl1 (by decide), l2, kb_le_nI hl3 (by decide)⟩
      · by_cases e : t < n
        · rw [e191 t e]
          exact kb_le_nI (by have := kb_dg_lt n s t; omega) (by decide)
        · rw [e191' _ (fun j hj => by omega)]
          exact hR'.1.2.2.1 _ (by omega)
      · by_cases e : ∃ r k, (r < h ∧ k < kb_kn n r) ∧ j = 3 * r + k
        · obtain ⟨r, k, hp, rfl⟩ := e
          rw [show 48 * nb + (3 * r + k) = 48 * nb + 3 * r + k by omega, q2 r k hp]
          exact kb_le_nI (Nat.le_of_lt_succ (kb_lk_lt n h (kb_mtd X B) r k (kb_stf n h (kb_mtd X B) s r) (kb_btf n h (kb_mtd X B) r (kb_stf n h (kb_mtd X B) s r) k))) (by decide)
        · rw [e192 _ (fun r k hp heq => e ⟨r, k, hp, by omega⟩)]
          exact hR'.1.2.2.2.1 _ (by omega)
      · unfold kb_rb
        rw [e188, tn1, e189, e190, if_pos rfl, if_pos rfl, ecb (92 + 7 * nb) (by omega) (by omega), ecb (92 + 7 * nb + 1) (by omega) (by omega), ecb (92 + 7 * nb + 2) (by omega) (by omega), g2, g3, kb_tn_nI (by omega), kb_tn_nI (by omega)]
        refine ⟨rfl, rfl, fun t ht => ?_, fun _ r hr k hk => ?_, fun z => absurd z (by omega)⟩
        · rw [g4]
          by_cases e : t < n
          · rw [if_pos e, e191 t e, show kb_dg 6 (kb_em n s) t = kb_dg n s t from kb_dg_emb hl1 e]
          · rw [if_neg e, e191' _ (fun j hj => by omega)]
            exact v3 t ht
        · have hy := kinds (kb_kc n r + k) (kb_kc_lt hr hk)
          rw [kb_lq_at hl1 (by omega) hk, kb_kz_lk hl1 hl3 s1 hcR hr hk] at hy
          dsimp only at hy
          unfold kb_kd kb_mkd
          rw [q2 r k ⟨hr, hk⟩, g5, if_pos hr, hy]
          rfl

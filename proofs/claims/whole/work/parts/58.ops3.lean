/-! ===== the steps that change a picture ===== -/
theorem kb_REL.upP {X X2 : Nat → Nat → Int32} (h : kb_REL X) {q : Nat} (hq : q < 8) (hn1 : kb_le (X2 188 2) 8) (h03 : X2 0 3 = X 0 3) (h04 : X2 0 4 = X2 188 2) (h1 : X2 188 1 = X 188 1) (hN : ∀ q', q' ≠ q → (q' < kb_tn (X2 188 2) ↔ q' < kb_tn (X 188 2)))
    (hc : ∀ b, b < 8 → ∀ j, j < 3 → X2 (92 + 7 * b + j) = X (92 + 7 * b + j)) (hp : ∀ q', q' < 8 → q' ≠ q → ∀ j, j < 5 → X2 (148 + 5 * q' + j) = X (148 + 5 * q' + j)) (hm : ∀ z, 189 ≤ z → z < 193 → X2 z = X z)
    (m1 : ∀ q', q' ≠ q → X2 193 q' = X 193 q') (m2 : ∀ q', q' ≠ q → X2 194 q' = X 194 q') (m3 : ∀ j, (j < 48 * q ∨ 48 * q + 48 ≤ j) → X2 195 j = X 195 j) (m4 : ∀ j, (j < 6 * q ∨ 6 * q + 6 ≤ j) → X2 196 j = X 196 j)
    (hqq : q < kb_tn (X2 188 2) → kb_le (X2 193 q) 6 ∧ 2 ≤ kb_tn (X2 193 q) ∧ kb_le (X2 194 q) 16 ∧ 1 ≤ kb_tn (X2 194 q)) (hsee : ∀ j, j < 48 → kb_le (X2 195 (48 * q + j)) 4) (hmus : ∀ j, j < 6 → kb_le (X2 196 (6 * q + j)) 4) (hrp : kb_rp (kb_tn (X2 188 2)) X2 q) : kb_REL X2 := by
  obtain ⟨h0, ⟨g1, g2⟩, g3, g4⟩ := h
  have hMI : kb_MI X2 := by
    refine ⟨⟨by rw [h1]; exact h0.1.1, hn1⟩, ?_, ?_, ?_, fun b' hb' => ?_, fun j hj => ?_, fun j hj => ?_⟩
    · rw [h1, hm 189 (by decide) (by decide), hm 190 (by decide) (by decide)]
      exact h0.2.1
    · rw [hm 191 (by decide) (by decide)]
      exact h0.2.2.1
    · rw [hm 192 (by decide) (by decide)]
      exact h0.2.2.2.1
    · by_cases e : b' = q
      · rw [e]; exact hqq (e ▸ hb')
      · rw [m1 b' e, m2 b' e]
        exact h0.2.2.2.2.1 b' ((hN b' e).mp hb')
    · by_cases e : j < 48 * q ∨ 48 * q + 48 ≤ j
      · rw [m3 j e]; exact h0.2.2.2.2.2.1 j hj
      · have := hsee (j - 48 * q) (by omega)
        rwa [show 48 * q + (j - 48 * q) = j by omega] at this
    · by_cases e : j < 6 * q ∨ 6 * q + 6 ≤ j
      · rw [m4 j e]; exact h0.2.2.2.2.2.2 j hj
      · have := hmus (j - 6 * q) (by omega)
        rwa [show 6 * q + (j - 6 * q) = j by omega] at this
  refine ⟨hMI, ⟨by rw [h03, h1, g1], h04⟩, fun b hb => ?_, fun q' hq' => ?_⟩
  · rw [h1]
    have e0 := hc b hb 0 (by decide)
    rw [Nat.add_zero] at e0
    exact (g3 b hb).go Iff.rfl (fun z => h0.b16 z) (by rw [e0]) (by rw [e0]) (hc b hb 1 (by decide)) (hc b hb 2 (by decide)) (by rw [hm _ (by decide) (by decide)]) (by rw [hm _ (by decide) (by decide)]) (fun _ _ => by rw [hm _ (by decide) (by decide)]) (fun _ _ => by rw [hm _ (by decide) (by decide)])
  · by_cases e : q' = q
    · rw [e]; exact hrp
    · have e0 := hp q' hq' e 0 (by decide)
      rw [Nat.add_zero] at e0
      exact (g4 q' hq').go (hN q' e) (fun z => h0.p16 z) e0 (hp q' hq' e 1 (by decide)) (hp q' hq' e 2 (by decide)) (hp q' hq' e 3 (by decide)) (hp q' hq' e 4 (by decide)) (m1 q' e) (m2 q' e) (fun j hj => m3 _ (by omega)) (fun j hj => m4 _ (by omega))
theorem kb_REL.rpd {X : Nat → Nat → Int32} (h : kb_REL X) {q : Nat} (hq : q < kb_tn (X 188 2)) : q < 8 ∧ kb_rp (kb_tn (X 188 2)) X q ∧ (kb_le (X 193 q) 6 ∧ 2 ≤ kb_tn (X 193 q) ∧ kb_le (X 194 q) 16 ∧ 1 ≤ kb_tn (X 194 q)) := ⟨Nat.lt_of_lt_of_le hq h.1.1.2.2, h.2.2.2 q (Nat.lt_of_lt_of_le hq h.1.1.2.2), h.1.2.2.2.2.1 q hq⟩
theorem kb_REL.okS {X X1 : Nat → Nat → Int32} (h : kb_REL X) (hX : kb_MU X X1) {b r k : Int32} : (kb_e b (X 0 4) ∧ kb_e r (X (148 + 5 * kb_tn b) 3) ∧ kb_e k (kb_knotsIn (X (148 + 5 * kb_tn b) 2) r)) ↔ (kb_okP X1 b ∧ kb_okSr X1 b r k) := by
  rw [← h.okP hX]
  refine and_congr_right (fun hb => ?_)
  obtain ⟨h1, -, -⟩ := h.eP hb
  obtain ⟨-, ⟨e1, e2, -⟩, l1, l2, l3, l4⟩ := h.rpd h1
  unfold kb_okSr
  rw [e1, e2, hX 193 (by decide), hX 194 (by decide)]
  exact kb_okKr_iff l1.1 (by omega) l1.2 l3.1 l3.2
theorem kb_REL.okQ {X X1 : Nat → Nat → Int32} (h : kb_REL X) (hX : kb_MU X X1) {b t : Int32} : (kb_e b (X 0 4) ∧ kb_e t (X (148 + 5 * kb_tn b) 2)) ↔ (kb_okP X1 b ∧ (¬ t < 0 ∧ ¬ X1 193 (kb_tn b) ≤ t)) := by
  rw [← h.okP hX]
  refine and_congr_right (fun hb => ?_)
  obtain ⟨h1, -, -⟩ := h.eP hb
  obtain ⟨-, ⟨e1, -⟩, -⟩ := h.rpd h1
  rw [e1, hX 193 (by decide)]
  exact Iff.rfl
theorem kb_noP_iff {X X1 : Nat → Nat → Int32} (h : kb_REL X) (hX : kb_MU X X1) {n h0 : Int32} : kb_noPc X n h0 ↔ kb_noP X1 n h0 := by
  unfold kb_noPc kb_noP
  rw [hX 188 (by decide), h.2.1.2, Int32.not_le, Int32.not_le]
theorem kb_rngI {n : Int32} {a b : Nat} (ha : a < 2 ^ 31) (hb : b < 2 ^ 31) (h1 : ¬ n < nI a) (h2 : n ≤ nI b) : n = nI (kb_tn n) ∧ a ≤ kb_tn n ∧ kb_tn n ≤ b := by
  rw [Int32.not_lt] at h1
  have h0 : ¬ n < 0 := by
    rw [Int32.lt_iff_toInt_lt]
    rw [Int32.le_iff_toInt_le, nI_toInt ha] at h1
    have : (0 : Int32).toInt = 0 := rfl
    omega
  obtain ⟨j, hj, rfl⟩ := nI_of h0
  rw [kb_tn_nI hj]
  exact ⟨rfl, (nI_leI ha hj).mp h1, (nI_leI hj hb).mp h2⟩
theorem kb_s_picture {X X1 X2 : Nat → Nat → Int32} {n h0 r v : Int32} (hR : kb_REL X) (hc : (kb_noPc X n h0 ∧ r = -1 ∧ X1 = X) ∨ (¬ kb_noPc X n h0 ∧ r = nI (kb_tn (X 0 4)) ∧ ∃ X3, kb_bgn (kb_tn (X 0 4)) (kb_tn n) (kb_tn h0) 48 6 X X3 ∧ X1 = va_up X3 0 (upd (X 0) 4 (nI (kb_tn (X 0 4) + 1)))))
    (hm : (kb_noP X1 n h0 ∧ v = -1 ∧ X2 = kb_thr X1 (nI 0)) ∨ (¬ kb_noP X1 n h0 ∧ v = nI (kb_tn (X1 188 2)) ∧ ∃ X4 X5, kb_fill4 (kb_mpic0 X1 n h0) X4 195 (48 * kb_tn (X1 188 2)) 48 ∧ kb_fill4 X4 X5 196 (6 * kb_tn (X1 188 2)) 6 ∧ X2 = va_up X5 188 (upd (kb_thr X1 (nI 0) 188) 2 (nI (kb_tn (X1 188 2) + 1))))) : r = v ∧ kb_REL X2 := by
  rcases hc with ⟨a1, rfl, rfl⟩ | ⟨a1, rfl, X3, a2, a3⟩
  · rcases hm with ⟨-, rfl, rfl⟩ | ⟨b1, -, -⟩
    · exact ⟨rfl, hR.sc (kb_SC.thr _ _)⟩
    · exact absurd ((kb_noP_iff hR (kb_MU.rf _)).mp a1) b1
  · have a4 := a1
    unfold kb_noPc at a4
    rw [not_or, not_or, not_or, not_or, Classical.not_not, Classical.not_not] at a4
    obtain ⟨q1, q2, q3, q4, q5⟩ := a4
    obtain ⟨hn, hn2, hn6⟩ := kb_rngI (by decide) (by decide) q2 q3
    obtain ⟨hh, hh1, hh16⟩ := kb_rngI (by decide) (by decide) q4 q5
    rw [hR.2.1.2] at a2 a3 q1 ⊢
    have hq8 : kb_tn (X 188 2) < 8 := by have := hR.1.1.2.2; omega
    obtain ⟨g1, g2, g3, g4⟩ := a2
    have hX : kb_MU X X1 := fun z hz => by
      rw [a3, kb_up_ne (by omega), g1 z (by omega) (by omega) (by omega)]
    rcases hm with ⟨b1, -, -⟩ | ⟨-, rfl, X4, X5, ⟨f1, f2⟩, ⟨f3, f4⟩, rfl⟩
    · exact absurd ((kb_noP_iff hR hX).mpr b1) a1
    · have e188 : X1 188 = X 188 := hX 188 (by decide)
      rw [e188] at f2 f4 ⊢
      refine ⟨rfl, ?_⟩
      generalize hqe : kb_tn (X 188 2) = q at *
      have hp0 : ∀ z, z ≠ 188 → z ≠ 193 → z ≠ 194 → kb_mpic0 X1 n h0 z = X1 z := fun z z1 z2 z3 => by
        unfold kb_mpic0
        rw [kb_up_ne z3, kb_up_ne z2, kb_thr_ne z1]
      have hz : ∀ z, z ≠ 0 → z ≠ 188 → z ≠ 193 → z ≠ 194 → z ≠ 195 → z ≠ 196 → z ≠ 148 + 5 * q → z ≠ 148 + 5 * q + 1 → z ≠ 148 + 5 * q + 2 → va_up X5 188 (upd (kb_thr X1 (nI 0) 188) 2 (nI (q + 1))) z = X z := fun z z0 z1 z2 z3 z4 z5 z6 z7 z8 => by
        rw [kb_up_ne z1, f3 z z5, f1 z z4, hp0 z z1 z2 z3, a3, kb_up_ne z0, g1 z z6 z7 z8]
      have e0 : ∀ k, va_up X5 188 (upd (kb_thr X1 (nI 0) 188) 2 (nI (q + 1))) 0 k = if k = 4 then nI (q + 1) else X 0 k := fun k => by
        rw [kb_up_ne (by decide), f3 0 (by decide), f1 0 (by decide), hp0 0 (by decide) (by decide) (by decide), a3, kb_up_self]
        rfl
      have em1 : va_up X5 188 (upd (kb_thr X1 (nI 0) 188) 2 (nI (q + 1))) 188 1 = X 188 1 := by
        rw [kb_up_self, pk_un (by decide), kb_thr_k (by decide), e188]
      have em2 : va_up X5 188 (upd (kb_thr X1 (nI 0) 188) 2 (nI (q + 1))) 188 2 = nI (q + 1) := by
        rw [kb_up_self, pk_us]
      have e193 : ∀ k, va_up X5 188 (upd (kb_thr X1 (nI 0) 188) 2 (nI (q + 1))) 193 k = if k = q then n else X 193 k := fun k => by
        rw [kb_up_ne (by decide), f3 193 (by decide), f1 193 (by decide)]
        unfold kb_mpic0
        rw [kb_up_ne (by decide), kb_up_self, e188, hqe, hX 193 (by decide)]
        rfl
      have e194 : ∀ k, va_up X5 188 (upd (kb_thr X1 (nI 0) 188) 2 (nI (q + 1))) 194 k = if k = q then h0 else X 194 k := fun k => by
        rw [kb_up_ne (by decide), f3 194 (by decide), f1 194 (by decide)]
        unfold kb_mpic0
        rw [kb_up_self, e188, hqe, hX 194 (by decide)]
        rfl
      have e195 : ∀ k, va_up X5 188 (upd (kb_thr X1 (nI 0) 188) 2 (nI (q + 1))) 195 k = if 48 * q ≤ k ∧ k < 48 * q + 48 then nI 4 else X 195 k := fun k => by
        rw [kb_up_ne (by decide), f3 195 (by decide), f2 k, hp0 195 (by decide) (by decide) (by decide), hX 195 (by decide)]
      have e196 : ∀ k, va_up X5 188 (upd (kb_thr X1 (nI 0) 188) 2 (nI (q + 1))) 196 k = if 6 * q ≤ k ∧ k < 6 * q + 6 then nI 4 else X 196 k := fun k => by
        rw [kb_up_ne (by decide), f4 k, f1 196 (by decide), hp0 196 (by decide) (by decide) (by decide), hX 196 (by decide)]
      have ep : ∀ j, j < 3 → va_up X5 188 (upd (kb_thr X1 (nI 0) 188) 2 (nI (q + 1))) (148 + 5 * q + j) = X3 (148 + 5 * q + j) := fun j hj => by
        rw [kb_up_ne (by omega), f3 _ (by omega), f1 _ (by omega), hp0 _ (by omega) (by omega) (by omega), a3, kb_up_ne (by omega)]
      generalize va_up X5 188 (upd (kb_thr X1 (nI 0) 188) 2 (nI (q + 1))) = X2 at *
      have ep0 := ep 0 (by decide)
      rw [Nat.add_zero] at ep0
      obtain ⟨r1, r2, -, r4⟩ := hR.2.2.2 q hq8
      rw [hqe] at r4
      have tn1 : kb_tn (nI (q + 1)) = q + 1 := kb_tn_nI (by omega)
      refine hR.upP hq8 (by rw [em2]; exact kb_le_nI (by omega) (by decide)) (by rw [e0]; rfl) (by rw [e0, em2]; rfl) em1 (fun b' hb' => by rw [em2, tn1, hqe]; omega) (fun b hb j hj => hz _ (by omega) (by omega) (by omega) (by omega) (by omega) (by omega) (by omega) (by omega) (by omega)) (fun q' h1 h2 j hj => hz _ (by omega) (by omega) (by omega) (by omega) (by omega) (by omega) (by omega) (by omega) (by omega)) (fun z h1 h2 => hz _ (by omega) (by omega) (by omega) (by omega) (by omega) (by omega) (by omega) (by omega) (by omega)) (fun b' hb' => by rw [e193, if_neg hb']) (fun b' hb' => by rw [e194, if_neg hb']) (fun j hj => by rw [e195, if_neg (by omega)]) (fun j hj => by rw [e196, if_neg (by omega)]) (fun _ => ?_) (fun j hj => ?_) (fun j hj => ?_) ?_
      · rw [e193, e194, if_pos rfl, if_pos rfl, hn, hh, kb_tn_nI (by omega), kb_tn_nI (by omega)]
        exact ⟨kb_le_nI hn6 (by decide), hn2, kb_le_nI hh16 (by decide), hh1⟩
      · rw [e195, if_pos (by omega)]
        exact kb_le_nI (by decide) (by decide)
      · rw [e196, if_pos (by omega)]
        exact kb_le_nI (by decide) (by decide)
      · unfold kb_rp
        rw [em2, tn1, e193, e194, if_pos rfl, if_pos rfl, ep0, ep 1 (by decide), ep 2 (by decide), g2, g2, g2, if_pos rfl, if_neg (by decide), if_pos rfl, if_neg (by decide), if_neg (by decide)]
        refine ⟨hn.symm, hh.symm, fun _ => ⟨fun r hr k hk => ?_, fun j hj => ?_, Or.inl (r4 (Nat.le_refl _))⟩, fun z => absurd z (by omega)⟩
        · have hk3 := Nat.lt_of_lt_of_le hk (kb_kn_le (r := r) hn6)
          rw [g3, if_pos (by omega), e195, if_pos (by omega)]
        · rw [g4, if_pos hj]
          unfold kb_m6 kb_mmu
          by_cases e : j < kb_tn n
          · rw [if_pos e, if_pos e, e196, if_pos (by omega)]
            rfl
          · rw [if_neg e, if_neg e]
theorem kb_unw_ne {X : Nat → Nat → Int32} {q z : Nat} (h : z ≠ 148 + 5 * q) : kb_unw X q z = X z := kb_up_ne h
theorem kb_s_see {X X1 X2 : Nat → Nat → Int32} {b r k c0 v0 v : Int32} {kk : Nat} (hR : kb_REL X) (hc : kb_hx (kb_e b (X 0 4) ∧ kb_e r (X (148 + 5 * kb_tn b) 3) ∧ kb_e k (kb_knotsIn (X (148 + 5 * kb_tn b) 2) r)) (kb_e c0 (nI 5)) (fun v X1 => v = X (148 + 5 * kb_tn b + 1) (3 * kb_tn r + kb_tn k) ∧ X1 = kb_unw (va_up X (148 + 5 * kb_tn b + 1) (upd (X (148 + 5 * kb_tn b + 1)) (3 * kb_tn r + kb_tn k) c0)) (kb_tn b)) (fun X1 => X1 = X) kk v0 X1)
    (hX : kb_MU X X1) (hm : kb_om (kb_okP X1 b ∧ kb_okSr X1 b r k) (¬ c0 < 0 ∧ ¬ nI 4 < c0) (fun v X' => v = X1 195 (48 * kb_tn b + 3 * kb_tn r + kb_tn k) ∧ X' = va_up (kb_thr X1 (nI 0)) 195 (upd (X1 195) (48 * kb_tn b + 3 * kb_tn r + kb_tn k) c0)) X1 v X2) : kb_stp kk v0 v X2 := by
  refine kb_pair hc hm (hR.okS hX) (fun _ => kb_ec5) (fun h => by rw [h]; exact hR) (fun c1 c2 h1 h2 => ?_)
  obtain ⟨hb, hr, hk⟩ := c1
  obtain ⟨b1, b2, b3⟩ := hR.eP hb
  obtain ⟨-, ⟨r1, r2, r3, r4⟩, l1, l2, l3, l4⟩ := hR.rpd b1
  obtain ⟨r5, r6, r7⟩ := r3 b1
  rw [r2] at hr
  rw [r1] at hk
  obtain ⟨k1, k2, k3, k4⟩ := kb_knot_nat l1.1 (by omega) l1.2 l3.1 l3.2 hr hk
  obtain ⟨c3, c4⟩ := c2.natN (by decide)
  have hk3 := Nat.lt_of_lt_of_le k4 (kb_kn_le (r := kb_tn r) l1.2)
  have hr16 : kb_tn r < 16 := Nat.lt_of_lt_of_le k2 l3.2
  have e195 : X1 195 = X 195 := hX 195 (by decide)
  obtain ⟨rfl, h1⟩ := h1
  obtain ⟨rfl, h2⟩ := h2
  rw [e195] at h2 ⊢
  refine ⟨r5 _ k2 _ k4, ?_⟩
  rw [h2]
  generalize kb_tn b = B at *
  generalize kb_tn r = rr at *
  generalize kb_tn k = j0 at *
  have hz : ∀ z, z ≠ 188 → z ≠ 195 → z ≠ 148 + 5 * B → z ≠ 148 + 5 * B + 1 → va_up (kb_thr X1 (nI 0)) 195 (upd (X 195) (48 * B + 3 * rr + j0) c0) z = X z := fun z a b c d => by
    rw [kb_up_ne b, kb_thr_ne a, h1, kb_unw_ne c, kb_up_ne d]
  have e188 : ∀ k, k ≠ 0 → va_up (kb_thr X1 (nI 0)) 195 (upd (X 195) (48 * B + 3 * rr + j0) c0) 188 k = X 188 k := fun k hk => by
    rw [kb_up_ne (by decide), kb_thr_k hk, hX 188 (by decide)]
  have em : ∀ j, va_up (kb_thr X1 (nI 0)) 195 (upd (X 195) (48 * B + 3 * rr + j0) c0) 195 j = if j = 48 * B + 3 * rr + j0 then c0 else X 195 j := fun j => by
    rw [kb_up_self]
    rfl
  have ec : ∀ j, va_up (kb_thr X1 (nI 0)) 195 (upd (X 195) (48 * B + 3 * rr + j0) c0) (148 + 5 * B + 1) j = if j = 3 * rr + j0 then c0 else X (148 + 5 * B + 1) j := fun j => by
    rw [kb_up_ne (by omega), kb_thr_ne (by omega), h1, kb_unw_ne (by omega), kb_up_self]
    rfl
  have ef : ∀ j, va_up (kb_thr X1 (nI 0)) 195 (upd (X 195) (48 * B + 3 * rr + j0) c0) (148 + 5 * B) j = if j = 4 then nI 0 else X (148 + 5 * B) j := fun j => by
    rw [kb_up_ne (by omega), kb_thr_ne (by omega), h1]
    unfold kb_unw
    rw [kb_up_self, kb_up_ne (by omega)]
    rfl
  generalize va_up (kb_thr X1 (nI 0)) 195 (upd (X 195) (48 * B + 3 * rr + j0) c0) = X9 at hz e188 em ec ef
  have z2 := e188 2 (by decide)
  refine hR.upP b2 (by rw [z2]; exact hR.1.1.2) (by rw [hz 0 (by decide) (by decide) (by omega) (by omega)]) (by rw [z2, hz 0 (by decide) (by decide) (by omega) (by omega)]; exact hR.2.1.2) (e188 1 (by decide)) (fun b' _ => by rw [z2]) (fun b hb j hj => hz _ (by omega) (by omega) (by omega) (by omega)) (fun q' h1 h2 j hj => hz _ (by omega) (by omega) (by omega) (by omega)) (fun z h1 h2 => hz _ (by omega) (by omega) (by omega) (by omega)) (fun b' _ => by rw [hz 193 (by decide) (by decide) (by omega) (by omega)]) (fun b' _ => by rw [hz 194 (by decide) (by decide) (by omega) (by omega)]) (fun j hj => by rw [em, if_neg (by omega)]) (fun j _ => by rw [hz 196 (by decide) (by decide) (by omega) (by omega)]) (fun _ => ?_) (fun j hj => ?_) (fun j hj => ?_) ?_
  · rw [hz 193 (by decide) (by decide) (by omega) (by omega), hz 194 (by decide) (by decide) (by omega) (by omega)]
    exact ⟨l1, l2, l3, l4⟩
  · rw [em]
    split
    · rw [c3]; exact kb_le_nI (by omega) (by decide)
    · exact hR.1.2.2.2.2.2.1 _ (by omega)
  · rw [hz 196 (by decide) (by decide) (by omega) (by omega)]
    exact hR.1.2.2.2.2.2.2 _ (by omega)
  · have emu : kb_mmu X9 B = kb_mmu X B := by
      funext j
      unfold kb_mmu
      rw [hz 196 (by decide) (by decide) (by omega) (by omega)]
    unfold kb_rp
    rw [z2, hz 193 (by decide) (by decide) (by omega) (by omega), hz 194 (by decide) (by decide) (by omega) (by omega), hz (148 + 5 * B + 2) (by omega) (by omega) (by omega) (by omega), emu, ef, ef, ef, if_neg (by decide), if_neg (by decide), if_pos rfl]
    refine ⟨r1, r2, fun _ => ⟨fun r hr k hk => ?_, r6, Or.inl rfl⟩, fun _ => rfl⟩
    have hk3' := Nat.lt_of_lt_of_le hk (kb_kn_le (r := r) l1.2)
    rw [ec, em]
    by_cases e : r = rr ∧ k = j0
    · rw [if_pos (by omega), if_pos (by omega)]
    · rw [if_neg (by omega), if_neg (by omega)]
      exact r5 r hr k hk
theorem kb_s_must {X X1 X2 : Nat → Nat → Int32} {b t c0 v0 v : Int32} {kk : Nat} (hR : kb_REL X) (hc : kb_hx (kb_e b (X 0 4) ∧ kb_e t (X (148 + 5 * kb_tn b) 2)) (kb_e c0 (nI 5)) (fun v X1 => v = X (148 + 5 * kb_tn b + 2) (kb_tn t) ∧ X1 = kb_unw (va_up X (148 + 5 * kb_tn b + 2) (upd (X (148 + 5 * kb_tn b + 2)) (kb_tn t) c0)) (kb_tn b)) (fun X1 => X1 = X) kk v0 X1)
    (hX : kb_MU X X1) (hm : kb_om (kb_okP X1 b ∧ (¬ t < 0 ∧ ¬ X1 193 (kb_tn b) ≤ t)) (¬ c0 < 0 ∧ ¬ nI 4 < c0) (fun r X' => r = X1 196 (6 * kb_tn b + kb_tn t) ∧ X' = va_up (kb_thr X1 (nI 0)) 196 (upd (X1 196) (6 * kb_tn b + kb_tn t) c0)) X1 v X2) : kb_stp kk v0 v X2 := by
  refine kb_pair hc hm (hR.okQ hX) (fun _ => kb_ec5) (fun h => by rw [h]; exact hR) (fun c1 c2 h1 h2 => ?_)
  obtain ⟨hb, ht⟩ := c1
  obtain ⟨b1, b2, b3⟩ := hR.eP hb
  obtain ⟨-, ⟨r1, r2, r3, r4⟩, l1, l2, l3, l4⟩ := hR.rpd b1
  obtain ⟨r5, r6, r7⟩ := r3 b1
  rw [r1] at ht
  obtain ⟨t1, t2⟩ := ht.nat l1.1
  obtain ⟨c3, c4⟩ := c2.natN (by decide)
  have e196 : X1 196 = X 196 := hX 196 (by decide)
  obtain ⟨rfl, h1⟩ := h1
  obtain ⟨rfl, h2⟩ := h2
  rw [e196] at h2 ⊢
  generalize kb_tn b = B at *
  generalize kb_tn t = T at *
  have hT6 : T < 6 := Nat.lt_of_lt_of_le t2 l1.2
  refine ⟨?_, ?_⟩
  · rw [r6 T hT6]
    unfold kb_m6 kb_mmu
    rw [if_pos t2]
    exact (hR.1.2.2.2.2.2.2 _ (by omega)).1.symm
  rw [h2]
  have hz : ∀ z, z ≠ 188 → z ≠ 196 → z ≠ 148 + 5 * B → z ≠ 148 + 5 * B + 2 → va_up (kb_thr X1 (nI 0)) 196 (upd (X 196) (6 * B + T) c0) z = X z := fun z a b c d => by
    rw [kb_up_ne b, kb_thr_ne a, h1, kb_unw_ne c, kb_up_ne d]
  have e188 : ∀ k, k ≠ 0 → va_up (kb_thr X1 (nI 0)) 196 (upd (X 196) (6 * B + T) c0) 188 k = X 188 k := fun k hk => by
    rw [kb_up_ne (by decide), kb_thr_k hk, hX 188 (by decide)]
  have em : ∀ j, va_up (kb_thr X1 (nI 0)) 196 (upd (X 196) (6 * B + T) c0) 196 j = if j = 6 * B + T then c0 else X 196 j := fun j => by
    rw [kb_up_self]
    rfl
  have ec : ∀ j, va_up (kb_thr X1 (nI 0)) 196 (upd (X 196) (6 * B + T) c0) (148 + 5 * B + 2) j = if j = T then c0 else X (148 + 5 * B + 2) j := fun j => by
    rw [kb_up_ne (by omega), kb_thr_ne (by omega), h1, kb_unw_ne (by omega), kb_up_self]
    rfl
  have ef : ∀ j, va_up (kb_thr X1 (nI 0)) 196 (upd (X 196) (6 * B + T) c0) (148 + 5 * B) j = if j = 4 then nI 0 else X (148 + 5 * B) j := fun j => by
    rw [kb_up_ne (by omega), kb_thr_ne (by omega), h1]
    unfold kb_unw
    rw [kb_up_self, kb_up_ne (by omega)]
    rfl
  generalize va_up (kb_thr X1 (nI 0)) 196 (upd (X 196) (6 * B + T) c0) = X9 at hz e188 em ec ef
  have z2 := e188 2 (by decide)
  refine hR.upP b2 (by rw [z2]; exact hR.1.1.2) (by rw [hz 0 (by decide) (by decide) (by omega) (by omega)]) (by rw [z2, hz 0 (by decide) (by decide) (by omega) (by omega)]; exact hR.2.1.2) (e188 1 (by decide)) (fun b' _ => by rw [z2]) (fun b hb j hj => hz _ (by omega) (by omega) (by omega) (by omega)) (fun q' h1 h2 j hj => hz _ (by omega) (by omega) (by omega) (by omega)) (fun z h1 h2 => hz _ (by omega) (by omega) (by omega) (by omega)) (fun b' _ => by rw [hz 193 (by decide) (by decide) (by omega) (by omega)]) (fun b' _ => by rw [hz 194 (by decide) (by decide) (by omega) (by omega)]) (fun j _ => by rw [hz 195 (by decide) (by decide) (by omega) (by omega)]) (fun j hj => by rw [em, if_neg (by omega)]) (fun _ => ?_) (fun j hj => ?_) (fun j hj => ?_) ?_
  · rw [hz 193 (by decide) (by decide) (by omega) (by omega), hz 194 (by decide) (by decide) (by omega) (by omega)]
    exact ⟨l1, l2, l3, l4⟩
  · rw [hz 195 (by decide) (by decide) (by omega) (by omega)]
    exact hR.1.2.2.2.2.2.1 _ (by omega)
  · rw [em]
    split
    · rw [c3]; exact kb_le_nI (by omega) (by decide)
    · exact hR.1.2.2.2.2.2.2 _ (by omega)
  · unfold kb_rp
    rw [z2, hz 193 (by decide) (by decide) (by omega) (by omega), hz 194 (by decide) (by decide) (by omega) (by omega), hz (148 + 5 * B + 1) (by omega) (by omega) (by omega) (by omega), hz 195 (by decide) (by decide) (by omega) (by omega), ef, ef, ef, if_neg (by decide), if_neg (by decide), if_pos rfl]
    refine ⟨r1, r2, fun _ => ⟨r5, fun j hj => ?_, Or.inl rfl⟩, fun _ => rfl⟩
    have old := r6 j hj
    unfold kb_m6 kb_mmu at old ⊢
    rw [ec, em]
    by_cases e : j = T
    · rw [if_pos e, if_pos (by omega), if_pos (by omega)]
      exact c3
    · rw [if_neg e, if_neg (show ¬ 6 * B + j = 6 * B + T by omega)]
      exact old

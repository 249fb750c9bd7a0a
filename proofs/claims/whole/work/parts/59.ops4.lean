/-! ===== copy, and the steps that work a picture out ===== -/
theorem kb_s_copy {X X1 X2 : Nat → Nat → Int32} {b d v0 v : Int32} {kk : Nat} (hR : kb_REL X) (hc : kb_hx (kb_e b (X 0 4) ∧ kb_e d (X 0 3)) True (fun v X1 => ((¬ (X (148 + 5 * kb_tn b) 2 = X (92 + 7 * kb_tn d) 2 ∧ X (148 + 5 * kb_tn b) 3 = X (92 + 7 * kb_tn d) 3) ∧ v = nI 0 ∧ X1 = X) ∨ ((X (148 + 5 * kb_tn b) 2 = X (92 + 7 * kb_tn d) 2 ∧ X (148 + 5 * kb_tn b) 3 = X (92 + 7 * kb_tn d) 3) ∧ v = nI 1 ∧ (∀ z, z ≠ 148 + 5 * kb_tn b → z ≠ 148 + 5 * kb_tn b + 1 → z ≠ 92 + 7 * kb_tn d + 3 → z ≠ 92 + 7 * kb_tn d + 4 → z ≠ 92 + 7 * kb_tn d + 5 → X1 z = X z) ∧ (∀ j, j ≠ 4 → X1 (148 + 5 * kb_tn b) j = X (148 + 5 * kb_tn b) j) ∧ X1 (148 + 5 * kb_tn b) 4 = nI 0 ∧ ∀ r, r < (kb_tn (X (92 + 7 * kb_tn d) 3)) → ∀ k, k < kb_kn (kb_tn (X (92 + 7 * kb_tn d) 2)) r → X1 (148 + 5 * kb_tn b + 1) (3 * r + k) = X (92 + 7 * kb_tn d + 1) (kb_sh (kb_kd (X (92 + 7 * kb_tn d + 2))) (kb_tn (X (92 + 7 * kb_tn d) 2)) r k)))) (fun X1 => X1 = X) kk v0 X1)
    (hX : kb_MU X X1) (hm : kb_om (kb_okP X1 b ∧ (kb_okB X1 d)) True (fun v X' => (¬ (X1 193 (kb_tn b) = X1 189 (kb_tn d) ∧ X1 194 (kb_tn b) = X1 190 (kb_tn d)) → v = nI 0 ∧ X' = kb_thr X1 (nI 0)) ∧ ((X1 193 (kb_tn b) = X1 189 (kb_tn d) ∧ X1 194 (kb_tn b) = X1 190 (kb_tn d)) → v = nI 1 ∧ kb_cpd X1 X' (kb_tn b) (kb_tn d) (kb_tn (X1 189 (kb_tn d))) (fun r' k' => r' < kb_tn (X1 190 (kb_tn d)) ∧ k' < kb_kn (kb_tn (X1 189 (kb_tn d))) r'))) X1 v X2) : kb_stp kk v0 v X2 := by
  refine kb_pair hc hm (and_congr (hR.okP hX) (hR.okB hX)) (fun _ => Iff.rfl) (fun h => by rw [h]; exact hR) (fun c1 _ h1 h2 => ?_)
  obtain ⟨hb, hd⟩ := c1
  obtain ⟨b1, b2, b3⟩ := hR.eP hb
  obtain ⟨d1, d2, d3⟩ := hR.eB hd
  obtain ⟨-, ⟨r1, r2, r3, r4⟩, l1, l2, l3, l4⟩ := hR.rpd b1
  obtain ⟨r5, r6, r7⟩ := r3 b1
  obtain ⟨-, ⟨s1, s2, s3, s4, s5⟩, k1, k2, k3⟩ := hR.rbd d1
  have hkd := hR.kinds hX d1
  rw [s1, s2] at hkd
  rw [hX 193 (by decide), hX 194 (by decide), hX 189 (by decide), hX 190 (by decide)] at h2
  rw [r1, r2, s1, s2] at h1
  rcases h1 with ⟨a1, rfl, h1⟩ | ⟨a1, rfl, h3, h4, h5, h6⟩
  · obtain ⟨rfl, rfl⟩ := h2.1 a1
    rw [h1]
    exact ⟨rfl, hR.sc (kb_SC.thr _ _)⟩
  · obtain ⟨rfl, g1, g2, g3⟩ := h2.2 a1
    refine ⟨rfl, ?_⟩
    generalize kb_tn b = B at *
    generalize kb_tn d = D at *
    obtain ⟨a1, a2⟩ := a1
    have hP3 : ∀ r k, (r < kb_tn (X 190 D) ∧ k < kb_kn (kb_tn (X 189 D)) r) → r < 16 ∧ k < 3 := fun r k h => ⟨Nat.lt_of_lt_of_le h.1 k3.2, Nat.lt_of_lt_of_le h.2 (kb_kn_le k1.2)⟩
    have hz : ∀ z, z ≠ 188 → z ≠ 195 → z < 197 → z ≠ 148 + 5 * B → z ≠ 148 + 5 * B + 1 → z ≠ 92 + 7 * D + 3 → z ≠ 92 + 7 * D + 4 → z ≠ 92 + 7 * D + 5 → X2 z = X z := fun z a b c e f g h i => by
      rw [g1 z (by omega) b, kb_thr_ne a, h3 z e f g h i]
    have e188 : ∀ k, k ≠ 0 → X2 188 k = X 188 k := fun k hk => by
      rw [g1 188 (by decide) (by decide), kb_thr_k hk, hX 188 (by decide)]
    have ef : ∀ j, X2 (148 + 5 * B) j = X1 (148 + 5 * B) j := fun j => by
      rw [g1 _ (by omega) (by omega), kb_thr_ne (by omega)]
    have ec : ∀ j, X2 (148 + 5 * B + 1) j = X1 (148 + 5 * B + 1) j := fun j => by
      rw [g1 _ (by omega) (by omega), kb_thr_ne (by omega)]
    have e195 : ∀ j, (j < 48 * B ∨ 48 * B + 48 ≤ j) → X2 195 j = X 195 j := fun j hj => by
      rw [g3 j (fun r k hp => by have := hP3 r k hp; omega), hX 195 (by decide)]
    have z2 := e188 2 (by decide)
    have z0 : X2 0 = X 0 := hz 0 (by decide) (by decide) (by decide) (by omega) (by omega) (by omega) (by omega) (by omega)
    have hm9 : ∀ z, 189 ≤ z → z < 197 → z ≠ 195 → X2 z = X z := fun z a b c => hz z (by omega) c b (by omega) (by omega) (by omega) (by omega) (by omega)
    refine hR.upP b2 (by rw [z2]; exact hR.1.1.2) (by rw [z0]) (by rw [z2, z0]; exact hR.2.1.2) (e188 1 (by decide)) (fun b' _ => by rw [z2]) (fun b hb j hj => hz _ (by omega) (by omega) (by omega) (by omega) (by omega) (by omega) (by omega) (by omega)) (fun q' h1 h2 j hj => hz _ (by omega) (by omega) (by omega) (by omega) (by omega) (by omega) (by omega) (by omega)) (fun z h1 h2 => hm9 _ (by omega) (by omega) (by omega)) (fun b' _ => by rw [hm9 193 (by decide) (by decide) (by decide)]) (fun b' _ => by rw [hm9 194 (by decide) (by decide) (by decide)]) e195 (fun j _ => by rw [hm9 196 (by decide) (by decide) (by decide)]) (fun _ => ?_) (fun j hj => ?_) (fun j hj => ?_) ?_
    · rw [hm9 193 (by decide) (by decide) (by decide), hm9 194 (by decide) (by decide) (by decide)]
      exact ⟨l1, l2, l3, l4⟩
    · by_cases e : ∃ r k, (r < kb_tn (X 190 D) ∧ k < kb_kn (kb_tn (X 189 D)) r) ∧ j = 3 * r + k
      · obtain ⟨r, k, hp, rfl⟩ := e
        rw [show 48 * B + (3 * r + k) = 48 * B + 3 * r + k by omega, g2 r k hp, hX 191 (by decide)]
        refine (hR.1.2.2.1 _ ?_).mono (by decide)
        have := kb_sh_lt (kd := kb_mkd X1 D) hp.2
        have := k1.2
        omega
      · rw [g3 _ (fun r k hp heq => e ⟨r, k, hp, by omega⟩), hX 195 (by decide)]
        exact hR.1.2.2.2.2.2.1 _ (by omega)
    · rw [hm9 196 (by decide) (by decide) (by decide)]
      exact hR.1.2.2.2.2.2.2 _ (by omega)
    · have emu : kb_mmu X2 B = kb_mmu X B := by
        funext j
        unfold kb_mmu
        rw [hm9 196 (by decide) (by decide) (by decide)]
      have p2 : X2 (148 + 5 * B + 2) = X (148 + 5 * B + 2) := hz _ (by omega) (by omega) (by omega) (by omega) (by omega) (by omega) (by omega) (by omega)
      unfold kb_rp
      rw [z2, hm9 193 (by decide) (by decide) (by decide), hm9 194 (by decide) (by decide) (by decide), p2, emu, ef, ef, ef, h5, h4 2 (by decide), h4 3 (by decide)]
      refine ⟨r1, r2, fun _ => ⟨fun r hr k hk => ?_, r6, Or.inl rfl⟩, fun _ => rfl⟩
      rw [a2] at hr
      rw [a1] at hk
      rw [ec, h6 r hr k hk, g2 r k ⟨hr, hk⟩, hX 191 (by decide), kb_sh_congr hkd hr hk]
      exact s3 _ (Nat.lt_of_lt_of_le (kb_sh_lt hk) k1.2)
theorem kb_MU.mtd {X X1 : Nat → Nat → Int32} (h : kb_MU X X1) (q : Nat) : kb_mtd X1 q = kb_mtd X q := by
  funext r k
  unfold kb_mtd
  rw [h 195 (by decide)]
theorem kb_MU.mmu {X X1 : Nat → Nat → Int32} (h : kb_MU X X1) (q : Nat) : kb_mmu X1 q = kb_mmu X q := by
  funext j
  unfold kb_mmu
  rw [h 196 (by decide)]
theorem kb_MU.mst {X X1 : Nat → Nat → Int32} (h : kb_MU X X1) (q : Nat) : kb_mst X1 q = kb_mst X q := by
  unfold kb_mst
  rw [h.mtd, h.mmu, h 193 (by decide), h 194 (by decide)]
theorem kb_MU.msus {X X1 : Nat → Nat → Int32} (h : kb_MU X X1) (q : Nat) : kb_msus X1 q = kb_msus X q := by
  unfold kb_msus
  rw [h.mst, h.mtd, h.mmu, h 193 (by decide), h 194 (by decide)]
/-- as many starts -/
theorem kb_REL.ct {X : Nat → Nat → Int32} (h : kb_REL X) {q : Nat} (hq : q < kb_tn (X 188 2)) : kb_ct (kb_St (kb_tn (X (148 + 5 * q) 2)) (kb_tn (X (148 + 5 * q) 3)) (kb_mtd X q) (kb_mu6 X q)) 4096 = kb_ct (kb_mst X q) (4 ^ kb_tn (X 193 q)) := by
  obtain ⟨-, ⟨r1, r2, -⟩, l1, l2, l3, l4⟩ := h.rpd hq
  rw [r1, r2]
  unfold kb_mu6 kb_mst
  exact kb_ct_St l1.2 l3.2
theorem kb_s_starts {X X1 X2 : Nat → Nat → Int32} {b v0 v : Int32} {kk : Nat} (hR : kb_REL X) (hc : kb_hx (kb_e b (X 0 4)) True (fun v X1 => v = nI (kb_ct (kb_St (kb_tn (X (148 + 5 * kb_tn b) 2)) (kb_tn (X (148 + 5 * kb_tn b) 3)) (kb_mtd X (kb_tn b)) (kb_mu6 X (kb_tn b))) 4096) ∧ kb_wout (kb_tn b) (kb_tn (X (148 + 5 * kb_tn b) 2)) (kb_tn (X (148 + 5 * kb_tn b) 3)) (kb_mtd X (kb_tn b)) (kb_mu6 X (kb_tn b)) X X1) (fun X1 => X1 = X) kk v0 X1)
    (hX : kb_MU X X1) (hm : kb_om (kb_okP X1 b) True (fun v X' => v = nI (kb_ct (kb_mst X1 (kb_tn b)) (4 ^ kb_tn (X1 193 (kb_tn b)))) ∧ kb_MS X1 X') X1 v X2) : kb_stp kk v0 v X2 := by
  refine kb_pair hc hm (hR.okP hX) (fun _ => Iff.rfl) (fun h => by rw [h]; exact hR) (fun hb _ h1 h2 => ?_)
  obtain ⟨b1, b2, b3⟩ := hR.eP hb
  obtain ⟨rfl, h1⟩ := h1
  obtain ⟨rfl, h2⟩ := h2
  refine ⟨?_, (hR.wout b1 h1).sc (kb_SC.ms h2)⟩
  rw [hR.ct b1, hX.mst, hX 193 (by decide)]
theorem kb_min_uniq {P : Nat → Prop} {s t : Nat} (h1 : P s) (h2 : ∀ u, u < s → ¬ P u) (h3 : P t) (h4 : ∀ u, u < t → ¬ P u) : s = t := by
  rcases Nat.lt_trichotomy s t with h | h | h
  · exact absurd h1 (h4 s h)
  · exact h
  · exact absurd h3 (h2 t h)
/-- what the loom has found: the first start, as the reference has it -/
theorem kb_REL.fst {X X1 : Nat → Nat → Int32} (h : kb_REL X) {q : Nat} (hq : q < kb_tn (X 188 2)) (hw : kb_wout q (kb_tn (X (148 + 5 * q) 2)) (kb_tn (X (148 + 5 * q) 3)) (kb_mtd X q) (kb_mu6 X q) X X1) : (∃ s, s < 4 ^ kb_tn (X 193 q) ∧ kb_mst X q s ∧ (∀ t, t < s → ¬ kb_mst X q t) ∧ X1 (148 + 5 * q) 6 = nI (kb_em (kb_tn (X 193 q)) s)) ∨ ((∀ s, s < 4 ^ kb_tn (X 193 q) → ¬ kb_mst X q s) ∧ X1 (148 + 5 * q) 6 = -1) := by
  obtain ⟨-, ⟨r1, r2, -⟩, l1, l2, l3, l4⟩ := h.rpd hq
  rw [r1, r2] at hw
  have k2 := hw.2.2.2.2.2.1
  unfold kb_mu6 at k2
  exact kb_fst_em l1.2 l3.2 k2
theorem kb_s_start {X X1 X2 : Nat → Nat → Int32} {b t v0 v : Int32} {kk : Nat} (hR : kb_REL X) (hc : kb_hx (kb_e b (X 0 4) ∧ kb_e t (X (148 + 5 * kb_tn b) 2)) True (fun v X1 => kb_wout (kb_tn b) (kb_tn (X (148 + 5 * kb_tn b) 2)) (kb_tn (X (148 + 5 * kb_tn b) 3)) (kb_mtd X (kb_tn b)) (kb_mu6 X (kb_tn b)) X X1 ∧ v = (if (kb_ct (kb_St (kb_tn (X (148 + 5 * kb_tn b) 2)) (kb_tn (X (148 + 5 * kb_tn b) 3)) (kb_mtd X (kb_tn b)) (kb_mu6 X (kb_tn b))) 4096) = 0 then -1 else kb_colourIn (X1 (148 + 5 * kb_tn b) 6) t)) (fun X1 => X1 = X) kk v0 X1)
    (hX : kb_MU X X1) (hm : kb_om (kb_okP X1 b ∧ (¬ t < 0 ∧ ¬ X1 193 (kb_tn b) ≤ t)) True (fun v X' => kb_MS X1 X' ∧ ((∃ s, s < 4 ^ kb_tn (X1 193 (kb_tn b)) ∧ kb_mst X1 (kb_tn b) s ∧ (∀ t, t < s → ¬ kb_mst X1 (kb_tn b) t) ∧ v = nI (kb_dg (kb_tn (X1 193 (kb_tn b))) s (kb_tn t))) ∨ ((∀ s, s < 4 ^ kb_tn (X1 193 (kb_tn b)) → ¬ kb_mst X1 (kb_tn b) s) ∧ v = -1))) X1 v X2) : kb_stp kk v0 v X2 := by
  refine kb_pair hc hm (hR.okQ hX) (fun _ => Iff.rfl) (fun h => by rw [h]; exact hR) (fun c1 _ h1 h2 => ?_)
  obtain ⟨hb, ht⟩ := c1
  obtain ⟨b1, b2, b3⟩ := hR.eP hb
  obtain ⟨-, ⟨r1, -⟩, l1, l2, l3, l4⟩ := hR.rpd b1
  obtain ⟨h1, rfl⟩ := h1
  obtain ⟨h2, h3⟩ := h2
  refine ⟨?_, (hR.wout b1 h1).sc (kb_SC.ms h2)⟩
  have hf := hR.fst b1 h1
  rw [hR.ct b1]
  rw [hX.mst, hX 193 (by decide)] at h3
  rw [r1] at ht
  obtain ⟨t1, t2⟩ := ht.nat l1.1
  rcases h3 with ⟨s, s1, s2, s3, rfl⟩ | ⟨s1, rfl⟩
  · have hne : ¬ kb_ct (kb_mst X (kb_tn b)) (4 ^ kb_tn (X 193 (kb_tn b))) = 0 := fun z => kb_ct_zero.mp z s s1 s2
    rw [if_neg hne]
    rcases hf with ⟨s', p1, p2, p3, p4⟩ | ⟨p1, -⟩
    · have e := kb_min_uniq s2 s3 p2 p3
      subst e
      have hT6 : kb_tn t < 6 := Nat.lt_of_lt_of_le t2 l1.2
      have := nv_colourIn (kb_em_lt l1.2 s1) hT6
      rw [← t1] at this
      rw [p4, this, show kb_dg 6 (kb_em (kb_tn (X 193 (kb_tn b))) s) (kb_tn t) = kb_dg (kb_tn (X 193 (kb_tn b))) s (kb_tn t) from kb_dg_emb l1.2 t2]
    · exact absurd s2 (p1 s s1)
  · rw [if_pos (kb_ct_zero.mpr s1)]
theorem kb_im1 {i : Int32} {m : Nat} (hm : m < 2 ^ 31) : (i = -1 ∨ kb_e i (nI m)) ↔ (¬ i < -1 ∧ ¬ nI m ≤ i) := by
  have hm1 : (-1 : Int32).toInt = -1 := by decide
  have h00 : (0 : Int32).toInt = 0 := by decide
  unfold kb_e
  rw [Int32.lt_iff_toInt_lt, Int32.lt_iff_toInt_lt, Int32.le_iff_toInt_le, nI_toInt hm]
  constructor
  · rintro (rfl | ⟨h1, h2⟩)
    · exact ⟨by omega, by omega⟩
    · exact ⟨by omega, h2⟩
  · rintro ⟨h1, h2⟩
    by_cases e : i.toInt = -1
    · exact Or.inl (Int32.toInt_inj.mp (by omega))
    · exact Or.inr ⟨by omega, h2⟩
/-- the suspects of class and reference -/
theorem kb_REL.sus {X : Nat → Nat → Int32} (h : kb_REL X) {q : Nat} (hq : q < kb_tn (X 188 2)) : (if kb_ct (kb_St (kb_tn (X (148 + 5 * q) 2)) (kb_tn (X (148 + 5 * q) 3)) (kb_mtd X q) (kb_mu6 X q)) 4096 = 0 then (kb_Lq (kb_tn (X (148 + 5 * q) 2)) (kb_tn (X (148 + 5 * q) 3)) (kb_mtd X q) (kb_mu6 X q)).length else 0) = (kb_msus X q).length ∧ (0 < (kb_msus X q).length → kb_Lq (kb_tn (X (148 + 5 * q) 2)) (kb_tn (X (148 + 5 * q) 3)) (kb_mtd X q) (kb_mu6 X q) = kb_msus X q) ∧ (kb_msus X q).length ≤ 48 := by
  rw [h.ct hq]
  obtain ⟨-, ⟨r1, r2, -⟩, l1, l2, l3, l4⟩ := h.rpd hq
  rw [r1, r2]
  have hL : kb_Lq (kb_tn (X 193 q)) (kb_tn (X 194 q)) (kb_mtd X q) (kb_mu6 X q) = kb_sls (kb_sus (kb_tn (X 193 q)) (kb_tn (X 194 q)) (kb_mtd X q) (kb_mmu X q)) (kb_tn (X 193 q)) (kb_tn (X 194 q)) := by
    unfold kb_mu6
    exact kb_Lq_sls l1.2 l3.2
  by_cases e : ∃ s, s < 4 ^ kb_tn (X 193 q) ∧ kb_mst X q s
  · have es : kb_msus X q = [] := by unfold kb_msus; rw [kb_b_t e]; rfl
    obtain ⟨s, s1, s2⟩ := e
    rw [es, if_neg (fun z => kb_ct_zero.mp z s s1 s2)]
    exact ⟨rfl, fun z => absurd z (by decide), Nat.zero_le _⟩
  · have es : kb_msus X q = kb_sls (kb_sus (kb_tn (X 193 q)) (kb_tn (X 194 q)) (kb_mtd X q) (kb_mmu X q)) (kb_tn (X 193 q)) (kb_tn (X 194 q)) := by unfold kb_msus; rw [kb_b_f e]; rfl
    rw [es, hL, if_pos (kb_ct_zero.mpr (fun s s1 s2 => e ⟨s, s1, s2⟩))]
    refine ⟨rfl, fun _ => rfl, ?_⟩
    have := kb_sls_len (kb_sus (kb_tn (X 193 q)) (kb_tn (X 194 q)) (kb_mtd X q) (kb_mmu X q)) l1.2 (kb_tn (X 194 q))
    have := l3.2
    omega
theorem kb_s_suspect {X X1 X2 : Nat → Nat → Int32} {b i v0 v : Int32} {kk : Nat} (hR : kb_REL X) (hc : kb_hx (kb_e b (X 0 4) ∧ (i = -1 ∨ kb_e i (nI (if kb_ct (kb_St (kb_tn (X (148 + 5 * kb_tn b) 2)) (kb_tn (X (148 + 5 * kb_tn b) 3)) (kb_mtd X (kb_tn b)) (kb_mu6 X (kb_tn b))) 4096 = 0 then (kb_Lq (kb_tn (X (148 + 5 * kb_tn b) 2)) (kb_tn (X (148 + 5 * kb_tn b) 3)) (kb_mtd X (kb_tn b)) (kb_mu6 X (kb_tn b))).length else 0)))) True (fun v X1 => kb_wout (kb_tn b) (kb_tn (X (148 + 5 * kb_tn b) 2)) (kb_tn (X (148 + 5 * kb_tn b) 3)) (kb_mtd X (kb_tn b)) (kb_mu6 X (kb_tn b)) X X1 ∧ v = (if i = -1 then nI (if kb_ct (kb_St (kb_tn (X (148 + 5 * kb_tn b) 2)) (kb_tn (X (148 + 5 * kb_tn b) 3)) (kb_mtd X (kb_tn b)) (kb_mu6 X (kb_tn b))) 4096 = 0 then (kb_Lq (kb_tn (X (148 + 5 * kb_tn b) 2)) (kb_tn (X (148 + 5 * kb_tn b) 3)) (kb_mtd X (kb_tn b)) (kb_mu6 X (kb_tn b))).length else 0) else nI ((kb_Lq (kb_tn (X (148 + 5 * kb_tn b) 2)) (kb_tn (X (148 + 5 * kb_tn b) 3)) (kb_mtd X (kb_tn b)) (kb_mu6 X (kb_tn b))).getD (kb_tn i) 0))) (fun X1 => X1 = X ∨ (kb_e b (X 0 4) ∧ kb_wout (kb_tn b) (kb_tn (X (148 + 5 * kb_tn b) 2)) (kb_tn (X (148 + 5 * kb_tn b) 3)) (kb_mtd X (kb_tn b)) (kb_mu6 X (kb_tn b)) X X1)) kk v0 X1)
    (hX : kb_MU X X1) (hm : (¬ kb_okP X1 b ∧ X2 = kb_thr X1 (nI 1)) ∨ (kb_okP X1 b ∧ ¬ (¬ i < -1 ∧ ¬ nI (kb_msus X1 (kb_tn b)).length ≤ i) ∧ X2 188 0 = nI 1 ∧ kb_MS X1 X2) ∨ (kb_okP X1 b ∧ (¬ i < -1 ∧ ¬ nI (kb_msus X1 (kb_tn b)).length ≤ i) ∧ v = (if i = -1 then nI (kb_msus X1 (kb_tn b)).length else nI ((kb_msus X1 (kb_tn b)).getD (kb_tn i) 0)) ∧ X2 188 0 = nI 0 ∧ kb_MS X1 X2)) : kb_stp kk v0 v X2 := by
  rw [hX.msus, ← hR.okP hX] at hm
  have key : kb_e b (X 0 4) → ((i = -1 ∨ kb_e i (nI (if kb_ct (kb_St (kb_tn (X (148 + 5 * kb_tn b) 2)) (kb_tn (X (148 + 5 * kb_tn b) 3)) (kb_mtd X (kb_tn b)) (kb_mu6 X (kb_tn b))) 4096 = 0 then (kb_Lq (kb_tn (X (148 + 5 * kb_tn b) 2)) (kb_tn (X (148 + 5 * kb_tn b) 3)) (kb_mtd X (kb_tn b)) (kb_mu6 X (kb_tn b))).length else 0))) ↔ (¬ i < -1 ∧ ¬ nI (kb_msus X (kb_tn b)).length ≤ i)) := fun hb => by
    obtain ⟨u1, u2, u3⟩ := hR.sus (hR.eP hb).1
    rw [u1]
    exact kb_im1 (by omega)
  have hT : (X1 = X ∨ (kb_e b (X 0 4) ∧ kb_wout (kb_tn b) (kb_tn (X (148 + 5 * kb_tn b) 2)) (kb_tn (X (148 + 5 * kb_tn b) 3)) (kb_mtd X (kb_tn b)) (kb_mu6 X (kb_tn b)) X X1)) → kb_REL X1 := fun h => by
    rcases h with h | ⟨hb, h⟩
    · rw [h]; exact hR
    · exact hR.wout (hR.eP hb).1 h
  rcases hc with ⟨⟨a1, a2⟩, -, rfl, a3, rfl⟩ | ⟨a1, rfl, a3⟩ | ⟨-, a1, -⟩
  · rcases hm with ⟨m1, -⟩ | ⟨m1, m2, -⟩ | ⟨-, m2, rfl, m4, m5⟩
    · exact absurd a1 m1
    · exact absurd ((key a1).mp a2) m2
    · refine ⟨m4, fun _ => ?_, (hR.wout (hR.eP a1).1 a3).sc (kb_SC.ms m5)⟩
      obtain ⟨u1, u2, u3⟩ := hR.sus (hR.eP a1).1
      rw [u1]
      by_cases e : i = -1
      · rw [if_pos e, if_pos e]
      · rw [if_neg e, if_neg e, u2]
        have := kb_ix m2 e (by omega)
        omega
  · rcases hm with ⟨-, rfl⟩ | ⟨m1, m2, m3, m4⟩ | ⟨m1, m2, -⟩
    · exact ⟨kb_thr_at, fun z => absurd z (by decide), (hT a3).sc (kb_SC.thr _ _)⟩
    · exact ⟨m3, fun z => absurd z (by decide), (hT a3).sc (kb_SC.ms m4)⟩
    · exact absurd ⟨m1, (key m1).mpr m2⟩ a1
  · exact absurd trivial a1

/-! ===== class and reference side by side: the relation, and what keeps it ===== -/
theorem kb_wq_congr {n h i : Nat} {told told' : Nat → Nat → Nat} (hn : n ≤ 6) (hh : h ≤ 16) (ht : ∀ r, r < h → ∀ k, k < kb_kn n r → told r k = told' r k) (hi : i < kb_kc n h) : kb_wq n told i = kb_wq n told' i := by
  have hK := kb_kc_le n (by omega) h (by omega)
  have hin := kb_rk_in n (by omega) h (by omega) i (by omega) hi
  unfold kb_wq
  exact ht _ hin.1 _ hin.2.1
theorem kb_Az_congr {n h : Nat} {told told' : Nat → Nat → Nat} (hn : n ≤ 6) (hh : h ≤ 16) (ht : ∀ r, r < h → ∀ k, k < kb_kn n r → told r k = told' r k) : kb_Az n h told = kb_Az n h told' := by
  funext z s
  apply propext
  unfold kb_Az
  exact kb_AH_congr _ _ (fun i h1 h2 => kb_wq_congr hn hh ht (by omega)) s
theorem kb_sz_congr {A : Nat → Nat → Prop} {lf wi wi' : Nat → Nat} {s0 K : Nat} (h : ∀ i, i < K → wi i = wi' i) : ∀ z, z ≤ K → kb_sz A lf wi s0 z = kb_sz A lf wi' s0 z
  | 0, _ => rfl
  | z + 1, hz => by
    show kb_bh (kb_sz A lf wi s0 z) (lf z) (kb_l3 (kb_gA (A (z + 1)) (lf z) (wi z) (kb_sz A lf wi s0 z))) = kb_bh (kb_sz A lf wi' s0 z) (lf z) (kb_l3 (kb_gA (A (z + 1)) (lf z) (wi' z) (kb_sz A lf wi' s0 z)))
    rw [kb_sz_congr h z (by omega), h z (by omega)]
theorem kb_kz_congr {A : Nat → Nat → Prop} {lf wi wi' : Nat → Nat} {s0 K z : Nat} (h : ∀ i, i < K → wi i = wi' i) (hz : z < K) : kb_kz A lf wi s0 z = kb_kz A lf wi' s0 z := by
  unfold kb_kz
  rw [kb_sz_congr h z (by omega), h z hz]
theorem kb_ql_congr {Q Q' : Nat → Prop} {nm : Nat → Nat} : ∀ z, (∀ i, i < z → (Q i ↔ Q' i)) → kb_ql Q nm z = kb_ql Q' nm z
  | 0, _ => rfl
  | z + 1, h => by
    show kb_ql Q nm z ++ (if kb_b (Q z) then [nm z] else []) = kb_ql Q' nm z ++ (if kb_b (Q' z) then [nm z] else [])
    rw [kb_ql_congr z (fun i hi => h i (by omega)), propext (h z (Nat.lt_succ_self _))]
theorem kb_Lq_congr {n h : Nat} {told told' : Nat → Nat → Nat} {mu : Nat → Nat} (hn : n ≤ 6) (hh : h ≤ 16) (ht : ∀ r, r < h → ∀ k, k < kb_kn n r → told r k = told' r k) : kb_Lq n h told mu = kb_Lq n h told' mu := by
  unfold kb_Lq
  rw [kb_Az_congr hn hh ht]
  refine kb_ql_congr _ (fun i hi => ?_)
  have e : kb_FW (kb_lq n) (kb_wq n told) (kb_S0 mu 6) i = kb_FW (kb_lq n) (kb_wq n told') (kb_S0 mu 6) i := funext fun s => propext (kb_FW_congr i (fun j hj => kb_wq_congr hn hh ht (by omega)) s)
  unfold kb_qs
  rw [e, kb_wq_congr hn hh ht hi]
theorem kb_wk_congr {q n h : Nat} {told told' : Nat → Nat → Nat} {mu : Nat → Nat} {X X' : Nat → Nat → Int32} (hn : n ≤ 6) (hh : h ≤ 16) (ht : ∀ r, r < h → ∀ k, k < kb_kn n r → told r k = told' r k) (e0 : ∀ j, j ≠ 4 → X' (148 + 5 * q) j = X (148 + 5 * q) j) (e3 : X' (148 + 5 * q + 3) = X (148 + 5 * q + 3)) (e4 : X' (148 + 5 * q + 4) = X (148 + 5 * q + 4)) (hw : kb_wk q n h told mu X) : kb_wk q n h told' mu X' := by
  have hA := kb_Az_congr hn hh ht
  have hS : kb_St n h told' mu = kb_St n h told mu := by
    funext s
    unfold kb_St
    rw [hA]
  have hL := kb_Lq_congr (mu := mu) hn hh ht
  unfold kb_wk at hw ⊢
  rw [e0 5 (by decide), e0 6 (by decide), e0 9 (by decide), e3, e4, hS, ← hL, ← hA]
  refine ⟨hw.1, hw.2.1, fun s0 h1 h2 => ?_, hw.2.2.2⟩
  obtain ⟨h3, h4⟩ := hw.2.2.1 s0 h1 h2
  refine ⟨h3, fun y hy => ?_⟩
  rw [← kb_kz_congr (K := kb_kc n h) (fun i hi => kb_wq_congr hn hh ht hi) hy]
  exact h4 y hy
/-- band b in class and reference; N bands there are -/
def kb_rb (N : Nat) (X : Nat → Nat → Int32) (b : Nat) : Prop := X (92 + 7 * b) 2 = X 189 b ∧ X (92 + 7 * b) 3 = X 190 b ∧ (∀ t, t < 6 → X (92 + 7 * b + 1) t = X 191 (6 * b + t)) ∧
  (b < N → ∀ r, r < kb_tn (X 190 b) → ∀ k, k < kb_kn (kb_tn (X 189 b)) r → kb_kd (X (92 + 7 * b + 2)) r k = kb_mkd X b r k) ∧ (N ≤ b → X 190 b = nI 0)
/-- picture q -/
def kb_rp (N : Nat) (X : Nat → Nat → Int32) (q : Nat) : Prop := X (148 + 5 * q) 2 = X 193 q ∧ X (148 + 5 * q) 3 = X 194 q ∧
  (q < N → (∀ r, r < kb_tn (X 194 q) → ∀ k, k < kb_kn (kb_tn (X 193 q)) r → X (148 + 5 * q + 1) (3 * r + k) = X 195 (48 * q + 3 * r + k)) ∧
    (∀ j, j < 6 → X (148 + 5 * q + 2) j = nI (kb_m6 (kb_tn (X 193 q)) (kb_mmu X q) j)) ∧
    (X (148 + 5 * q) 4 = nI 0 ∨ (X (148 + 5 * q) 4 = nI 1 ∧ kb_wk q (kb_tn (X 193 q)) (kb_tn (X 194 q)) (kb_mtd X q) (kb_m6 (kb_tn (X 193 q)) (kb_mmu X q)) X))) ∧ (N ≤ q → X (148 + 5 * q) 4 = nI 0)
def kb_REL (X : Nat → Nat → Int32) : Prop := kb_MI X ∧ (X 0 3 = X 188 1 ∧ X 0 4 = X 188 2) ∧ (∀ b, b < 8 → kb_rb (kb_tn (X 188 1)) X b) ∧ ∀ q, q < 8 → kb_rp (kb_tn (X 188 2)) X q
theorem kb_rb.go {N N' : Nat} {X X' : Nat → Nat → Int32} {b : Nat} (h : kb_rb N X b) (hN : b < N' ↔ b < N) (h16 : b < N → kb_tn (X 189 b) ≤ 6 ∧ kb_tn (X 190 b) ≤ 16) (e0 : X' (92 + 7 * b) 2 = X (92 + 7 * b) 2) (e1 : X' (92 + 7 * b) 3 = X (92 + 7 * b) 3) (e2 : X' (92 + 7 * b + 1) = X (92 + 7 * b + 1)) (e3 : X' (92 + 7 * b + 2) = X (92 + 7 * b + 2)) (m1 : X' 189 b = X 189 b) (m2 : X' 190 b = X 190 b) (m3 : ∀ t, t < 6 → X' 191 (6 * b + t) = X 191 (6 * b + t)) (m4 : ∀ j, j < 48 → X' 192 (48 * b + j) = X 192 (48 * b + j)) : kb_rb N' X' b := by
  obtain ⟨h1, h2, h3, h4, h5⟩ := h
  refine ⟨by rw [e0, m1, h1], by rw [e1, m2, h2], fun t ht => by rw [e2, m3 t ht, h3 t ht], fun hb r hr k hk => ?_, fun hb => by rw [m2]; exact h5 (by omega)⟩
  rw [m2] at hr
  rw [m1] at hk
  have hb' := hN.mp hb
  have h6 := h16 hb'
  have hk3 := Nat.lt_of_lt_of_le hk (kb_kn_le (r := r) h6.1)
  rw [e3, h4 hb' r hr k hk]
  unfold kb_mkd
  rw [show 48 * b + 3 * r + k = 48 * b + (3 * r + k) by omega, m4 _ (by omega)]
theorem kb_m6_congr {n : Nat} {X X' : Nat → Nat → Int32} {q : Nat} (hn : n ≤ 6) (h : ∀ j, j < 6 → X' 196 (6 * q + j) = X 196 (6 * q + j)) : kb_m6 n (kb_mmu X' q) = kb_m6 n (kb_mmu X q) := by
  funext j
  unfold kb_m6 kb_mmu
  split
  · rw [h j (by omega)]
  · rfl
theorem kb_rp.go {N N' : Nat} {X X' : Nat → Nat → Int32} {q : Nat} (h : kb_rp N X q) (hN : q < N' ↔ q < N) (h16 : q < N → kb_tn (X 193 q) ≤ 6 ∧ kb_tn (X 194 q) ≤ 16) (e0 : X' (148 + 5 * q) = X (148 + 5 * q)) (e1 : X' (148 + 5 * q + 1) = X (148 + 5 * q + 1)) (e2 : X' (148 + 5 * q + 2) = X (148 + 5 * q + 2)) (e3 : X' (148 + 5 * q + 3) = X (148 + 5 * q + 3)) (e4 : X' (148 + 5 * q + 4) = X (148 + 5 * q + 4)) (m1 : X' 193 q = X 193 q) (m2 : X' 194 q = X 194 q) (m3 : ∀ j, j < 48 → X' 195 (48 * q + j) = X 195 (48 * q + j)) (m4 : ∀ j, j < 6 → X' 196 (6 * q + j) = X 196 (6 * q + j)) : kb_rp N' X' q := by
  obtain ⟨h1, h2, h3, h4⟩ := h
  refine ⟨by rw [e0, m1, h1], by rw [e0, m2, h2], fun hq => ?_, fun hq => by rw [e0]; exact h4 (by omega)⟩
  have hq' := hN.mp hq
  obtain ⟨g1, g2, g3⟩ := h3 hq'
  obtain ⟨b1, b2⟩ := h16 hq'
  rw [m1, m2, e0, e1, e2, kb_m6_congr b1 m4]
  have key : ∀ r, r < kb_tn (X 194 q) → ∀ k, k < kb_kn (kb_tn (X 193 q)) r → X' 195 (48 * q + 3 * r + k) = X 195 (48 * q + 3 * r + k) := by
    intro r hr k hk
    have hk3 := Nat.lt_of_lt_of_le hk (kb_kn_le (r := r) b1)
    rw [show 48 * q + 3 * r + k = 48 * q + (3 * r + k) by omega, m3 _ (by omega)]
  refine ⟨fun r hr k hk => ?_, g2, ?_⟩
  · rw [g1 r hr k hk, key r hr k hk]
  · rcases g3 with z | ⟨z1, z2⟩
    · exact Or.inl z
    · exact Or.inr ⟨z1, kb_wk_congr b1 b2 (fun r hr k hk => by unfold kb_mtd; rw [key r hr k hk]) (fun j _ => by rw [e0]) e3 e4 z2⟩
theorem kb_MI.b16 {X : Nat → Nat → Int32} (h : kb_MI X) {b : Nat} (hb : b < kb_tn (X 188 1)) : kb_tn (X 189 b) ≤ 6 ∧ kb_tn (X 190 b) ≤ 16 := ⟨(h.2.1 b hb).1.2, (h.2.1 b hb).2.2.2⟩
theorem kb_MI.p16 {X : Nat → Nat → Int32} (h : kb_MI X) {b : Nat} (hb : b < kb_tn (X 188 2)) : kb_tn (X 193 b) ≤ 6 ∧ kb_tn (X 194 b) ≤ 16 := ⟨(h.2.2.2.2.1 b hb).1.2, (h.2.2.2.2.1 b hb).2.2.1.2⟩
theorem kb_MI.of2 {X X' : Nat → Nat → Int32} (h : kb_MI X) (h1 : ∀ z, 189 ≤ z → z < 197 → X' z = X z) (h2 : ∀ k, k ≠ 0 → X' 188 k = X 188 k) : kb_MI X' := by
  unfold kb_MI at h ⊢
  rw [h2 1 (by decide), h2 2 (by decide), h1 189 (by decide) (by decide), h1 190 (by decide) (by decide), h1 191 (by decide) (by decide), h1 192 (by decide) (by decide), h1 193 (by decide) (by decide), h1 194 (by decide) (by decide), h1 195 (by decide) (by decide), h1 196 (by decide) (by decide)]
  exact h
/-- nothing but scratch has changed -/
def kb_SC (X X' : Nat → Nat → Int32) : Prop := (∀ z, z ≠ 3 → z ≠ 4 → z ≠ 5 → z ≠ 6 → (∀ b, b < 8 → z ≠ 92 + 7 * b + 3 ∧ z ≠ 92 + 7 * b + 4 ∧ z ≠ 92 + 7 * b + 5 ∧ z ≠ 92 + 7 * b + 6) → z ≠ 188 → z < 197 → X' z = X z) ∧ ∀ k, k ≠ 0 → X' 188 k = X 188 k
theorem kb_SC.c0 {X X' : Nat → Nat → Int32} (h : kb_SC X X') : X' 0 = X 0 := h.1 0 (by omega) (by omega) (by omega) (by omega) (fun b hb => by omega) (by omega) (by omega)
theorem kb_SC.b {X X' : Nat → Nat → Int32} (h : kb_SC X X') {b j : Nat} (hb : b < 8) (hj : j < 3) : X' (92 + 7 * b + j) = X (92 + 7 * b + j) := h.1 _ (by omega) (by omega) (by omega) (by omega) (fun b hb => by omega) (by omega) (by omega)
theorem kb_SC.p {X X' : Nat → Nat → Int32} (h : kb_SC X X') {b j : Nat} (hb : b < 8) (hj : j < 5) : X' (148 + 5 * b + j) = X (148 + 5 * b + j) := h.1 _ (by omega) (by omega) (by omega) (by omega) (fun b hb => by omega) (by omega) (by omega)
theorem kb_SC.m {X X' : Nat → Nat → Int32} (h : kb_SC X X') {z : Nat} (h1 : 189 ≤ z) (h2 : z < 197) : X' z = X z := h.1 _ (by omega) (by omega) (by omega) (by omega) (fun b hb => by omega) (by omega) (by omega)
theorem kb_SC.rf (X : Nat → Nat → Int32) : kb_SC X X := ⟨fun _ _ _ _ _ _ _ _ => rfl, fun _ _ => rfl⟩
theorem kb_SC.trans {X X1 X2 : Nat → Nat → Int32} (h1 : kb_SC X X1) (h2 : kb_SC X1 X2) : kb_SC X X2 := ⟨fun z a b c d e f g => (h2.1 z a b c d e f g).trans (h1.1 z a b c d e f g), fun k hk => (h2.2 k hk).trans (h1.2 k hk)⟩
theorem kb_SC.thr (X : Nat → Nat → Int32) (k : Int32) : kb_SC X (kb_thr X k) := ⟨fun _ _ _ _ _ _ h _ => kb_thr_ne h, fun _ h => kb_thr_k h⟩
theorem kb_SC.ms {X X' : Nat → Nat → Int32} (h : kb_MS X X') : kb_SC X X' := ⟨fun z _ _ _ _ _ h1 h2 => h.1 z h2 h1, h.2.2⟩
theorem kb_SC.sameB {X X' : Nat → Nat → Int32} {i : Nat} (hi : i < 8) (h : kb_sameB i X X') : kb_SC X X' := ⟨fun z _ _ _ _ h1 _ _ => h z (h1 i hi).1 (h1 i hi).2.1 (h1 i hi).2.2.1, fun k _ => by rw [h 188 (by omega) (by omega) (by omega)]⟩
theorem kb_REL.sc {X X' : Nat → Nat → Int32} (h : kb_REL X) (hs : kb_SC X X') : kb_REL X' := by
  obtain ⟨h0, ⟨h1, h2⟩, h3, h4⟩ := h
  refine ⟨h0.of2 (fun z a b => hs.m a b) hs.2, ⟨by rw [hs.c0, hs.2 1 (by decide), h1], by rw [hs.c0, hs.2 2 (by decide), h2]⟩, fun b hb => ?_, fun q hq => ?_⟩
  · rw [hs.2 1 (by decide)]
    have e0 := hs.b (j := 0) hb (by decide)
    rw [Nat.add_zero] at e0
    exact (h3 b hb).go Iff.rfl (fun z => h0.b16 z) (by rw [e0]) (by rw [e0]) (hs.b hb (by decide)) (hs.b hb (by decide)) (by rw [hs.m (by decide) (by decide)]) (by rw [hs.m (by decide) (by decide)]) (fun _ _ => by rw [hs.m (by decide) (by decide)]) (fun _ _ => by rw [hs.m (by decide) (by decide)])
  · rw [hs.2 2 (by decide)]
    have e0 := hs.p (j := 0) hq (by decide)
    rw [Nat.add_zero] at e0
    exact (h4 q hq).go Iff.rfl (fun z => h0.p16 z) e0 (hs.p hq (by decide)) (hs.p hq (by decide)) (hs.p hq (by decide)) (hs.p hq (by decide)) (by rw [hs.m (by decide) (by decide)]) (by rw [hs.m (by decide) (by decide)]) (fun _ _ => by rw [hs.m (by decide) (by decide)]) (fun _ _ => by rw [hs.m (by decide) (by decide)])
theorem kb_REL.cb {X : Nat → Nat → Int32} (h : kb_REL X) : kb_CB X := by
  obtain ⟨h0, ⟨h1, h2⟩, h3, h4⟩ := h
  unfold kb_CB
  rw [h1]
  refine ⟨h0.1.1, fun b hb => ?_⟩
  have hb8 : b < 8 := Nat.lt_of_lt_of_le hb h0.1.1.2
  obtain ⟨e1, e2, -⟩ := h3 b hb8
  rw [e1, e2]
  exact h0.2.1 b hb
/-- the wishes of the first places as the class has them -/
def kb_mu6 (X : Nat → Nat → Int32) (q : Nat) : Nat → Nat := kb_m6 (kb_tn (X 193 q)) (kb_mmu X q)
theorem kb_REL.cp {X : Nat → Nat → Int32} (h : kb_REL X) : kb_CP (kb_mtd X) (kb_mu6 X) X := by
  obtain ⟨h0, ⟨h1, h2⟩, h3, h4⟩ := h
  unfold kb_CP
  rw [h2]
  refine ⟨h0.1.2, fun q hq => ?_⟩
  have hq8 : q < 8 := Nat.lt_of_lt_of_le hq h0.1.2.2
  obtain ⟨e1, e2, e3, -⟩ := h4 q hq8
  obtain ⟨g1, g2, g3⟩ := e3 hq
  have b16 := h0.p16 hq
  rw [e1, e2]
  refine ⟨h0.2.2.2.2.1 q hq, fun r hr k hk => ?_, fun j hj => ?_, g3⟩
  · have hk3 := Nat.lt_of_lt_of_le hk (kb_kn_le (r := r) b16.1)
    have hle := h0.2.2.2.2.2.1 (48 * q + 3 * r + k) (by omega)
    rw [g1 r hr k hk]
    exact hle
  · refine ⟨g2 j hj, ?_⟩
    unfold kb_mu6 kb_m6
    split
    · exact (h0.2.2.2.2.2.2 (6 * q + j) (by omega)).2
    · exact Nat.zero_le _
/-- picture q is worked out -/
theorem kb_REL.wout {X X' : Nat → Nat → Int32} (h : kb_REL X) {q : Nat} (hq : q < kb_tn (X 188 2)) (hw : kb_wout q (kb_tn (X (148 + 5 * q) 2)) (kb_tn (X (148 + 5 * q) 3)) (kb_mtd X q) (kb_mu6 X q) X X') : kb_REL X' := by
  obtain ⟨h0, ⟨h1, h2⟩, h3, h4⟩ := h
  have hq8 : q < 8 := Nat.lt_of_lt_of_le hq h0.1.2.2
  obtain ⟨e1, e2, e3, -⟩ := h4 q hq8
  obtain ⟨g1, g2, g3⟩ := e3 hq
  rw [e1, e2] at hw
  obtain ⟨w1, w2, w3, w4, w5⟩ := hw
  have hm : ∀ z, 188 ≤ z → X' z = X z := fun z hz => w1 z (by omega) (by omega) (by omega) (by omega) (by omega) (by omega) (by omega)
  have h00 : X' 0 = X 0 := w1 0 (by omega) (by omega) (by omega) (by omega) (by omega) (by omega) (by omega)
  have hb0 : ∀ z, 92 ≤ z → z < 148 → X' z = X z := fun z a b => w1 z (by omega) (by omega) (by omega) (by omega) (by omega) (by omega) (by omega)
  refine ⟨h0.of2 (fun z a _ => hm z (by omega)) (fun k _ => by rw [hm 188 (by decide)]), ⟨by rw [h00, hm 188 (by decide), h1], by rw [h00, hm 188 (by decide), h2]⟩, fun b hb => ?_, fun q' hq' => ?_⟩
  · rw [hm 188 (by decide)]
    exact (h3 b hb).go Iff.rfl (fun z => h0.b16 z) (by rw [hb0 _ (by omega) (by omega)]) (by rw [hb0 _ (by omega) (by omega)]) (hb0 _ (by omega) (by omega)) (hb0 _ (by omega) (by omega)) (by rw [hm _ (by decide)]) (by rw [hm _ (by decide)]) (fun _ _ => by rw [hm _ (by decide)]) (fun _ _ => by rw [hm _ (by decide)])
  · rw [hm 188 (by decide)]
    by_cases e : q' = q
    · subst e
      have et : kb_mtd X' q' = kb_mtd X q' := by
        funext r k
        unfold kb_mtd
        rw [hm 195 (by decide)]
      have em : kb_mmu X' q' = kb_mmu X q' := by
        funext j
        unfold kb_mmu
        rw [hm 196 (by decide)]
      have p1 : X' (148 + 5 * q' + 1) = X (148 + 5 * q' + 1) := w1 _ (by omega) (by omega) (by omega) (by omega) (by omega) (by omega) (by omega)
      have p2 : X' (148 + 5 * q' + 2) = X (148 + 5 * q' + 2) := w1 _ (by omega) (by omega) (by omega) (by omega) (by omega) (by omega) (by omega)
      unfold kb_rp
      rw [et, em, hm 193 (by decide), hm 194 (by decide), hm 195 (by decide), p1, p2, w2, w3, w4]
      refine ⟨e1, e2, fun _ => ⟨g1, g2, Or.inr ⟨rfl, w5⟩⟩, fun z => absurd hq (by omega)⟩
    · have hp : ∀ j, j < 5 → X' (148 + 5 * q' + j) = X (148 + 5 * q' + j) := fun j hj => w1 _ (by omega) (by omega) (by omega) (by omega) (by omega) (by omega) (by omega)
      have e0 := hp 0 (by decide)
      rw [Nat.add_zero] at e0
      exact (h4 q' hq').go Iff.rfl (fun z => h0.p16 z) e0 (hp 1 (by decide)) (hp 2 (by decide)) (hp 3 (by decide)) (hp 4 (by decide)) (by rw [hm _ (by decide)]) (by rw [hm _ (by decide)]) (fun _ _ => by rw [hm _ (by decide)]) (fun _ _ => by rw [hm _ (by decide)])

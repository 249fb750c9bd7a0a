/-! ===== a step: what the class says and what the reference says ===== -/
/-- what a call of the class says: k = 0 it answers r, 1 NoSuchElementException, 2 IllegalArgumentException -/
def kb_hx (c1 c2 : Prop) (R : Int32 → (Nat → Nat → Int32) → Prop) (T : (Nat → Nat → Int32) → Prop) (k : Nat) (r : Int32) (X1 : Nat → Nat → Int32) : Prop := (c1 ∧ c2 ∧ k = 0 ∧ R r X1) ∨ (¬ c1 ∧ k = 1 ∧ T X1) ∨ (c1 ∧ ¬ c2 ∧ k = 2 ∧ T X1)
def kb_om (c1 c2 : Prop) (R : Int32 → (Nat → Nat → Int32) → Prop) (X : Nat → Nat → Int32) (r : Int32) (X2 : Nat → Nat → Int32) : Prop := (¬ c1 ∧ X2 = kb_thr X (nI 1)) ∨ (c1 ∧ ¬ c2 ∧ X2 = kb_thr X (nI 2)) ∨ (c1 ∧ c2 ∧ X2 188 0 = nI 0 ∧ R r X2)
theorem kb_out.om {E : kb_E} {X : Nat → Nat → Int32} {Y : Nat → Nat → Int64} {c1 c2 : Prop} {R : Int32 → (Nat → Nat → Int32) → Prop} {v : Option Value} {g' : Nat → va_E} (h : kb_out E X Y c1 c2 R v g') : ∃ r X2, v = some (.int r) ∧ kb_om c1 c2 R X r X2 ∧ g' = kb_ent E X2 Y := by
  obtain ⟨r, hv, ⟨h1, h2⟩ | ⟨h1, h2, h3⟩ | ⟨h1, h2, X', h3, h4, h5⟩⟩ := h
  · exact ⟨r, _, hv, Or.inl ⟨h1, rfl⟩, h2⟩
  · exact ⟨r, _, hv, Or.inr (Or.inl ⟨h1, h2, rfl⟩), h3⟩
  · exact ⟨r, X', hv, Or.inr (Or.inr ⟨h1, h2, h4, h5⟩), h3⟩
/-- the end of a step: thrown alike, answered alike, side by side -/
def kb_stp (k : Nat) (r v : Int32) (X2 : Nat → Nat → Int32) : Prop := X2 188 0 = nI k ∧ (k = 0 → r = v) ∧ kb_REL X2
theorem kb_pair {c1 c2 d1 d2 : Prop} {R R' : Int32 → (Nat → Nat → Int32) → Prop} {T : (Nat → Nat → Int32) → Prop} {k : Nat} {r v : Int32} {X1 X2 : Nat → Nat → Int32} (hc : kb_hx c1 c2 R T k r X1) (hm : kb_om d1 d2 R' X1 v X2) (h1 : c1 ↔ d1) (h2 : c1 → (c2 ↔ d2)) (hT : T X1 → kb_REL X1) (hR : c1 → c2 → R r X1 → R' v X2 → r = v ∧ kb_REL X2) : kb_stp k r v X2 := by
  rcases hc with ⟨a1, a2, rfl, a3⟩ | ⟨a1, rfl, a3⟩ | ⟨a1, a2, rfl, a3⟩
  · rcases hm with ⟨b1, -⟩ | ⟨-, b2, -⟩ | ⟨-, -, b3, b4⟩
    · exact absurd (h1.mp a1) b1
    · exact absurd ((h2 a1).mp a2) b2
    · obtain ⟨e, hr⟩ := hR a1 a2 a3 b4
      exact ⟨b3, fun _ => e, hr⟩
  · rcases hm with ⟨-, b2⟩ | ⟨b1, -, -⟩ | ⟨b1, -, -, -⟩
    · subst b2
      exact ⟨kb_thr_at, fun z => absurd z (by decide), (hT a3).sc (kb_SC.thr _ _)⟩
    · exact absurd (h1.mpr b1) a1
    · exact absurd (h1.mpr b1) a1
  · rcases hm with ⟨b1, -⟩ | ⟨-, -, b2⟩ | ⟨-, b2, -, -⟩
    · exact absurd (h1.mp a1) b1
    · subst b2
      exact ⟨kb_thr_at, fun z => absurd z (by decide), (hT a3).sc (kb_SC.thr _ _)⟩
    · exact absurd ((h2 a1).mpr b2) a2
/-- the reference's cells are as they were -/
def kb_MU (X X1 : Nat → Nat → Int32) : Prop := ∀ z, 188 ≤ z → X1 z = X z
theorem kb_hx.mu {c1 c2 : Prop} {R : Int32 → (Nat → Nat → Int32) → Prop} {T : (Nat → Nat → Int32) → Prop} {k : Nat} {r : Int32} {X X1 : Nat → Nat → Int32} (hc : kb_hx c1 c2 R T k r X1) (hR : c1 → R r X1 → kb_MU X X1) (hT : T X1 → kb_MU X X1) : kb_MU X X1 := by
  rcases hc with ⟨a1, -, -, a3⟩ | ⟨-, -, a3⟩ | ⟨-, -, -, a3⟩
  · exact hR a1 a3
  · exact hT a3
  · exact hT a3
theorem kb_MU.rf (X : Nat → Nat → Int32) : kb_MU X X := fun _ _ => rfl
theorem kb_MU.mi {X X1 : Nat → Nat → Int32} (h : kb_MU X X1) (hm : kb_MI X) : kb_MI X1 := hm.of2 (fun z a _ => h z (by omega)) (fun k _ => by rw [h 188 (by decide)])
theorem kb_REL.eB {X : Nat → Nat → Int32} (h : kb_REL X) {b : Int32} (hb : kb_e b (X 0 3)) : kb_tn b < kb_tn (X 188 1) ∧ kb_tn b < 8 ∧ b = nI (kb_tn b) := by
  rw [h.2.1.1] at hb
  obtain ⟨h1, h2⟩ := hb.nat h.1.1.1.1
  exact ⟨h2, Nat.lt_of_lt_of_le h2 h.1.1.1.2, h1⟩
theorem kb_REL.eP {X : Nat → Nat → Int32} (h : kb_REL X) {b : Int32} (hb : kb_e b (X 0 4)) : kb_tn b < kb_tn (X 188 2) ∧ kb_tn b < 8 ∧ b = nI (kb_tn b) := by
  rw [h.2.1.2] at hb
  obtain ⟨h1, h2⟩ := hb.nat h.1.1.2.1
  exact ⟨h2, Nat.lt_of_lt_of_le h2 h.1.1.2.2, h1⟩
theorem kb_REL.okB {X X1 : Nat → Nat → Int32} (h : kb_REL X) (hX : kb_MU X X1) {b : Int32} : kb_e b (X 0 3) ↔ kb_okB X1 b := by
  unfold kb_okB kb_e
  rw [hX 188 (by decide), h.2.1.1]
theorem kb_REL.okP {X X1 : Nat → Nat → Int32} (h : kb_REL X) (hX : kb_MU X X1) {b : Int32} : kb_e b (X 0 4) ↔ kb_okP X1 b := by
  unfold kb_okP kb_e
  rw [hX 188 (by decide), h.2.1.2]
theorem kb_lt_s {c : Int32} {k : Nat} (hk : k + 1 < 2 ^ 31) : nI k < c ↔ nI (k + 1) ≤ c := by
  rw [Int32.lt_iff_toInt_lt, Int32.le_iff_toInt_le, nI_toInt (by omega), nI_toInt hk]
  omega
theorem kb_ec4 {c0 : Int32} : kb_e c0 (nI 4) ↔ (¬ c0 < 0 ∧ ¬ nI 3 < c0) := by
  unfold kb_e
  rw [kb_lt_s (by decide)]
theorem kb_ec5 {c0 : Int32} : kb_e c0 (nI 5) ↔ (¬ c0 < 0 ∧ ¬ nI 4 < c0) := by
  unfold kb_e
  rw [kb_lt_s (by decide)]
/-! one kinds' row for another -/
theorem kb_rw_congr {kd kd' : Nat → Nat → Nat} {r : Nat} {f : Nat → Nat} : ∀ k, (∀ j, j < k → kd r j = kd' r j) → kb_rw kd r f k = kb_rw kd' r f k
  | 0, _ => rfl
  | k + 1, h => by
    show (if kd r k < 2 then kb_sw (kb_rw kd r f k) (kb_lf r k) else kb_rw kd r f k) = (if kd' r k < 2 then kb_sw (kb_rw kd' r f k) (kb_lf r k) else kb_rw kd' r f k)
    rw [h k (Nat.lt_succ_self _), kb_rw_congr k (fun j hj => h j (by omega))]
theorem kb_at_congr {kd kd' : Nat → Nat → Nat} {n : Nat} : ∀ r, (∀ r', r' < r → ∀ k, k < kb_kn n r' → kd r' k = kd' r' k) → kb_at kd n r = kb_at kd' n r
  | 0, _ => rfl
  | r + 1, h => by
    show kb_rw kd r (kb_at kd n r) (kb_kn n r) = kb_rw kd' r (kb_at kd' n r) (kb_kn n r)
    rw [kb_at_congr r (fun r' hr' => h r' (by omega)), kb_rw_congr _ (fun j hj => h r (Nat.lt_succ_self _) j hj)]
theorem kb_sh_congr {kd kd' : Nat → Nat → Nat} {n R r k : Nat} (h : ∀ r', r' < R → ∀ k, k < kb_kn n r' → kd r' k = kd' r' k) (hr : r < R) (hk : k < kb_kn n r) : kb_sh kd n r k = kb_sh kd' n r k := by
  unfold kb_sh
  rw [kb_at_congr r (fun r' hr' => h r' (by omega)), h r hr k hk]
theorem kb_hd_congr {kd kd' : Nat → Nat → Nat} {n R r k : Nat} (h : ∀ r', r' < R → ∀ k, k < kb_kn n r' → kd r' k = kd' r' k) (hr : r < R) (hk : k < kb_kn n r) : kb_hd kd n r k = kb_hd kd' n r k := by
  unfold kb_hd
  rw [kb_at_congr r (fun r' hr' => h r' (by omega)), h r hr k hk]
theorem kb_useR_congr {kd kd' : Nat → Nat → Nat} {n R r t : Nat} (h : ∀ r', r' < R → ∀ k, k < kb_kn n r' → kd r' k = kd' r' k) (hr : r < R) : ∀ k, k ≤ kb_kn n r → kb_useR kd n r t k = kb_useR kd' n r t k
  | 0, _ => rfl
  | k + 1, hk => by
    show kb_useR kd n r t k + kb_us kd n r k t = kb_useR kd' n r t k + kb_us kd' n r k t
    unfold kb_us
    rw [kb_useR_congr h hr k (by omega), kb_sh_congr h hr (by omega), kb_hd_congr h hr (by omega)]
theorem kb_use_congr {kd kd' : Nat → Nat → Nat} {n R t : Nat} (h : ∀ r', r' < R → ∀ k, k < kb_kn n r' → kd r' k = kd' r' k) : ∀ r, r ≤ R → kb_use kd n t r = kb_use kd' n t r
  | 0, _ => rfl
  | r + 1, hr => by
    show kb_use kd n t r + kb_useR kd n r t (kb_kn n r) = kb_use kd' n t r + kb_useR kd' n r t (kb_kn n r)
    rw [kb_use_congr h r (by omega), kb_useR_congr h (by omega) _ (Nat.le_refl _)]
theorem kb_cntR_congr {f f' : Nat → Nat → Nat} {r : Nat} : ∀ k, (∀ j, j < k → f r j = f' r j) → kb_cntR f r k = kb_cntR f' r k
  | 0, _ => rfl
  | k + 1, h => by
    show kb_cntR f r k + f r k = kb_cntR f' r k + f' r k
    rw [kb_cntR_congr k (fun j hj => h j (by omega)), h k (Nat.lt_succ_self _)]
theorem kb_cnt_congr {f f' : Nat → Nat → Nat} {n : Nat} : ∀ r, (∀ r', r' < r → ∀ k, k < kb_kn n r' → f r' k = f' r' k) → kb_cnt f n r = kb_cnt f' n r
  | 0, _ => rfl
  | r + 1, h => by
    show kb_cnt f n r + kb_cntR f r (kb_kn n r) = kb_cnt f' n r + kb_cntR f' r (kb_kn n r)
    rw [kb_cnt_congr r (fun r' hr' => h r' (by omega)), kb_cntR_congr _ (fun j hj => h r (Nat.lt_succ_self _) j hj)]
/-- a band's kinds in class and reference -/
theorem kb_REL.kinds {X X1 : Nat → Nat → Int32} (h : kb_REL X) (hX : kb_MU X X1) {b : Nat} (hb : b < kb_tn (X 188 1)) : ∀ r, r < kb_tn (X (92 + 7 * b) 3) → ∀ k, k < kb_kn (kb_tn (X (92 + 7 * b) 2)) r → kb_kd (X (92 + 7 * b + 2)) r k = kb_mkd X1 b r k := by
  have hb8 : b < 8 := Nat.lt_of_lt_of_le hb h.1.1.1.2
  obtain ⟨e1, e2, e3, e4, -⟩ := h.2.2.1 b hb8
  intro r hr k hk
  rw [e2] at hr
  rw [e1] at hk
  rw [e4 hb r hr k hk]
  unfold kb_mkd
  rw [hX 192 (by decide)]
/-- band b of class and reference: what both have -/
theorem kb_REL.bd {X X1 : Nat → Nat → Int32} (h : kb_REL X) (hX : kb_MU X X1) {b : Nat} (hb : b < kb_tn (X 188 1)) : X (92 + 7 * b) 2 = X1 189 b ∧ X (92 + 7 * b) 3 = X1 190 b ∧ (∀ t, t < 6 → X (92 + 7 * b + 1) t = X1 191 (6 * b + t)) ∧ X1 189 b = nI (kb_tn (X1 189 b)) ∧ X1 190 b = nI (kb_tn (X1 190 b)) ∧ (2 ≤ kb_tn (X1 189 b) ∧ kb_tn (X1 189 b) ≤ 6 ∧ kb_tn (X1 190 b) ≤ 16) := by
  have hb8 : b < 8 := Nat.lt_of_lt_of_le hb h.1.1.1.2
  obtain ⟨e1, e2, e3, -⟩ := h.2.2.1 b hb8
  obtain ⟨m1, m2, m3⟩ := h.1.2.1 b hb
  rw [hX 189 (by decide), hX 190 (by decide), hX 191 (by decide)]
  exact ⟨e1, e2, e3, m1.1, m3.1, m2, m1.2, m3.2⟩
theorem kb_okKr_iff {x y r k : Int32} (hx : x = nI (kb_tn x)) (hx1 : 1 ≤ kb_tn x) (hx6 : kb_tn x ≤ 6) (hy : y = nI (kb_tn y)) (hy16 : kb_tn y ≤ 16) : (kb_e r y ∧ kb_e k (kb_knotsIn x r)) ↔ (¬ r < 0 ∧ ¬ y ≤ r ∧ ¬ k < 0 ∧ ¬ kb_mknots x r ≤ k) := by
  have key : kb_e r y → kb_knotsIn x r = kb_mknots x r := fun hr => by
    obtain ⟨h1, h2⟩ := hr.nat hy
    rw [hx, h1, nv_knotsIn _ (by omega) _ (by omega) hx1, nv_mknots _ (by omega) _ (by omega) hx1]
  constructor
  · rintro ⟨h1, h2⟩
    rw [key h1] at h2
    exact ⟨h1.1, h1.2, h2.1, h2.2⟩
  · rintro ⟨h1, h2, h3, h4⟩
    have h5 : kb_e r y := ⟨h1, h2⟩
    refine ⟨h5, ?_⟩
    rw [key h5]
    exact ⟨h3, h4⟩
/-- a knot that is there -/
theorem kb_knot_nat {x y r k : Int32} (hx : x = nI (kb_tn x)) (hx1 : 1 ≤ kb_tn x) (hx6 : kb_tn x ≤ 6) (hy : y = nI (kb_tn y)) (hy16 : kb_tn y ≤ 16) (hr : kb_e r y) (hk : kb_e k (kb_knotsIn x r)) : r = nI (kb_tn r) ∧ kb_tn r < kb_tn y ∧ k = nI (kb_tn k) ∧ kb_tn k < kb_kn (kb_tn x) (kb_tn r) := by
  obtain ⟨h1, h2⟩ := hr.nat hy
  have e : kb_knotsIn x r = nI (kb_kn (kb_tn x) (kb_tn r)) := by
    rw [hx, h1, nv_knotsIn _ (by omega) _ (by omega) hx1, kb_tn_nI (by omega), kb_tn_nI (by omega)]
  rw [e] at hk
  obtain ⟨h3, h4⟩ := hk.natN (by have := kb_kn_le (r := kb_tn r) hx6; omega)
  exact ⟨h1, h2, h3, h4⟩
theorem kb_REL.okK {X X1 : Nat → Nat → Int32} (h : kb_REL X) (hX : kb_MU X X1) {b r k : Int32} : (kb_e b (X 0 3) ∧ kb_e r (X (92 + 7 * kb_tn b) 3) ∧ kb_e k (kb_knotsIn (X (92 + 7 * kb_tn b) 2) r)) ↔ kb_okK X1 b r k := by
  unfold kb_okK
  rw [← h.okB hX]
  refine and_congr_right (fun hb => ?_)
  obtain ⟨h1, -, -⟩ := h.eB hb
  obtain ⟨e1, e2, -, n1, n2, n3, n4, n5⟩ := h.bd hX h1
  rw [e1, e2]
  exact kb_okKr_iff n1 (by omega) n4 n2 n5
theorem kb_home_congr {g : Nat → Nat} {n : Nat} {w : Bool} {col col' : Nat → Int32} {T : Nat} (hg : ∀ j, j < n → g j < n) (h : ∀ j, j < n → col j = col' j) : kb_home g n w col T ↔ kb_home g n w col' T := by
  unfold kb_home
  refine forall_congr' (fun p => forall_congr' (fun hp => ?_))
  rw [h _ (kb_it_lt hg T p hp), h p hp]
theorem kb_hmT_congr {g : Nat → Nat} {n : Nat} {w : Bool} {col col' : Nat → Int32} {T : Nat} (hg : ∀ j, j < n → g j < n) (h : ∀ j, j < n → col j = col' j) (hT : kb_hmT g n w col T) : kb_hmT g n w col' T := ⟨hT.1, (kb_home_congr hg h).mp hT.2.1, fun u h1 h2 hu => hT.2.2 u h1 h2 ((kb_home_congr hg h).mpr hu)⟩
/-! the steps that change nothing that is asked -/
theorem kb_s_count {X X1 X2 : Nat → Nat → Int32} {w0 r v : Int32} {k : Nat} (hR : kb_REL X) (hc : kb_hx (kb_e w0 (nI 2)) True (fun r X1 => r = (if w0 = 0 then X 0 3 else X 0 4) ∧ X1 = X) (fun X1 => X1 = X) k r X1)
    (hm : kb_om (w0 = 0 ∨ w0 = nI 1) True (fun r X' => r = (if w0 = 0 then X1 188 1 else X1 188 2) ∧ X' = kb_thr X1 (nI 0)) X1 v X2) : kb_stp k r v X2 := by
  refine kb_pair hc hm ⟨fun h => ?_, fun h => ?_⟩ (fun _ => Iff.rfl) (fun h => by rw [h]; exact hR) (fun _ _ h1 h2 => ?_)
  · obtain ⟨h1, h2⟩ := h.natN (by decide)
    rcases (show kb_tn w0 = 0 ∨ kb_tn w0 = 1 by omega) with z | z
    · rw [z] at h1; exact Or.inl h1
    · rw [z] at h1; exact Or.inr h1
  · rcases h with rfl | rfl
    · exact ⟨by decide, by decide⟩
    · exact ⟨by decide, by decide⟩
  · obtain ⟨rfl, rfl⟩ := h1
    obtain ⟨rfl, rfl⟩ := h2
    rw [hR.2.1.1, hR.2.1.2]
    exact ⟨rfl, hR.sc (kb_SC.thr _ _)⟩
theorem kb_s_shows {X X1 X2 : Nat → Nat → Int32} {b r k v0 v : Int32} {kk : Nat} (hR : kb_REL X) (hc : kb_hx (kb_e b (X 0 3) ∧ kb_e r (X (92 + 7 * kb_tn b) 3) ∧ kb_e k (kb_knotsIn (X (92 + 7 * kb_tn b) 2) r)) True (fun v X1 => v = X (92 + 7 * kb_tn b + 1) (kb_sh (kb_kd (X (92 + 7 * kb_tn b + 2))) (kb_tn (X (92 + 7 * kb_tn b) 2)) (kb_tn r) (kb_tn k)) ∧ kb_sameB (kb_tn b) X X1) (fun X1 => X1 = X) kk v0 X1)
    (hX : kb_MU X X1) (hm : kb_om (kb_okK X1 b r k) True (fun v X' => v = X1 191 (6 * kb_tn b + kb_sh (kb_mkd X1 (kb_tn b)) (kb_tn (X1 189 (kb_tn b))) (kb_tn r) (kb_tn k)) ∧ kb_MS X1 X') X1 v X2) : kb_stp kk v0 v X2 := by
  refine kb_pair hc hm (hR.okK hX) (fun _ => Iff.rfl) (fun h => by rw [h]; exact hR) (fun c1 _ h1 h2 => ?_)
  obtain ⟨hb, hr, hk⟩ := c1
  obtain ⟨b1, b2, b3⟩ := hR.eB hb
  obtain ⟨e1, e2, e3, n1, n2, n3, n4, n5⟩ := hR.bd hX b1
  have hkd := hR.kinds hX b1
  rw [e1, e2] at hkd
  rw [e2] at hr
  rw [e1] at hk
  obtain ⟨k1, k2, k3, k4⟩ := kb_knot_nat n1 (by omega) n4 n2 n5 hr hk
  obtain ⟨rfl, h1⟩ := h1
  obtain ⟨rfl, h2⟩ := h2
  refine ⟨?_, (hR.sc (kb_SC.sameB b2 h1)).sc (kb_SC.ms h2)⟩
  rw [e1, kb_sh_congr hkd k2 k4]
  exact e3 _ (Nat.lt_of_lt_of_le (kb_sh_lt k4) n4)
theorem kb_s_thread {X X1 X2 : Nat → Nat → Int32} {b r t v0 v : Int32} {kk : Nat} (hR : kb_REL X) (hc : kb_hx (kb_e b (X 0 3) ∧ kb_e r (nI ((kb_tn (X (92 + 7 * kb_tn b) 3)) + 1)) ∧ kb_e t (X (92 + 7 * kb_tn b) 2)) True (fun v X1 => v = nI (kb_at (kb_kd (X (92 + 7 * kb_tn b + 2))) (kb_tn (X (92 + 7 * kb_tn b) 2)) (kb_tn r) (kb_tn t)) ∧ kb_sameB (kb_tn b) X X1) (fun X1 => X1 = X) kk v0 X1)
    (hX : kb_MU X X1) (hm : kb_om (kb_okB X1 b ∧ (¬ r < 0 ∧ ¬ X1 190 (kb_tn b) < r ∧ ¬ t < 0 ∧ ¬ X1 189 (kb_tn b) ≤ t)) True (fun v X' => v = nI (kb_at (kb_mkd X1 (kb_tn b)) (kb_tn (X1 189 (kb_tn b))) (kb_tn r) (kb_tn t)) ∧ kb_MS X1 X') X1 v X2) : kb_stp kk v0 v X2 := by
  refine kb_pair hc hm ?_ (fun _ => Iff.rfl) (fun h => by rw [h]; exact hR) (fun c1 _ h1 h2 => ?_)
  · rw [← hR.okB hX]
    refine and_congr_right (fun hb => ?_)
    obtain ⟨b1, b2, b3⟩ := hR.eB hb
    obtain ⟨e1, e2, e3, n1, n2, n3, n4, n5⟩ := hR.bd hX b1
    rw [e1, e2]
    unfold kb_e
    rw [← kb_lt_s (by omega), ← n2]
    exact ⟨fun h => ⟨h.1.1, h.1.2, h.2.1, h.2.2⟩, fun h => ⟨⟨h.1, h.2.1⟩, h.2.2.1, h.2.2.2⟩⟩
  · obtain ⟨hb, hr, ht⟩ := c1
    obtain ⟨b1, b2, b3⟩ := hR.eB hb
    obtain ⟨e1, e2, e3, n1, n2, n3, n4, n5⟩ := hR.bd hX b1
    have hkd := hR.kinds hX b1
    rw [e1, e2] at hkd
    rw [e2] at hr
    obtain ⟨r1, r2⟩ := hr.natN (by omega)
    obtain ⟨rfl, h1⟩ := h1
    obtain ⟨rfl, h2⟩ := h2
    refine ⟨?_, (hR.sc (kb_SC.sameB b2 h1)).sc (kb_SC.ms h2)⟩
    rw [e1, kb_at_congr (kb_tn r) (fun r' hr' => hkd r' (by omega))]
theorem kb_REL.okT {X X1 : Nat → Nat → Int32} (h : kb_REL X) (hX : kb_MU X X1) {b t : Int32} : (kb_e b (X 0 3) ∧ kb_e t (X (92 + 7 * kb_tn b) 2)) ↔ (kb_okB X1 b ∧ (¬ t < 0 ∧ ¬ X1 189 (kb_tn b) ≤ t)) := by
  rw [← h.okB hX]
  refine and_congr_right (fun hb => ?_)
  obtain ⟨h1, -, -⟩ := h.eB hb
  obtain ⟨e1, -⟩ := h.bd hX h1
  rw [e1]
  exact Iff.rfl
theorem kb_s_used {X X1 X2 : Nat → Nat → Int32} {b t v0 v : Int32} {kk : Nat} (hR : kb_REL X) (hc : kb_hx (kb_e b (X 0 3) ∧ kb_e t (X (92 + 7 * kb_tn b) 2)) True (fun v X1 => v = nI (kb_use (kb_kd (X (92 + 7 * kb_tn b + 2))) (kb_tn (X (92 + 7 * kb_tn b) 2)) (kb_tn t) (kb_tn (X (92 + 7 * kb_tn b) 3))) ∧ kb_sameB (kb_tn b) X X1) (fun X1 => X1 = X) kk v0 X1)
    (hX : kb_MU X X1) (hm : kb_om (kb_okB X1 b ∧ (¬ t < 0 ∧ ¬ X1 189 (kb_tn b) ≤ t)) True (fun v X' => v = nI (kb_use (kb_mkd X1 (kb_tn b)) (kb_tn (X1 189 (kb_tn b))) (kb_tn t) (kb_tn (X1 190 (kb_tn b)))) ∧ kb_MS X1 X') X1 v X2) : kb_stp kk v0 v X2 := by
  refine kb_pair hc hm (hR.okT hX) (fun _ => Iff.rfl) (fun h => by rw [h]; exact hR) (fun c1 _ h1 h2 => ?_)
  obtain ⟨hb, ht⟩ := c1
  obtain ⟨b1, b2, b3⟩ := hR.eB hb
  obtain ⟨e1, e2, e3, n1, n2, n3, n4, n5⟩ := hR.bd hX b1
  have hkd := hR.kinds hX b1
  rw [e1, e2] at hkd
  obtain ⟨rfl, h1⟩ := h1
  obtain ⟨rfl, h2⟩ := h2
  refine ⟨?_, (hR.sc (kb_SC.sameB b2 h1)).sc (kb_SC.ms h2)⟩
  rw [e1, e2, kb_use_congr hkd _ (Nat.le_refl _)]
theorem kb_e2 {w0 : Int32} : kb_e w0 (nI 2) ↔ (w0 = 0 ∨ w0 = nI 1) := by
  constructor
  · intro h
    obtain ⟨h1, h2⟩ := h.natN (by decide)
    rcases (show kb_tn w0 = 0 ∨ kb_tn w0 = 1 by omega) with z | z
    · rw [z] at h1; exact Or.inl h1
    · rw [z] at h1; exact Or.inr h1
  · rintro (rfl | rfl)
    · exact ⟨by decide, by decide⟩
    · exact ⟨by decide, by decide⟩
theorem kb_s_home {X X1 X2 : Nat → Nat → Int32} {b w0 v0 v : Int32} {kk : Nat} (hR : kb_REL X) (hc : kb_hx (kb_e b (X 0 3) ∧ kb_e w0 (nI 2)) True (fun v X1 => (∀ z, z ≠ 92 + 7 * kb_tn b + 3 → z ≠ 92 + 7 * kb_tn b + 4 → z ≠ 92 + 7 * kb_tn b + 5 → z ≠ 92 + 7 * kb_tn b + 6 → X1 z = X z) ∧ ((kb_tn (X (92 + 7 * kb_tn b) 3)) % 2 = 1 → v = -1) ∧ (¬ (kb_tn (X (92 + 7 * kb_tn b) 3)) % 2 = 1 → ∃ T, 1 ≤ T ∧ T ≤ 6 ∧ v = nI T ∧ kb_hmT (kb_at (kb_kd (X (92 + 7 * kb_tn b + 2))) (kb_tn (X (92 + 7 * kb_tn b) 2)) (kb_tn (X (92 + 7 * kb_tn b) 3))) (kb_tn (X (92 + 7 * kb_tn b) 2)) (decide (¬ w0 = 0)) (X (92 + 7 * kb_tn b + 1)) T)) (fun X1 => X1 = X) kk v0 X1)
    (hX : kb_MU X X1) (hm : kb_om (kb_okB X1 b ∧ (w0 = 0 ∨ w0 = nI 1)) True (fun v X' => kb_MS X1 X' ∧ (kb_tn (X1 190 (kb_tn b)) % 2 = 1 → v = -1) ∧ (¬ kb_tn (X1 190 (kb_tn b)) % 2 = 1 → ∃ T, 1 ≤ T ∧ T ≤ 6 ∧ v = nI T ∧ kb_hmT (kb_at (kb_mkd X1 (kb_tn b)) (kb_tn (X1 189 (kb_tn b))) (kb_tn (X1 190 (kb_tn b)))) (kb_tn (X1 189 (kb_tn b))) (decide (¬ w0 = 0)) (fun t => X1 191 (6 * kb_tn b + t)) T)) X1 v X2) : kb_stp kk v0 v X2 := by
  refine kb_pair hc hm (and_congr (hR.okB hX) kb_e2) (fun _ => Iff.rfl) (fun h => by rw [h]; exact hR) (fun c1 _ h1 h2 => ?_)
  obtain ⟨hb, ht⟩ := c1
  obtain ⟨b1, b2, b3⟩ := hR.eB hb
  obtain ⟨e1, e2, e3, n1, n2, n3, n4, n5⟩ := hR.bd hX b1
  have hkd := hR.kinds hX b1
  rw [e1, e2] at hkd
  obtain ⟨h1, p1, p2⟩ := h1
  obtain ⟨h2, q1, q2⟩ := h2
  have hsc : kb_SC X X1 := ⟨fun z _ _ _ _ a _ _ => h1 z (a _ b2).1 (a _ b2).2.1 (a _ b2).2.2.1 (a _ b2).2.2.2, fun k _ => by rw [h1 188 (by omega) (by omega) (by omega) (by omega)]⟩
  refine ⟨?_, (hR.sc hsc).sc (kb_SC.ms h2)⟩
  rw [e1, e2] at p2
  rw [e2] at p1
  by_cases o : kb_tn (X1 190 (kb_tn b)) % 2 = 1
  · rw [p1 o, q1 o]
  · obtain ⟨T, -, -, rfl, t1⟩ := p2 o
    obtain ⟨T', -, -, rfl, t2⟩ := q2 o
    rw [kb_at_congr _ (fun r' hr' => hkd r' hr')] at t1
    rw [kb_hmT_uniq (kb_hmT_congr (fun j hj => (kb_perm_at _).1 j hj) (fun j hj => e3 j (by omega)) t1) t2]
theorem kb_s_unlike {X X1 X2 : Nat → Nat → Int32} {b d v0 v : Int32} {kk : Nat} (hR : kb_REL X) (hc : kb_hx (kb_e b (X 0 3) ∧ kb_e d (X 0 3)) (X (92 + 7 * kb_tn b) 2 = X (92 + 7 * kb_tn d) 2 ∧ X (92 + 7 * kb_tn b) 3 = X (92 + 7 * kb_tn d) 3) (fun v X1 => v = nI (kb_cnt (fun r k => kb_cun X (kb_tn b) (kb_tn d) (kb_tn (X (92 + 7 * kb_tn b) 2)) r k) (kb_tn (X (92 + 7 * kb_tn b) 2)) (kb_tn (X (92 + 7 * kb_tn b) 3))) ∧ ∀ z, z ≠ 92 + 7 * kb_tn b + 3 → z ≠ 92 + 7 * kb_tn b + 4 → z ≠ 92 + 7 * kb_tn b + 5 → z ≠ 92 + 7 * kb_tn d + 3 → z ≠ 92 + 7 * kb_tn d + 4 → z ≠ 92 + 7 * kb_tn d + 5 → X1 z = X z) (fun X1 => X1 = X) kk v0 X1)
    (hX : kb_MU X X1) (hm : kb_om (kb_okB X1 b ∧ (kb_okB X1 d)) (X1 189 (kb_tn b) = X1 189 (kb_tn d) ∧ X1 190 (kb_tn b) = X1 190 (kb_tn d)) (fun v X' => v = nI (kb_cnt (fun r k => kb_unl X1 (kb_tn b) (kb_tn d) (kb_tn (X1 189 (kb_tn b))) r k) (kb_tn (X1 189 (kb_tn b))) (kb_tn (X1 190 (kb_tn b)))) ∧ kb_MS X1 X') X1 v X2) : kb_stp kk v0 v X2 := by
  refine kb_pair hc hm (and_congr (hR.okB hX) (hR.okB hX)) (fun c1 => ?_) (fun h => by rw [h]; exact hR) (fun c1 c2 h1 h2 => ?_)
  · obtain ⟨b1, -, -⟩ := hR.eB c1.1
    obtain ⟨d1, -, -⟩ := hR.eB c1.2
    obtain ⟨e1, e2, -⟩ := hR.bd hX b1
    obtain ⟨f1, f2, -⟩ := hR.bd hX d1
    rw [e1, e2, f1, f2]
  · obtain ⟨b1, b2, b3⟩ := hR.eB c1.1
    obtain ⟨d1, d2, d3⟩ := hR.eB c1.2
    obtain ⟨e1, e2, e3, n1, n2, n3, n4, n5⟩ := hR.bd hX b1
    obtain ⟨f1, f2, f3, -⟩ := hR.bd hX d1
    have hkb := hR.kinds hX b1
    have hkd := hR.kinds hX d1
    rw [← c2.1, ← c2.2] at hkd
    rw [e1, e2] at hkb hkd
    obtain ⟨rfl, h1⟩ := h1
    obtain ⟨rfl, h2⟩ := h2
    have hsc : kb_SC X X1 := ⟨fun z _ _ _ _ a _ _ => h1 z (a _ b2).1 (a _ b2).2.1 (a _ b2).2.2.1 (a _ d2).1 (a _ d2).2.1 (a _ d2).2.2.1, fun k _ => by rw [h1 188 (by omega) (by omega) (by omega) (by omega) (by omega) (by omega)]⟩
    refine ⟨?_, (hR.sc hsc).sc (kb_SC.ms h2)⟩
    rw [e1, e2, kb_cnt_congr (f' := fun r k => kb_unl X1 (kb_tn b) (kb_tn d) (kb_tn (X1 189 (kb_tn b))) r k) _ (fun r hr k hk => ?_)]
    show kb_cun X (kb_tn b) (kb_tn d) (kb_tn (X1 189 (kb_tn b))) r k = kb_unl X1 (kb_tn b) (kb_tn d) (kb_tn (X1 189 (kb_tn b))) r k
    unfold kb_cun kb_unl
    rw [kb_sh_congr hkb hr hk, kb_sh_congr hkd hr hk, e3 _ (Nat.lt_of_lt_of_le (kb_sh_lt hk) n4), f3 _ (Nat.lt_of_lt_of_le (kb_sh_lt hk) n4)]

/-! ===== a row's exchanges: digits, inverse, wishes ===== -/
/-- where place j of row r gets its thread from if its knot exchanges -/
def kb_pt (r j : Nat) : Nat := if (j - r % 2) % 2 = 0 then j + 1 else j - 1
theorem kb_dg_ch {n r b s : Nat} (hn : n ≤ 6) (hs : s < 4 ^ n) : ∀ k, k ≤ kb_kn n r → ∀ j, j < n → kb_dg n (kb_ch n r b s k) j = if r % 2 ≤ j ∧ (j - r % 2) / 2 < k ∧ kb_bt b ((j - r % 2) / 2) = true then kb_dg n s (kb_pt r j) else kb_dg n s j := by
  intro k
  induction k with
  | zero => intro _ j _; rw [if_neg (by omega)]; rfl
  | succ k ih =>
    intro hk j hj
    have hl := kb_lf_lt (show k < kb_kn n r by omega)
    have hlf : kb_lf r k = 2 * k + r % 2 := rfl
    have hlt := kb_ch_lt (b := b) hn hs k (show k ≤ kb_kn n r by omega)
    unfold kb_ch
    cases hb : kb_bt b k with
    | false =>
      rw [if_neg (by simp), ih (by omega) j hj]
      by_cases c1 : r % 2 ≤ j ∧ (j - r % 2) / 2 < k ∧ kb_bt b ((j - r % 2) / 2) = true
      · rw [if_pos c1, if_pos ⟨c1.1, by omega, c1.2.2⟩]
      · rw [if_neg c1, if_neg]
        rintro ⟨q1, q2, q3⟩
        by_cases e : (j - r % 2) / 2 = k
        · rw [e, hb] at q3; cases q3
        · exact c1 ⟨q1, by omega, q3⟩
    | true =>
      rw [if_pos rfl, kb_dg_ss hn hlt hl hj]
      by_cases e1 : j = kb_lf r k
      · have e3 : (j - r % 2) / 2 = k := by omega
        rw [if_pos e1, ih (by omega) _ hl, if_neg (by omega), if_pos ⟨by omega, by omega, by rw [e3]; exact hb⟩]
        unfold kb_pt
        rw [if_pos (by omega), e1]
      · by_cases e2 : j = kb_lf r k + 1
        · have e3 : (j - r % 2) / 2 = k := by omega
          rw [if_neg e1, if_pos e2, ih (by omega) _ (by omega), if_neg (by omega), if_pos ⟨by omega, by omega, by rw [e3]; exact hb⟩]
          unfold kb_pt
          rw [if_neg (by omega), e2]
          rfl
        · rw [if_neg e1, if_neg e2, ih (by omega) j hj]
          by_cases c1 : r % 2 ≤ j ∧ (j - r % 2) / 2 < k ∧ kb_bt b ((j - r % 2) / 2) = true
          · rw [if_pos c1, if_pos ⟨c1.1, by omega, c1.2.2⟩]
          · rw [if_neg c1, if_neg]
            rintro ⟨q1, q2, q3⟩
            exact c1 ⟨q1, by omega, q3⟩
theorem kb_pt_lt {n r j : Nat} (hj : j < n) (h1 : r % 2 ≤ j) (h2 : (j - r % 2) / 2 < kb_kn n r) : kb_pt r j < n ∧ r % 2 ≤ kb_pt r j ∧ (kb_pt r j - r % 2) / 2 = (j - r % 2) / 2 ∧ kb_pt r (kb_pt r j) = j := by
  unfold kb_kn at h2
  unfold kb_pt
  split
  · refine ⟨by omega, by omega, by omega, ?_⟩
    rw [if_neg (by omega)]
    omega
  · refine ⟨by omega, by omega, by omega, ?_⟩
    rw [if_pos (by omega)]
    omega
theorem kb_ch_ch {n r b s : Nat} (hn : n ≤ 6) (hs : s < 4 ^ n) : kb_ch n r b (kb_ch n r b s (kb_kn n r)) (kb_kn n r) = s := by
  have h1 := kb_ch_lt (b := b) (r := r) hn hs _ (Nat.le_refl _)
  refine kb_dg_ext hn (kb_ch_lt hn h1 _ (Nat.le_refl _)) hs (fun j hj => ?_)
  rw [kb_dg_ch hn h1 _ (Nat.le_refl _) j hj]
  by_cases c1 : r % 2 ≤ j ∧ (j - r % 2) / 2 < kb_kn n r ∧ kb_bt b ((j - r % 2) / 2) = true
  · obtain ⟨p1, p2, p3, p4⟩ := kb_pt_lt hj c1.1 c1.2.1
    rw [if_pos c1, kb_dg_ch hn hs _ (Nat.le_refl _) _ p1, if_pos ⟨p2, by rw [p3]; exact c1.2.1, by rw [p3]; exact c1.2.2⟩, p4]
  · rw [if_neg c1, kb_dg_ch hn hs _ (Nat.le_refl _) j hj, if_neg c1]
theorem kb_ok_ss {n c r k i s : Nat} (hn : n ≤ 6) (hs : s < 4 ^ n) (hk : k < kb_kn n r) (hi : i < kb_kn n r) : kb_ok n c r k (kb_ss n s (kb_lf r i)) ↔ kb_ok n c r k s := by
  have h1 := kb_lf_lt hk
  have h2 := kb_lf_lt hi
  have e1 : kb_lf r k = 2 * k + r % 2 := rfl
  have e2 : kb_lf r i = 2 * i + r % 2 := rfl
  unfold kb_ok
  rw [kb_dg_ss hn hs h2 (by omega), kb_dg_ss hn hs h2 h1]
  by_cases e : k = i
  · subst e
    rw [if_pos rfl, if_neg (by omega), if_pos rfl]
    exact ⟨fun q => by rcases q with q | q | q; exact Or.inl q; exact Or.inr (Or.inr q); exact Or.inr (Or.inl q), fun q => by rcases q with q | q | q; exact Or.inl q; exact Or.inr (Or.inr q); exact Or.inr (Or.inl q)⟩
  · rw [if_neg (by omega), if_neg (by omega), if_neg (by omega), if_neg (by omega)]
theorem kb_ok_ch {n c r k s b : Nat} (hn : n ≤ 6) (hs : s < 4 ^ n) (hk : k < kb_kn n r) : ∀ i, i ≤ kb_kn n r → (kb_ok n c r k (kb_ch n r b s i) ↔ kb_ok n c r k s)
  | 0, _ => Iff.rfl
  | i + 1, hi => by
    unfold kb_ch
    split
    · exact (kb_ok_ss hn (kb_ch_lt hn hs i (by omega)) hk (by omega)).trans (kb_ok_ch hn hs hk i (by omega))
    · exact kb_ok_ch hn hs hk i (by omega)
theorem kb_fit_ch {n r s b : Nat} {told : Nat → Nat → Nat} (hn : n ≤ 6) (hs : s < 4 ^ n) : kb_fit n told r (kb_ch n r b s (kb_kn n r)) ↔ kb_fit n told r s :=
  ⟨fun h j hj => (kb_ok_ch hn hs hj _ (Nat.le_refl _)).mp (h j hj), fun h j hj => (kb_ok_ch hn hs hj _ (Nat.le_refl _)).mpr (h j hj)⟩
/-- the same seen forward: from t a row's exchanges lead to a state that can be tied on -/
theorem kb_cR_succ {n h j t : Nat} {told : Nat → Nat → Nat} (hn : n ≤ 6) (ht : t < 4 ^ n) : kb_cR n h told (j + 1) t ↔ kb_fit n told (h - (j + 1)) t ∧ ∃ b, b < 2 ^ kb_kn n (h - (j + 1)) ∧ kb_cR n h told j (kb_ch n (h - (j + 1)) b t (kb_kn n (h - (j + 1)))) := by
  constructor
  · rintro ⟨s, b, h1, h2, h3, h4, rfl⟩
    refine ⟨(kb_fit_ch hn h1).mpr h4, b, h2, ?_⟩
    rw [kb_ch_ch hn h1]
    exact h3
  · rintro ⟨h1, b, h2, h3⟩
    refine ⟨kb_ch n (h - (j + 1)) b t (kb_kn n (h - (j + 1))), b, kb_ch_lt hn ht _ (Nat.le_refl _), h2, h3, (kb_fit_ch hn ht).mpr h1, ?_⟩
    rw [kb_ch_ch hn ht]
/-- what is the first number below N with P, or -1 -/
def kb_fst (P : Nat → Prop) (N : Nat) (r : Int32) : Prop := (∃ s, s < N ∧ P s ∧ (∀ t, t < s → ¬ P t) ∧ r = nI s) ∨ ((∀ s, s < N → ¬ P s) ∧ r = -1)
/-- a start that can be tied -/
def kb_stt (n h : Nat) (told : Nat → Nat → Nat) (mu : Nat → Nat) (s : Nat) : Prop := kb_cR n h told h s ∧ ∀ j, j < n → mu j = 4 ∨ mu j = kb_dg n s j
noncomputable def kb_b (P : Prop) : Bool := @decide P (Classical.propDecidable P)
theorem kb_b_t {P : Prop} (h : P) : kb_b P = true := @decide_eq_true P (Classical.propDecidable P) h
theorem kb_b_f {P : Prop} (h : ¬ P) : kb_b P = false := @decide_eq_false P (Classical.propDecidable P) h
theorem kb_b_iff {P : Prop} : kb_b P = true ↔ P := ⟨fun h => @of_decide_eq_true P (Classical.propDecidable P) h, kb_b_t⟩
/-- how many below N have P -/
noncomputable def kb_ct (P : Nat → Prop) : Nat → Nat
  | 0 => 0
  | n + 1 => kb_ct P n + (if kb_b (P n) then 1 else 0)
theorem kb_ct_le (P : Nat → Prop) : ∀ n, kb_ct P n ≤ n
  | 0 => Nat.le_refl _
  | n + 1 => by
    have := kb_ct_le P n
    unfold kb_ct
    split <;> omega
/-! the kinds that the reference chooses -/
/-- kind kk is good at knot k of row r: the state at the row's start is s, b names the exchanges chosen so far -/
def kb_good (n h : Nat) (told : Nat → Nat → Nat) (r k s b kk : Nat) : Prop := (told r k = 4 ∨ kb_dg n s (kb_lf r k + kk % 2) = told r k) ∧ ∃ more, more < 2 ^ (kb_kn n r - (k + 1)) ∧ kb_cR n h told (h - (r + 1)) (kb_ch n r ((if kk < 2 then b + 2 ^ k else b) + more * 2 ^ (k + 1)) s (kb_kn n r))
noncomputable def kb_lk (n h : Nat) (told : Nat → Nat → Nat) (r k s b : Nat) : Nat := if kb_b (kb_good n h told r k s b 0) then 0 else if kb_b (kb_good n h told r k s b 1) then 1 else if kb_b (kb_good n h told r k s b 2) then 2 else 3
noncomputable def kb_btf (n h : Nat) (told : Nat → Nat → Nat) (r s : Nat) : Nat → Nat
  | 0 => 0
  | k + 1 => if kb_lk n h told r k s (kb_btf n h told r s k) < 2 then kb_btf n h told r s k + 2 ^ k else kb_btf n h told r s k
noncomputable def kb_stf (n h : Nat) (told : Nat → Nat → Nat) (s0 : Nat) : Nat → Nat
  | 0 => s0
  | r + 1 => kb_ch n r (kb_btf n h told r (kb_stf n h told s0 r) (kb_kn n r)) (kb_stf n h told s0 r) (kb_kn n r)
theorem kb_lk_lt (n h : Nat) (told : Nat → Nat → Nat) (r k s b : Nat) : kb_lk n h told r k s b < 4 := by
  unfold kb_lk
  split
  · decide
  · split
    · decide
    · split <;> decide
theorem kb_btf_lt (n h : Nat) (told : Nat → Nat → Nat) (r s : Nat) : ∀ k, kb_btf n h told r s k < 2 ^ k
  | 0 => by simp [kb_btf]
  | k + 1 => by
    have := kb_btf_lt n h told r s k
    have e : 2 ^ (k + 1) = 2 * 2 ^ k := by rw [Nat.pow_succ]; omega
    unfold kb_btf
    split <;> omega
/-- the chosen exchanges can be gone on with -/
def kb_open (n h : Nat) (told : Nat → Nat → Nat) (r k s b : Nat) : Prop := ∃ more, more < 2 ^ (kb_kn n r - k) ∧ kb_cR n h told (h - (r + 1)) (kb_ch n r (b + more * 2 ^ k) s (kb_kn n r))
theorem kb_good_ex {n h r k s b : Nat} {told : Nat → Nat → Nat} (hk : k < kb_kn n r) (hf : kb_fit n told r s) (ho : kb_open n h told r k s b) : ∃ kk, kk < 4 ∧ kb_good n h told r k s b kk := by
  obtain ⟨more, h1, h2⟩ := ho
  have e : 2 ^ (kb_kn n r - k) = 2 * 2 ^ (kb_kn n r - (k + 1)) := by
    rw [show kb_kn n r - k = (kb_kn n r - (k + 1)) + 1 by omega, Nat.pow_succ]; omega
  have e2 : 2 ^ (k + 1) = 2 ^ k * 2 := by rw [Nat.pow_succ]
  have hm2 : more / 2 < 2 ^ (kb_kn n r - (k + 1)) := by omega
  -- the colour: a parity
  obtain ⟨pr, hpr, hc⟩ : ∃ pr, pr < 2 ∧ (told r k = 4 ∨ kb_dg n s (kb_lf r k + pr) = told r k) := by
    rcases hf k hk with q | q | q
    · exact ⟨0, by decide, Or.inl q⟩
    · exact ⟨0, by decide, Or.inr q⟩
    · exact ⟨1, by decide, Or.inr q⟩
  rcases Nat.mod_two_eq_zero_or_one more with m0 | m1
  · refine ⟨2 + pr, by omega, ?_, more / 2, hm2, ?_⟩
    · rw [show (2 + pr) % 2 = pr by omega]; exact hc
    · rw [if_neg (by omega)]
      have e3 : more = more / 2 * 2 := by omega
      rw [e3, Nat.mul_assoc, Nat.mul_comm 2 (2 ^ k), ← e2] at h2
      exact h2
  · refine ⟨pr, by omega, ?_, more / 2, hm2, ?_⟩
    · rw [show pr % 2 = pr by omega]; exact hc
    · rw [if_pos hpr]
      have e3 : more = more / 2 * 2 + 1 := by omega
      rw [e3, Nat.add_mul, Nat.one_mul, Nat.mul_assoc, Nat.mul_comm 2 (2 ^ k), ← e2, ← Nat.add_assoc, Nat.add_right_comm] at h2
      exact h2
theorem kb_lk_good {n h r k s b : Nat} {told : Nat → Nat → Nat} (he : ∃ kk, kk < 4 ∧ kb_good n h told r k s b kk) : kb_good n h told r k s b (kb_lk n h told r k s b) ∧ ∀ j, j < kb_lk n h told r k s b → ¬ kb_good n h told r k s b j := by
  by_cases g0 : kb_good n h told r k s b 0
  · have e : kb_lk n h told r k s b = 0 := by unfold kb_lk; rw [kb_b_t g0]; rfl
    rw [e]
    exact ⟨g0, fun j hj => absurd hj (Nat.not_lt_zero _)⟩
  · by_cases g1 : kb_good n h told r k s b 1
    · have e : kb_lk n h told r k s b = 1 := by unfold kb_lk; rw [kb_b_f g0, kb_b_t g1]; rfl
      rw [e]
      exact ⟨g1, fun j hj => by rw [show j = 0 by omega]; exact g0⟩
    · by_cases g2 : kb_good n h told r k s b 2
      · have e : kb_lk n h told r k s b = 2 := by unfold kb_lk; rw [kb_b_f g0, kb_b_f g1, kb_b_t g2]; rfl
        rw [e]
        exact ⟨g2, fun j hj => by rcases (show j = 0 ∨ j = 1 by omega) with rfl | rfl; exact g0; exact g1⟩
      · have e : kb_lk n h told r k s b = 3 := by unfold kb_lk; rw [kb_b_f g0, kb_b_f g1, kb_b_f g2]; rfl
        rw [e]
        refine ⟨?_, fun j hj => by rcases (show j = 0 ∨ j = 1 ∨ j = 2 by omega) with rfl | rfl | rfl; exact g0; exact g1; exact g2⟩
        obtain ⟨kk, hkk, hg⟩ := he
        rcases (show kk = 0 ∨ kk = 1 ∨ kk = 2 ∨ kk = 3 by omega) with rfl | rfl | rfl | rfl
        · exact absurd hg g0
        · exact absurd hg g1
        · exact absurd hg g2
        · exact hg
theorem kb_open_all {n h r s : Nat} {told : Nat → Nat → Nat} (hf : kb_fit n told r s) (h0 : kb_open n h told r 0 s 0) : ∀ k, k ≤ kb_kn n r → kb_open n h told r k s (kb_btf n h told r s k)
  | 0, _ => h0
  | k + 1, hk => by
    have hg := (kb_lk_good (kb_good_ex (show k < kb_kn n r by omega) hf (kb_open_all hf h0 k (by omega)))).1
    obtain ⟨-, more, h1, h2⟩ := hg
    exact ⟨more, h1, h2⟩
/-- along the chosen rows the states can be tied on -/
theorem kb_stf_ok {n h s0 : Nat} {told : Nat → Nat → Nat} (hn : n ≤ 6) (hs : s0 < 4 ^ n) (hc : kb_cR n h told h s0) : ∀ r, r ≤ h → kb_stf n h told s0 r < 4 ^ n ∧ kb_cR n h told (h - r) (kb_stf n h told s0 r)
  | 0, _ => ⟨hs, hc⟩
  | r + 1, hr => by
    obtain ⟨h1, h2⟩ := kb_stf_ok hn hs hc r (by omega)
    rw [show h - r = (h - (r + 1)) + 1 by omega, kb_cR_succ hn h1, show h - (h - (r + 1) + 1) = r by omega] at h2
    obtain ⟨hf, b, hb, hcb⟩ := h2
    refine ⟨kb_ch_lt hn h1 _ (Nat.le_refl _), ?_⟩
    have ho := kb_open_all hf ⟨b, hb, by rw [Nat.zero_add, Nat.pow_zero, Nat.mul_one]; exact hcb⟩ (kb_kn n r) (Nat.le_refl _)
    obtain ⟨more, h3, h4⟩ := ho
    rw [Nat.sub_self, Nat.pow_zero] at h3
    have e : more = 0 := by omega
    rw [e, Nat.zero_mul, Nat.add_zero] at h4
    exact h4

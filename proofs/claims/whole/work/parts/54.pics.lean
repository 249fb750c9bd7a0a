/-! ===== pictures: the class's sets knot by knot on six places, the reference's row by row on n ===== -/
def kb_em (n s : Nat) : Nat := s * 4 ^ (6 - n)
/-- the wishes of the first places, on six places -/
def kb_m6 (n : Nat) (mu : Nat → Nat) (j : Nat) : Nat := if j < n then mu j else 0
theorem kb_okq_em {n c r k s : Nat} (hn : n ≤ 6) (hk : k < kb_kn n r) : kb_okq (kb_lf r k) c (kb_em n s) ↔ kb_ok n c r k s := by
  have hl := kb_lf_lt hk
  unfold kb_okq kb_ok kb_em
  rw [kb_dg_emb hn (by omega), kb_dg_emb hn (by omega)]
/-- what the m knots of a row from k on can make of s -/
def kb_rc (n r : Nat) : Nat → Nat → Nat → Nat → Prop
  | 0, _, s, t => t = s
  | m + 1, k, s, t => kb_rc n r m (k + 1) s t ∨ kb_rc n r m (k + 1) (kb_ss n s (kb_lf r k)) t
theorem kb_AH_row {n r M : Nat} {lf wi : Nat → Nat} {told : Nat → Nat → Nat} (hn : n ≤ 6) {z : Nat} (hlf : ∀ i, i < kb_kn n r → lf (z + i) = kb_lf r i) (hwi : ∀ i, i < kb_kn n r → wi (z + i) = told r i) :
    ∀ (m k s : Nat), k + m = kb_kn n r → s < 4 ^ n → (kb_AH lf wi (z + k) (m + M) (kb_em n s) ↔ (∀ i, k ≤ i → i < kb_kn n r → kb_ok n (told r i) r i s) ∧ ∃ t, t < 4 ^ n ∧ kb_rc n r m k s t ∧ kb_AH lf wi (z + kb_kn n r) M (kb_em n t))
  | 0, k, s, h, hs => by
    have e : k = kb_kn n r := by omega
    rw [e, Nat.zero_add]
    exact ⟨fun q => ⟨fun i h1 h2 => absurd h2 (by omega), s, hs, rfl, q⟩, fun ⟨_, t, _, h1, h2⟩ => by cases h1; exact h2⟩
  | m + 1, k, s, h, hs => by
    have hk : k < kb_kn n r := by omega
    have hl := kb_lf_lt hk
    have hs2 : kb_ss n s (kb_lf r k) < 4 ^ n := kb_ss_lt hn hs hl
    have ih1 := kb_AH_row hn hlf hwi (M := M) m (k + 1) s (by omega) hs
    have ih2 := kb_AH_row hn hlf hwi (M := M) m (k + 1) _ (by omega) hs2
    have e1 : m + 1 + M = (m + M) + 1 := by omega
    have e2 : kb_ss 6 (kb_em n s) (kb_lf r k) = kb_em n (kb_ss n s (kb_lf r k)) := kb_ss_emb hn hl
    have hok : (∀ i, k + 1 ≤ i → i < kb_kn n r → kb_ok n (told r i) r i (kb_ss n s (kb_lf r k))) ↔ (∀ i, k + 1 ≤ i → i < kb_kn n r → kb_ok n (told r i) r i s) := ⟨fun q i a b => (kb_ok_ss hn hs b hk).mp (q i a b), fun q i a b => (kb_ok_ss hn hs b hk).mpr (q i a b)⟩
    rw [hok] at ih2
    have e3 : kb_AH lf wi (z + k) (m + 1 + M) (kb_em n s) ↔ kb_ok n (told r k) r k s ∧ (kb_AH lf wi (z + (k + 1)) (m + M) (kb_em n s) ∨ kb_AH lf wi (z + (k + 1)) (m + M) (kb_em n (kb_ss n s (kb_lf r k)))) := by
      rw [e1]
      show kb_okq (lf (z + k)) (wi (z + k)) (kb_em n s) ∧ (_ ∨ kb_AH lf wi (z + k + 1) (m + M) (kb_ss 6 (kb_em n s) (lf (z + k)))) ↔ _
      rw [hlf k hk, hwi k hk, kb_okq_em hn hk, e2]
      exact Iff.rfl
    rw [e3, ih1, ih2]
    constructor
    · rintro ⟨h0, ⟨h1, t, ht, h2, h3⟩ | ⟨h1, t, ht, h2, h3⟩⟩
      · refine ⟨fun i a b => ?_, t, ht, Or.inl h2, h3⟩
        rcases Nat.lt_or_ge k i with q | q
        · exact h1 i q b
        · have e : i = k := by omega
          subst e; exact h0
      · refine ⟨fun i a b => ?_, t, ht, Or.inr h2, h3⟩
        rcases Nat.lt_or_ge k i with q | q
        · exact h1 i q b
        · have e : i = k := by omega
          subst e; exact h0
    · rintro ⟨h1, t, ht, h2 | h2, h3⟩
      · exact ⟨h1 k (Nat.le_refl _) hk, Or.inl ⟨fun i a b => h1 i (by omega) b, t, ht, h2, h3⟩⟩
      · exact ⟨h1 k (Nat.le_refl _) hk, Or.inr ⟨fun i a b => h1 i (by omega) b, t, ht, h2, h3⟩⟩
theorem kb_bt_lo {b k m j : Nat} (hj : j < k) : kb_bt (b + m * 2 ^ k) j = kb_bt b j := by
  unfold kb_bt
  have e : m * 2 ^ k = (m * 2 ^ (k - j - 1) * 2) * 2 ^ j := by
    rw [Nat.mul_assoc, Nat.mul_assoc, ← Nat.pow_succ', ← Nat.pow_add]
    congr 2
    omega
  rw [e, Nat.add_mul_div_right _ _ (Nat.pow_pos (by decide)), Nat.add_mul_mod_self_right]
theorem kb_bt_hi {b k m : Nat} (hb : b < 2 ^ k) : kb_bt (b + m * 2 ^ k) k = (m % 2 == 1) := by
  unfold kb_bt
  rw [Nat.add_mul_div_right _ _ (Nat.pow_pos (by decide)), Nat.div_eq_of_lt hb, Nat.zero_add]
theorem kb_ch_low {n r s b b' : Nat} : ∀ k, (∀ j, j < k → kb_bt b j = kb_bt b' j) → kb_ch n r b s k = kb_ch n r b' s k
  | 0, _ => rfl
  | k + 1, h => by
    show (if kb_bt b k then kb_ss n (kb_ch n r b s k) (kb_lf r k) else kb_ch n r b s k) = (if kb_bt b' k then kb_ss n (kb_ch n r b' s k) (kb_lf r k) else kb_ch n r b' s k)
    rw [h k (Nat.lt_succ_self _), kb_ch_low k (fun j hj => h j (by omega))]
theorem kb_ch_no {n r s b k : Nat} (hb : b < 2 ^ k) : kb_ch n r b s (k + 1) = kb_ch n r b s k := by
  have h := kb_bt_hi (m := 0) hb
  rw [Nat.zero_mul, Nat.add_zero] at h
  show (if kb_bt b k then _ else kb_ch n r b s k) = _
  rw [h]
  rfl
theorem kb_ch_yes {n r s b k : Nat} (hb : b < 2 ^ k) : kb_ch n r (b + 2 ^ k) s (k + 1) = kb_ss n (kb_ch n r b s k) (kb_lf r k) := by
  have h := kb_bt_hi (m := 1) hb
  have h2 : kb_ch n r (b + 1 * 2 ^ k) s k = kb_ch n r b s k := kb_ch_low k (fun j hj => kb_bt_lo hj)
  rw [Nat.one_mul] at h h2
  show (if kb_bt (b + 2 ^ k) k then kb_ss n (kb_ch n r (b + 2 ^ k) s k) (kb_lf r k) else _) = _
  rw [h, h2]
  rfl
theorem kb_rc_bits {n r s : Nat} : ∀ (m k b t : Nat), b < 2 ^ k → (kb_rc n r m k (kb_ch n r b s k) t ↔ ∃ mo, mo < 2 ^ m ∧ t = kb_ch n r (b + mo * 2 ^ k) s (k + m))
  | 0, k, b, t, hb => by
    constructor
    · intro h
      exact ⟨0, by decide, by rw [Nat.zero_mul, Nat.add_zero]; exact h⟩
    · rintro ⟨mo, h1, h2⟩
      have e : mo = 0 := by rw [Nat.pow_zero] at h1; omega
      rw [e, Nat.zero_mul, Nat.add_zero] at h2
      exact h2
  | m + 1, k, b, t, hb => by
    have hp : 2 ^ (k + 1) = 2 ^ k + 2 ^ k := by rw [Nat.pow_succ]; omega
    have ih1 := kb_rc_bits (n := n) (r := r) (s := s) m (k + 1) b t (by omega)
    have ih2 := kb_rc_bits (n := n) (r := r) (s := s) m (k + 1) (b + 2 ^ k) t (by omega)
    rw [kb_ch_no hb] at ih1
    rw [kb_ch_yes hb] at ih2
    show kb_rc n r m (k + 1) (kb_ch n r b s k) t ∨ kb_rc n r m (k + 1) (kb_ss n (kb_ch n r b s k) (kb_lf r k)) t ↔ _
    rw [ih1, ih2]
    have ek : k + 1 + m = k + (m + 1) := by omega
    have em2 : 2 ^ (m + 1) = 2 * 2 ^ m := by rw [Nat.pow_succ]; omega
    constructor
    · rintro (⟨mo, h1, h2⟩ | ⟨mo, h1, h2⟩)
      · refine ⟨2 * mo, by omega, ?_⟩
        rw [h2, ek, Nat.pow_succ', ← Nat.mul_assoc, Nat.mul_comm mo 2]
      · refine ⟨2 * mo + 1, by omega, ?_⟩
        rw [h2, ek, Nat.pow_succ', ← Nat.mul_assoc, Nat.mul_comm mo 2, Nat.add_mul, Nat.one_mul]
        congr 1
        omega
    · rintro ⟨mo, h1, h2⟩
      rcases (show mo % 2 = 0 ∨ mo % 2 = 1 by omega) with q | q
      · refine Or.inl ⟨mo / 2, by omega, ?_⟩
        rw [h2, ek, Nat.pow_succ', ← Nat.mul_assoc, show mo / 2 * 2 = mo by omega]
      · refine Or.inr ⟨mo / 2, by omega, ?_⟩
        have e9 : mo * 2 ^ k = mo / 2 * 2 * 2 ^ k + 2 ^ k := by
          have : mo = mo / 2 * 2 + 1 := by omega
          rw [show mo * 2 ^ k = (mo / 2 * 2 + 1) * 2 ^ k by rw [← this], Nat.add_mul, Nat.one_mul]
        rw [h2, ek, Nat.pow_succ', ← Nat.mul_assoc, e9]
        congr 1
        omega
theorem kb_lq_at {n r i : Nat} (hn : n ≤ 6) (hr : r < 16) (hi : i < kb_kn n r) : kb_rk n 16 (kb_kc n r + i) = (r, i) := kb_rk_at n (by omega) r hr i (Nat.lt_of_lt_of_le hi (kb_kn_le hn)) hi
theorem kb_Az_row {n h r k s : Nat} {told : Nat → Nat → Nat} (hn : n ≤ 6) (hh : h ≤ 16) (hr : r < h) (hk : k ≤ kb_kn n r) (hs : s < 4 ^ n) : kb_Az n h told (kb_kc n r + k) (kb_em n s) ↔ (∀ i, k ≤ i → i < kb_kn n r → kb_ok n (told r i) r i s) ∧ ∃ t, t < 4 ^ n ∧ kb_rc n r (kb_kn n r - k) k s t ∧ kb_Az n h told (kb_kc n (r + 1)) (kb_em n t) := by
  have h1 : kb_kc n (r + 1) ≤ kb_kc n h := kb_kc_mono hr
  have h2 : kb_kc n (r + 1) = kb_kc n r + kb_kn n r := rfl
  unfold kb_Az
  rw [show kb_kc n h - (kb_kc n r + k) = (kb_kn n r - k) + (kb_kc n h - kb_kc n (r + 1)) by omega, h2]
  exact kb_AH_row hn (told := told) (fun i hi => by unfold kb_lq; rw [kb_lq_at hn (by omega) hi]) (fun i hi => by unfold kb_wq; rw [kb_lq_at hn (by omega) hi]) _ k s (by omega) hs
theorem kb_Az_cR {n h : Nat} {told : Nat → Nat → Nat} (hn : n ≤ 6) (hh : h ≤ 16) : ∀ (j s : Nat), j ≤ h → s < 4 ^ n → (kb_Az n h told (kb_kc n (h - j)) (kb_em n s) ↔ kb_cR n h told j s)
  | 0, s, _, _ => by
    unfold kb_Az
    rw [Nat.sub_zero, Nat.sub_self]
    exact ⟨fun _ => trivial, fun _ => trivial⟩
  | j + 1, s, hj, hs => by
    have e := kb_Az_row (told := told) hn hh (r := h - (j + 1)) (k := 0) (by omega) (Nat.zero_le _) hs
    rw [Nat.add_zero] at e
    rw [e, kb_cR_succ hn hs, show h - (j + 1) + 1 = h - j by omega, Nat.sub_zero]
    have hb := fun t => kb_rc_bits (n := n) (r := h - (j + 1)) (s := s) (kb_kn n (h - (j + 1))) 0 0 t (by decide)
    constructor
    · rintro ⟨h1, t, ht, h2, h3⟩
      refine ⟨fun i hi => h1 i (Nat.zero_le _) hi, ?_⟩
      obtain ⟨mo, h4, h5⟩ := (hb t).mp h2
      rw [Nat.zero_add, Nat.pow_zero, Nat.mul_one, Nat.zero_add] at h5
      rw [h5] at ht h3
      exact ⟨mo, h4, (kb_Az_cR hn hh j _ (by omega) ht).mp h3⟩
    · rintro ⟨h1, mo, h4, h5⟩
      have ht := kb_ch_lt (r := h - (j + 1)) (b := mo) hn hs _ (Nat.le_refl _)
      exact ⟨fun i _ hi => h1 i hi, _, ht, (hb _).mpr ⟨mo, h4, by rw [Nat.zero_add, Nat.pow_zero, Nat.mul_one, Nat.zero_add]⟩, (kb_Az_cR hn hh j _ (by omega) ht).mpr h5⟩
theorem kb_em_lo {n s j : Nat} (hj : n ≤ j) (hj6 : j < 6) : kb_dg 6 (kb_em n s) j = 0 := by
  unfold kb_dg kb_em
  have e : 4 ^ (6 - n) = 4 ^ (j - n) * 4 * 4 ^ (6 - 1 - j) := by
    rw [← Nat.pow_succ, ← Nat.pow_add]
    congr 1
    omega
  rw [e, ← Nat.mul_assoc, Nat.mul_div_cancel _ (Nat.pow_pos (by decide)), ← Nat.mul_assoc, Nat.mul_mod_left]
theorem kb_St_em {n h s : Nat} {told : Nat → Nat → Nat} {mu : Nat → Nat} (hn : n ≤ 6) (hh : h ≤ 16) (hs : s < 4 ^ n) : kb_St n h told (kb_m6 n mu) (kb_em n s) ↔ kb_stt n h told mu s := by
  have e0 := kb_Az_cR (told := told) hn hh h s (Nat.le_refl _) hs
  rw [Nat.sub_self] at e0
  unfold kb_St kb_stt kb_S0
  rw [show kb_kc n 0 = 0 from rfl] at e0
  rw [e0, and_comm]
  refine and_congr Iff.rfl ⟨fun q j hj => ?_, fun q j hj => ?_⟩
  · have := q j (by omega)
    unfold kb_m6 at this
    rw [if_pos hj, show kb_dg 6 (kb_em n s) j = kb_dg n s j from kb_dg_emb hn hj] at this
    exact this
  · unfold kb_m6
    rcases Nat.lt_or_ge j n with z | z
    · rw [if_pos z, show kb_dg 6 (kb_em n s) j = kb_dg n s j from kb_dg_emb hn z]
      exact q j z
    · rw [if_neg (by omega), kb_em_lo z hj]
      exact Or.inr rfl
theorem kb_mod4 {t : Nat} : ∀ m, (∀ i, i < m → t / 4 ^ i % 4 = 0) → t % 4 ^ m = 0
  | 0, _ => by rw [Nat.pow_zero, Nat.mod_one]
  | m + 1, h => by
    rw [Nat.pow_succ, Nat.mod_mul, h m (Nat.lt_succ_self _), kb_mod4 m (fun i hi => h i (by omega)), Nat.mul_zero]
theorem kb_St_only {n t : Nat} {mu : Nat → Nat} (hn : n ≤ 6) (ht : t < 4096) (hS : kb_S0 (kb_m6 n mu) 6 t) : ∃ s, s < 4 ^ n ∧ t = kb_em n s := by
  have hz : t % 4 ^ (6 - n) = 0 := kb_mod4 _ (fun i hi => by
    have := hS (5 - i) (by omega)
    unfold kb_m6 kb_dg at this
    rw [if_neg (by omega), show 6 - 1 - (5 - i) = i by omega] at this
    rcases this with q | q
    · omega
    · exact q.symm)
  have e := Nat.div_add_mod t (4 ^ (6 - n))
  refine ⟨t / 4 ^ (6 - n), ?_, ?_⟩
  · apply Nat.div_lt_of_lt_mul
    rw [← Nat.pow_add, show 6 - n + n = 6 by omega]
    exact ht
  · unfold kb_em
    rw [hz, Nat.add_zero, Nat.mul_comm] at e
    exact e.symm
theorem kb_em_lt {n s : Nat} (hn : n ≤ 6) (hs : s < 4 ^ n) : kb_em n s < 4096 := kb_emb_lt hn hs
theorem kb_em_mono {n s t : Nat} (h : s < t) : kb_em n s < kb_em n t := Nat.mul_lt_mul_of_pos_right h (Nat.pow_pos (by decide))
theorem kb_em_iff {n s t : Nat} : kb_em n s < kb_em n t ↔ s < t := ⟨fun h => by
  rcases Nat.lt_or_ge s t with q | q
  · exact q
  · exact absurd (Nat.mul_le_mul_right (4 ^ (6 - n)) q) (by unfold kb_em at h; omega), kb_em_mono⟩
/-- the class's first start is the reference's -/
theorem kb_fst_em {n h : Nat} {told : Nat → Nat → Nat} {mu : Nat → Nat} {r : Int32} (hn : n ≤ 6) (hh : h ≤ 16) (hf : kb_fst (kb_St n h told (kb_m6 n mu)) 4096 r) : (∃ s, s < 4 ^ n ∧ kb_stt n h told mu s ∧ (∀ t, t < s → ¬ kb_stt n h told mu t) ∧ r = nI (kb_em n s)) ∨ ((∀ s, s < 4 ^ n → ¬ kb_stt n h told mu s) ∧ r = -1) := by
  rcases hf with ⟨t, h1, h2, h3, h4⟩ | ⟨h1, h2⟩
  · obtain ⟨s, hs, rfl⟩ := kb_St_only hn h1 h2.1
    refine Or.inl ⟨s, hs, (kb_St_em hn hh hs).mp h2, fun u hu hp => ?_, h4⟩
    exact h3 _ (kb_em_mono hu) ((kb_St_em hn hh (by omega)).mpr hp)
  · exact Or.inr ⟨fun s hs hp => h1 _ (kb_em_lt hn hs) ((kb_St_em hn hh hs).mpr hp), h2⟩
theorem kb_ct_gap {P : Nat → Prop} {a : Nat} : ∀ m, (∀ i, i < m → ¬ P (a + 1 + i)) → kb_ct P (a + 1 + m) = kb_ct P (a + 1)
  | 0, _ => rfl
  | m + 1, h => by
    show kb_ct P (a + 1 + m) + (if kb_b (P (a + 1 + m)) then 1 else 0) = _
    rw [kb_b_f (h m (Nat.lt_succ_self _)), kb_ct_gap m (fun i hi => h i (by omega))]
    rfl
theorem kb_ct_em {P : Nat → Prop} {d : Nat} (hd : 0 < d) : ∀ N, (∀ t, t < N * d → P t → t % d = 0) → kb_ct P (N * d) = kb_ct (fun s => P (s * d)) N
  | 0, _ => by rw [Nat.zero_mul]; rfl
  | N + 1, h => by
    have e1 : (N + 1) * d = N * d + 1 + (d - 1) := by rw [Nat.add_mul, Nat.one_mul]; omega
    rw [e1, kb_ct_gap (d - 1) (fun i hi hp => by
      have := h (N * d + 1 + i) (by rw [e1]; omega) hp
      rw [Nat.add_assoc, Nat.mul_comm N d, Nat.mul_add_mod, Nat.mod_eq_of_lt (by omega)] at this
      omega)]
    show kb_ct P (N * d) + _ = kb_ct (fun s => P (s * d)) N + _
    rw [kb_ct_em hd N (fun t ht hp => h t (by rw [e1]; omega) hp)]
/-- there are as many starts in the class as in the reference -/
theorem kb_ct_St {n h : Nat} {told : Nat → Nat → Nat} {mu : Nat → Nat} (hn : n ≤ 6) (hh : h ≤ 16) : kb_ct (kb_St n h told (kb_m6 n mu)) 4096 = kb_ct (kb_stt n h told mu) (4 ^ n) := by
  have e : 4096 = 4 ^ n * 4 ^ (6 - n) := by rw [← Nat.pow_add, show n + (6 - n) = 6 by omega]
  rw [e, kb_ct_em (Nat.pow_pos (by decide)) (4 ^ n) (fun t ht hp => by
    obtain ⟨s, -, rfl⟩ := kb_St_only hn (by rw [e]; exact ht) hp.1
    exact Nat.mul_mod_left _ _)]
  exact kb_ct_congr (fun s hs => kb_St_em hn hh hs)
/-! the kinds -/
theorem kb_gA_good {n h r k s b : Nat} {told : Nat → Nat → Nat} (hn : n ≤ 6) (hh : h ≤ 16) (hr : r < h) (hk : k < kb_kn n r) (hs : s < 4 ^ n) (hb : b < 2 ^ k) (hf : kb_fit n told r s) (kk : Nat) :
    kb_gA (kb_Az n h told (kb_kc n r + k + 1)) (kb_lf r k) (told r k) (kb_em n (kb_ch n r b s k)) kk ↔ kb_good n h told r k s b kk := by
  have hl := kb_lf_lt hk
  unfold kb_gA kb_good
  have hp2 : kk % 2 < 2 := Nat.mod_lt _ (by decide)
  have ed : kb_dg 6 (kb_em n (kb_ch n r b s k)) (kb_lf r k + kk % 2) = kb_dg n s (kb_lf r k + kk % 2) := by
    rw [show kb_dg 6 (kb_em n (kb_ch n r b s k)) (kb_lf r k + kk % 2) = kb_dg n (kb_ch n r b s k) (kb_lf r k + kk % 2) from kb_dg_emb hn (by omega), kb_dg_ch hn hs k (by omega) _ (by omega), if_neg (by unfold kb_lf; omega)]
  have e1 : (told r k = 4 ∨ told r k = kb_dg n s (kb_lf r k + kk % 2)) ↔ (told r k = 4 ∨ kb_dg n s (kb_lf r k + kk % 2) = told r k) := by rw [eq_comm (a := told r k) (b := kb_dg n s _)]
  rw [ed, e1]
  refine and_congr Iff.rfl ?_
  have hp : 2 ^ (k + 1) = 2 ^ k + 2 ^ k := by rw [Nat.pow_succ]; omega
  have key : ∀ b', b' < 2 ^ (k + 1) → (kb_Az n h told (kb_kc n r + k + 1) (kb_em n (kb_ch n r b' s (k + 1))) ↔ ∃ more, more < 2 ^ (kb_kn n r - (k + 1)) ∧ kb_cR n h told (h - (r + 1)) (kb_ch n r (b' + more * 2 ^ (k + 1)) s (kb_kn n r))) := by
    intro b' hb'
    have hc' := kb_ch_lt (r := r) (b := b') hn hs (k + 1) (by omega)
    have e := kb_Az_row (told := told) hn hh hr (k := k + 1) (by omega) hc'
    rw [show kb_kc n r + k + 1 = kb_kc n r + (k + 1) by omega, e]
    have hbits := fun t => kb_rc_bits (n := n) (r := r) (s := s) (kb_kn n r - (k + 1)) (k + 1) b' t hb'
    have hend := fun t ht => kb_Az_cR (told := told) hn hh (h - (r + 1)) t (by omega) ht
    rw [show h - (h - (r + 1)) = r + 1 by omega] at hend
    constructor
    · rintro ⟨-, t, ht, h2, h3⟩
      obtain ⟨mo, h4, h5⟩ := (hbits t).mp h2
      rw [show k + 1 + (kb_kn n r - (k + 1)) = kb_kn n r by omega] at h5
      rw [h5] at ht h3
      exact ⟨mo, h4, (hend _ ht).mp h3⟩
    · rintro ⟨mo, h4, h5⟩
      have ht := kb_ch_lt (r := r) (b := b' + mo * 2 ^ (k + 1)) hn hs _ (Nat.le_refl _)
      exact ⟨fun i _ hi => (kb_ok_ch hn hs hi _ (by omega)).mpr (hf i hi), _, ht, (hbits _).mpr ⟨mo, h4, by rw [show k + 1 + (kb_kn n r - (k + 1)) = kb_kn n r by omega]⟩, (hend _ ht).mpr h5⟩
  have eb : kb_bh (kb_em n (kb_ch n r b s k)) (kb_lf r k) kk = kb_em n (kb_ch n r (if kk < 2 then b + 2 ^ k else b) s (k + 1)) := by
    unfold kb_bh
    by_cases c : kk < 2
    · rw [if_pos c, if_pos c, kb_ch_yes hb]
      exact kb_ss_emb hn hl
    · rw [if_neg c, if_neg c, kb_ch_no hb]
  rw [eb]
  exact key _ (by split <;> omega)
theorem kb_sz_row {n h s0 r : Nat} {told : Nat → Nat → Nat} (hn : n ≤ 6) (hh : h ≤ 16) (hr : r < h) {s : Nat} (hs : s < 4 ^ n) (hf : kb_fit n told r s) (h0 : kb_sz (kb_Az n h told) (kb_lq n) (kb_wq n told) s0 (kb_kc n r) = kb_em n s) :
    ∀ k, k ≤ kb_kn n r → kb_sz (kb_Az n h told) (kb_lq n) (kb_wq n told) s0 (kb_kc n r + k) = kb_em n (kb_ch n r (kb_btf n h told r s k) s k) ∧ (k < kb_kn n r → kb_kz (kb_Az n h told) (kb_lq n) (kb_wq n told) s0 (kb_kc n r + k) = kb_lk n h told r k s (kb_btf n h told r s k)) := by
  have hkz : ∀ k, k < kb_kn n r → kb_sz (kb_Az n h told) (kb_lq n) (kb_wq n told) s0 (kb_kc n r + k) = kb_em n (kb_ch n r (kb_btf n h told r s k) s k) → kb_kz (kb_Az n h told) (kb_lq n) (kb_wq n told) s0 (kb_kc n r + k) = kb_lk n h told r k s (kb_btf n h told r s k) := by
    intro k hk e
    unfold kb_kz
    rw [e, show kb_lq n (kb_kc n r + k) = kb_lf r k by unfold kb_lq; rw [kb_lq_at hn (by omega) hk], show kb_wq n told (kb_kc n r + k) = told r k by unfold kb_wq; rw [kb_lq_at hn (by omega) hk]]
    exact kb_l3_congr (fun j _ => kb_gA_good hn hh hr hk hs (kb_btf_lt n h told r s k) hf j)
  intro k
  induction k with
  | zero => exact fun _ => ⟨h0, fun hk => hkz 0 hk h0⟩
  | succ k ih =>
    intro hk
    obtain ⟨h1, h2⟩ := ih (by omega)
    have h2 := h2 (by omega)
    have hb := kb_btf_lt n h told r s k
    have hl := kb_lf_lt (show k < kb_kn n r by omega)
    have e : kb_sz (kb_Az n h told) (kb_lq n) (kb_wq n told) s0 (kb_kc n r + (k + 1)) = kb_em n (kb_ch n r (kb_btf n h told r s (k + 1)) s (k + 1)) := by
      show kb_bh (kb_sz (kb_Az n h told) (kb_lq n) (kb_wq n told) s0 (kb_kc n r + k)) (kb_lq n (kb_kc n r + k)) (kb_kz (kb_Az n h told) (kb_lq n) (kb_wq n told) s0 (kb_kc n r + k)) = _
      rw [h2, h1, show kb_lq n (kb_kc n r + k) = kb_lf r k by unfold kb_lq; rw [kb_lq_at hn (by omega) (by omega)]]
      show _ = kb_em n (kb_ch n r (if kb_lk n h told r k s (kb_btf n h told r s k) < 2 then kb_btf n h told r s k + 2 ^ k else kb_btf n h told r s k) s (k + 1))
      unfold kb_bh
      by_cases c : kb_lk n h told r k s (kb_btf n h told r s k) < 2
      · rw [if_pos c, if_pos c, kb_ch_yes hb]
        exact kb_ss_emb hn hl
      · rw [if_neg c, if_neg c, kb_ch_no hb]
    exact ⟨e, fun hk2 => hkz (k + 1) hk2 e⟩
theorem kb_sz_rows {n h s0 : Nat} {told : Nat → Nat → Nat} (hn : n ≤ 6) (hh : h ≤ 16) (hs : s0 < 4 ^ n) (hc : kb_cR n h told h s0) : ∀ r, r ≤ h → kb_sz (kb_Az n h told) (kb_lq n) (kb_wq n told) (kb_em n s0) (kb_kc n r) = kb_em n (kb_stf n h told s0 r)
  | 0, _ => rfl
  | r + 1, hr => by
    obtain ⟨h1, h2⟩ := kb_stf_ok hn hs hc r (by omega)
    have hf : kb_fit n told r (kb_stf n h told s0 r) := by
      rw [show h - r = (h - (r + 1)) + 1 by omega, kb_cR_succ hn h1, show h - (h - (r + 1) + 1) = r by omega] at h2
      exact h2.1
    exact (kb_sz_row hn hh hr h1 hf (kb_sz_rows hn hh hs hc r (by omega)) (kb_kn n r) (Nat.le_refl _)).1
/-- the class's kinds are the reference's -/
theorem kb_kz_lk {n h s0 r k : Nat} {told : Nat → Nat → Nat} (hn : n ≤ 6) (hh : h ≤ 16) (hs : s0 < 4 ^ n) (hc : kb_cR n h told h s0) (hr : r < h) (hk : k < kb_kn n r) : kb_kz (kb_Az n h told) (kb_lq n) (kb_wq n told) (kb_em n s0) (kb_kc n r + k) = kb_lk n h told r k (kb_stf n h told s0 r) (kb_btf n h told r (kb_stf n h told s0 r) k) := by
  obtain ⟨h1, h2⟩ := kb_stf_ok hn hs hc r (by omega)
  have hf : kb_fit n told r (kb_stf n h told s0 r) := by
    rw [show h - r = (h - (r + 1)) + 1 by omega, kb_cR_succ hn h1, show h - (h - (r + 1) + 1) = r by omega] at h2
    exact h2.1
  exact (kb_sz_row hn hh hr h1 hf (kb_sz_rows hn hh hs hc r (by omega)) k (by omega)).2 hk
/-! the suspects -/
theorem kb_okq_ss {p c s : Nat} (hp : p < 5) (hs : s < 4096) : kb_okq p c (kb_ss 6 s p) ↔ kb_okq p c s := by
  unfold kb_okq
  rw [kb_dg6_ss hs hp (by omega), kb_dg6_ss hs hp (by omega), if_pos rfl, if_neg (by omega), if_pos rfl]
  constructor
  · rintro (h | h | h)
    · exact Or.inl h
    · exact Or.inr (Or.inr h)
    · exact Or.inr (Or.inl h)
  · rintro (h | h | h)
    · exact Or.inl h
    · exact Or.inr (Or.inr h)
    · exact Or.inr (Or.inl h)
theorem kb_ss6_ss {p s : Nat} (hp : p < 5) (hs : s < 4096) : kb_ss 6 (kb_ss 6 s p) p = s := kb_ss_ss (n := 6) (by decide) hs (by omega)
/-- what is reached and what can be done meet at any knot or at none -/
theorem kb_meet {lf wi : Nat → Nat} {S0 : Nat → Prop} {z j : Nat} (hl : lf z < 5) : (∃ t, t < 4096 ∧ kb_FW lf wi S0 z t ∧ kb_AH lf wi z (j + 1) t) ↔ (∃ t, t < 4096 ∧ kb_FW lf wi S0 (z + 1) t ∧ kb_AH lf wi (z + 1) j t) := by
  constructor
  · rintro ⟨t, ht, h1, h2, h3 | h3⟩
    · exact ⟨t, ht, ⟨h2, Or.inl h1⟩, h3⟩
    · exact ⟨_, kb_ss6_lt ht hl, ⟨(kb_okq_ss hl ht).mpr h2, Or.inr (by rw [kb_ss6_ss hl ht]; exact h1)⟩, h3⟩
  · rintro ⟨t, ht, ⟨h2, h1 | h1⟩, h3⟩
    · exact ⟨t, ht, h1, h2, Or.inl h3⟩
    · exact ⟨_, kb_ss6_lt ht hl, h1, (kb_okq_ss hl ht).mpr h2, Or.inr (by rw [kb_ss6_ss hl ht]; exact h3)⟩
theorem kb_meets {lf wi : Nat → Nat} {S0 : Nat → Prop} {K : Nat} (hl : ∀ z, z < K → lf z < 5) : ∀ z, z ≤ K → ((∃ t, t < 4096 ∧ S0 t ∧ kb_AH lf wi 0 K t) ↔ (∃ t, t < 4096 ∧ kb_FW lf wi S0 z t ∧ kb_AH lf wi z (K - z) t))
  | 0, _ => Iff.rfl
  | z + 1, hz => by
    rw [kb_meets hl z (by omega), show K - z = (K - (z + 1)) + 1 by omega]
    exact kb_meet (hl z (by omega))
theorem kb_FW_congr {lf wi wi' : Nat → Nat} {S0 : Nat → Prop} : ∀ z, (∀ i, i < z → wi i = wi' i) → ∀ s, kb_FW lf wi S0 z s ↔ kb_FW lf wi' S0 z s
  | 0, _, _ => Iff.rfl
  | z + 1, h, s => by
    show kb_okq (lf z) (wi z) s ∧ (_ ∨ _) ↔ kb_okq (lf z) (wi' z) s ∧ (_ ∨ _)
    rw [h z (Nat.lt_succ_self _), kb_FW_congr z (fun i hi => h i (by omega)) s, kb_FW_congr z (fun i hi => h i (by omega)) (kb_ss 6 s (lf z))]
theorem kb_AH_congr {lf wi wi' : Nat → Nat} : ∀ j z, (∀ i, z ≤ i → i < z + j → wi i = wi' i) → ∀ s, kb_AH lf wi z j s ↔ kb_AH lf wi' z j s
  | 0, _, _, _ => Iff.rfl
  | j + 1, z, h, s => by
    show kb_okq (lf z) (wi z) s ∧ (_ ∨ _) ↔ kb_okq (lf z) (wi' z) s ∧ (_ ∨ _)
    rw [h z (Nat.le_refl _) (by omega), kb_AH_congr j (z + 1) (fun i a b => h i (by omega) (by omega)) s, kb_AH_congr j (z + 1) (fun i a b => h i (by omega) (by omega)) (kb_ss 6 s (lf z))]
theorem kb_lq_lt {n h z : Nat} (hn : n ≤ 6) (hh : h ≤ 16) (hz : z < kb_kc n h) : kb_lq n z < 5 := by
  have hK := kb_kc_le n (by omega) h (by omega)
  have := kb_lf_lt (kb_rk_in n (by omega) h (by omega) z (by omega) hz).2.1
  unfold kb_lq
  omega
/-- a suspect of the class is one of the reference -/
theorem kb_qs_sus {n h r k : Nat} {told : Nat → Nat → Nat} {mu : Nat → Nat} (hn : n ≤ 6) (hh : h ≤ 16) (hr : r < h) (hk : k < kb_kn n r) : kb_qs (kb_lq n) (kb_wq n told) (kb_S0 (kb_m6 n mu) 6) (kb_Az n h told) (kb_kc n r + k) ↔ kb_sus n h told mu r k := by
  have hzK : kb_kc n r + k < kb_kc n h := kb_kc_lt hr hk
  have hK := kb_kc_le n (by omega) h (by omega)
  have hin := kb_rk_in n (by omega) h (by omega)
  have hat := kb_lq_at hn (show r < 16 by omega) hk
  have hlz : kb_lq n (kb_kc n r + k) < 5 := kb_lq_lt hn hh hzK
  have hwz : kb_wq n told (kb_kc n r + k) = told r k := by unfold kb_wq; rw [hat]
  have hwn : ∀ i, i < kb_kc n h → i ≠ kb_kc n r + k → kb_wq n (kb_unt told r k) i = kb_wq n told i := by
    intro i hi hne
    unfold kb_wq kb_unt
    rw [if_neg]
    rintro ⟨e1, e2⟩
    have := (hin i (by omega) hi).2.2
    rw [e1, e2] at this
    exact hne this.symm
  have hw4 : kb_wq n (kb_unt told r k) (kb_kc n r + k) = 4 := by
    unfold kb_wq kb_unt
    rw [hat, if_pos ⟨rfl, rfl⟩]
  unfold kb_qs kb_sus
  rw [hwz]
  refine and_congr Iff.rfl ?_
  have step1 : (∃ s, s < 4 ^ n ∧ kb_stt n h (kb_unt told r k) mu s) ↔ (∃ t, t < 4096 ∧ kb_S0 (kb_m6 n mu) 6 t ∧ kb_AH (kb_lq n) (kb_wq n (kb_unt told r k)) 0 (kb_kc n h) t) := by
    constructor
    · rintro ⟨s, hs, h1⟩
      have h2 := (kb_St_em hn hh hs).mpr h1
      exact ⟨_, kb_em_lt hn hs, h2.1, h2.2⟩
    · rintro ⟨t, ht, h1, h2⟩
      obtain ⟨s, hs, rfl⟩ := kb_St_only hn ht h1
      exact ⟨s, hs, (kb_St_em hn hh hs).mp ⟨h1, h2⟩⟩
  rw [step1, kb_meets (fun z hz => kb_lq_lt hn hh hz) (kb_kc n r + k) (by omega), show kb_kc n h - (kb_kc n r + k) = (kb_kc n h - (kb_kc n r + k + 1)) + 1 by omega]
  have hF : ∀ s, kb_FW (kb_lq n) (kb_wq n (kb_unt told r k)) (kb_S0 (kb_m6 n mu) 6) (kb_kc n r + k) s ↔ kb_FW (kb_lq n) (kb_wq n told) (kb_S0 (kb_m6 n mu) 6) (kb_kc n r + k) s := kb_FW_congr _ (fun i hi => hwn i (by omega) (by omega))
  have hA : ∀ s, kb_AH (kb_lq n) (kb_wq n (kb_unt told r k)) (kb_kc n r + k + 1) (kb_kc n h - (kb_kc n r + k + 1)) s ↔ kb_Az n h told (kb_kc n r + k + 1) s := kb_AH_congr _ _ (fun i a b => hwn i (by omega) (by omega))
  constructor
  · rintro ⟨s, hs, h1 | h1, h2⟩
    · exact ⟨s, hs, (hF s).mpr h1, Or.inl hw4, Or.inl ((hA s).mpr h2)⟩
    · exact ⟨_, kb_ss6_lt hs hlz, (hF _).mpr h1, Or.inl hw4, Or.inr (by rw [kb_ss6_ss hlz hs]; exact (hA s).mpr h2)⟩
  · rintro ⟨t, ht, h1, -, h2 | h2⟩
    · exact ⟨t, ht, Or.inl ((hF t).mp h1), (hA t).mp h2⟩
    · exact ⟨_, kb_ss6_lt ht hlz, Or.inr (by rw [kb_ss6_ss hlz ht]; exact (hF t).mp h1), (hA _).mp h2⟩
theorem kb_ql_R {Q : Nat → Prop} {P : Nat → Nat → Prop} {n r : Nat} {L : List Nat} (hn : n ≤ 6) (hr : r < 16) (hQ : ∀ k, k < kb_kn n r → (Q (kb_kc n r + k) ↔ P r k)) (hL : kb_ql Q (kb_nq n) (kb_kc n r) = L) : ∀ k, k ≤ kb_kn n r → kb_ql Q (kb_nq n) (kb_kc n r + k) = L ++ kb_slR P r k
  | 0, _ => by rw [Nat.add_zero, hL]; exact (List.append_nil L).symm
  | k + 1, hk => by
    show kb_ql Q (kb_nq n) (kb_kc n r + k) ++ (if kb_b (Q (kb_kc n r + k)) then [kb_nq n (kb_kc n r + k)] else []) = L ++ (kb_slR P r k ++ (if kb_b (P r k) then [8 * r + k] else []))
    rw [kb_ql_R hn hr hQ hL k (by omega), propext (hQ k (by omega)), show kb_nq n (kb_kc n r + k) = 8 * r + k by unfold kb_nq; rw [kb_lq_at hn hr (by omega)], List.append_assoc]
theorem kb_ql_all {Q : Nat → Prop} {P : Nat → Nat → Prop} {n h : Nat} (hn : n ≤ 6) (hh : h ≤ 16) (hQ : ∀ r, r < h → ∀ k, k < kb_kn n r → (Q (kb_kc n r + k) ↔ P r k)) : ∀ r, r ≤ h → kb_ql Q (kb_nq n) (kb_kc n r) = kb_sls P n r
  | 0, _ => rfl
  | r + 1, hr => kb_ql_R hn (by omega) (hQ r (by omega)) (kb_ql_all hn hh hQ r (by omega)) (kb_kn n r) (Nat.le_refl _)
/-- the class's suspects are the reference's -/
theorem kb_Lq_sls {n h : Nat} {told : Nat → Nat → Nat} {mu : Nat → Nat} (hn : n ≤ 6) (hh : h ≤ 16) : kb_Lq n h told (kb_m6 n mu) = kb_sls (kb_sus n h told mu) n h := kb_ql_all hn hh (fun _ hr _ hk => kb_qs_sus hn hh hr hk) h (Nat.le_refl _)

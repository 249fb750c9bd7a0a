/-! ===== what the checks give ===== -/
theorem nv_exchanged {s p : Nat} (hs : s < 4096) (hp : p < 5) : kb_exchanged (nI s) (nI (2 * (4 - p))) = nI (kb_ss 6 s p) := by
  have h := List.all_eq_true.mp kb_chkE_ok s (List.mem_range.mpr hs)
  exact eq_of_beq (List.all_eq_true.mp h p (List.mem_range.mpr hp))
theorem nv_exchangedW {s p : Nat} (hs : s < 64) (hp : p < 2) : kb_exchanged (nI s) (nI (2 * (1 - p))) = nI (kb_ss 3 s p) := by
  have h := List.all_eq_true.mp kb_chkW_ok s (List.mem_range.mpr hs)
  exact eq_of_beq (List.all_eq_true.mp h p (List.mem_range.mpr hp))
theorem nv_swapped {n s p : Nat} (hn : 2 ≤ n) (hn6 : n ≤ 6) (hs : s < 4 ^ n) (hp : p + 1 < n) : kb_swapped (nI n) (nI s) (nI p) = nI (kb_ss n s p) := by
  have key : (List.range (4 ^ n)).all (kb_chkS n) = true := by
    rcases (show n = 2 ∨ n = 3 ∨ n = 4 ∨ n = 5 ∨ n = 6 by omega) with rfl | rfl | rfl | rfl | rfl
    · exact kb_chkS2
    · exact kb_chkS3
    · exact kb_chkS4
    · exact kb_chkS5
    · exact kb_chkS6
  have h := List.all_eq_true.mp key s (List.mem_range.mpr hs)
  exact eq_of_beq (List.all_eq_true.mp h p (List.mem_range.mpr (by omega)))
theorem kb_ss6_lt {s p : Nat} (hs : s < 4096) (hp : p < 5) : kb_ss 6 s p < 4096 := by
  have h := List.all_eq_true.mp kb_chkD_ok s (List.mem_range.mpr hs)
  have h2 := List.all_eq_true.mp h p (List.mem_range.mpr hp)
  simp only [Bool.and_eq_true] at h2
  exact Nat.ble_eq.mp h2.1
theorem kb_dg6_ss {s p j : Nat} (hs : s < 4096) (hp : p < 5) (hj : j < 6) : kb_dg 6 (kb_ss 6 s p) j = if j = p then kb_dg 6 s (p + 1) else if j = p + 1 then kb_dg 6 s p else kb_dg 6 s j := by
  have h := List.all_eq_true.mp kb_chkD_ok s (List.mem_range.mpr hs)
  have h2 := List.all_eq_true.mp h p (List.mem_range.mpr hp)
  simp only [Bool.and_eq_true] at h2
  exact eq_of_beq (List.all_eq_true.mp h2.2 j (List.mem_range.mpr hj))
theorem kb_dg6_ext {s t : Nat} (hs : s < 4096) (ht : t < 4096) (h : ∀ j, j < 6 → kb_dg 6 s j = kb_dg 6 t j) : s = t := by
  have h0 := h 0 (by decide)
  have h1 := h 1 (by decide)
  have h2 := h 2 (by decide)
  have h3 := h 3 (by decide)
  have h4 := h 4 (by decide)
  have h5 := h 5 (by decide)
  have e : (4 : Nat) ^ 5 = 1024 ∧ (4 : Nat) ^ 4 = 256 ∧ (4 : Nat) ^ 3 = 64 ∧ (4 : Nat) ^ 2 = 16 ∧ (4 : Nat) ^ 1 = 4 ∧ (4 : Nat) ^ 0 = 1 := by decide
  have g0 : s / 1024 % 4 = t / 1024 % 4 := h0
  have g1 : s / 256 % 4 = t / 256 % 4 := h1
  have g2 : s / 64 % 4 = t / 64 % 4 := h2
  have g3 : s / 16 % 4 = t / 16 % 4 := h3
  have g4 : s / 4 % 4 = t / 4 % 4 := h4
  have g5 : s / 1 % 4 = t / 1 % 4 := h5
  omega
/-- n places within six -/
theorem kb_dg_emb {n s p : Nat} (hn : n ≤ 6) (hp : p < n) : kb_dg 6 (s * 4 ^ (6 - n)) p = kb_dg n s p := by
  unfold kb_dg
  have e : 4 ^ (6 - 1 - p) = 4 ^ (n - 1 - p) * 4 ^ (6 - n) := by rw [← Nat.pow_add]; congr 1; omega
  rw [e, Nat.mul_div_mul_right _ _ (Nat.pow_pos (by decide))]
theorem kb_ss_emb {n s p : Nat} (hn : n ≤ 6) (hp : p + 1 < n) : kb_ss 6 (s * 4 ^ (6 - n)) p = kb_ss n s p * 4 ^ (6 - n) := by
  unfold kb_ss
  have e : 4 ^ (6 - 2 - p) = 4 ^ (n - 2 - p) * 4 ^ (6 - n) := by rw [← Nat.pow_add]; congr 1; omega
  have hpos : 0 < 4 ^ (6 - n) := Nat.pow_pos (by decide)
  rw [e, ← Nat.mul_assoc 4, Nat.mul_div_mul_right _ _ hpos, Nat.mul_div_mul_right _ _ hpos, Nat.sub_mul, Nat.add_mul]
  congr 1
  · congr 1
    rw [← Nat.mul_assoc 3, Nat.mul_assoc (3 * 4 ^ (n - 2 - p)), Nat.mul_assoc (3 * 4 ^ (n - 2 - p)), Nat.mul_comm (4 ^ (6 - n))]
  · rw [← Nat.mul_assoc 3, Nat.mul_assoc (3 * 4 ^ (n - 2 - p)), Nat.mul_assoc (3 * 4 ^ (n - 2 - p)), Nat.mul_comm (4 ^ (6 - n))]
theorem kb_emb_lt {n s : Nat} (hn : n ≤ 6) (hs : s < 4 ^ n) : s * 4 ^ (6 - n) < 4096 := by
  have e : 4 ^ n * 4 ^ (6 - n) = 4096 := by rw [← Nat.pow_add, show n + (6 - n) = 6 by omega]
  rw [← e]
  exact (Nat.mul_lt_mul_right (Nat.pow_pos (by decide))).mpr hs
theorem kb_emb_inj {n s t : Nat} (h : s * 4 ^ (6 - n) = t * 4 ^ (6 - n)) : s = t := Nat.eq_of_mul_eq_mul_right (Nat.pow_pos (by decide)) h
theorem kb_ss_lt {n s p : Nat} (hn : n ≤ 6) (hs : s < 4 ^ n) (hp : p + 1 < n) : kb_ss n s p < 4 ^ n := by
  have h := kb_ss6_lt (kb_emb_lt hn hs) (show p < 5 by omega)
  rw [kb_ss_emb hn hp] at h
  have e : 4 ^ n * 4 ^ (6 - n) = 4096 := by rw [← Nat.pow_add, show n + (6 - n) = 6 by omega]
  rw [← e] at h
  exact (Nat.mul_lt_mul_right (Nat.pow_pos (by decide))).mp h
theorem kb_dg_ss {n s p j : Nat} (hn : n ≤ 6) (hs : s < 4 ^ n) (hp : p + 1 < n) (hj : j < n) : kb_dg n (kb_ss n s p) j = if j = p then kb_dg n s (p + 1) else if j = p + 1 then kb_dg n s p else kb_dg n s j := by
  have h := kb_dg6_ss (kb_emb_lt hn hs) (show p < 5 by omega) (show j < 6 by omega)
  rw [kb_ss_emb hn hp, kb_dg_emb hn hj, kb_dg_emb hn hp, kb_dg_emb hn (show p < n by omega), kb_dg_emb hn hj] at h
  exact h
theorem kb_dg_lt (n s p : Nat) : kb_dg n s p < 4 := Nat.mod_lt _ (by decide)
theorem kb_dg_ext {n s t : Nat} (hn : n ≤ 6) (hs : s < 4 ^ n) (ht : t < 4 ^ n) (h : ∀ j, j < n → kb_dg n s j = kb_dg n t j) : s = t := by
  refine kb_emb_inj (n := n) (kb_dg6_ext (kb_emb_lt hn hs) (kb_emb_lt hn ht) (fun j hj => ?_))
  rcases Nat.lt_or_ge j n with q | q
  · rw [kb_dg_emb hn q, kb_dg_emb hn q]
    exact h j q
  · unfold kb_dg
    have e : 4 ^ (6 - n) = 4 ^ (6 - 1 - j) * (4 * 4 ^ (j - n)) := by
      rw [← Nat.pow_succ', ← Nat.pow_add]; congr 1; omega
    have hp : 0 < 4 ^ (6 - 1 - j) := Nat.pow_pos (by decide)
    have z : ∀ x : Nat, x * 4 ^ (6 - n) / 4 ^ (6 - 1 - j) % 4 = 0 := by
      intro x
      rw [e, ← Nat.mul_assoc, Nat.mul_comm x, Nat.mul_assoc, Nat.mul_div_cancel_left _ hp, ← Nat.mul_assoc, Nat.mul_comm x 4, Nat.mul_assoc]
      exact Nat.mul_mod_right 4 _
    rw [z, z]
theorem kb_ss_ss {n s p : Nat} (hn : n ≤ 6) (hs : s < 4 ^ n) (hp : p + 1 < n) : kb_ss n (kb_ss n s p) p = s := by
  have h1 := kb_ss_lt hn hs hp
  refine kb_dg_ext hn (kb_ss_lt hn h1 hp) hs (fun j hj => ?_)
  rw [kb_dg_ss hn h1 hp hj, kb_dg_ss hn hs hp hp, kb_dg_ss hn hs hp (show p < n by omega), kb_dg_ss hn hs hp hj]
  by_cases e1 : j = p
  · subst e1
    simp
  · by_cases e2 : j = p + 1
    · subst e2
      simp
    · simp [e1, e2]
theorem nv_shr {s j : Nat} (hs : s < 2 ^ 31) (hj : j < 16) : nI s >>> (nI (2 * j) &&& 31) = nI (s / 4 ^ j) := by
  have e : ((nI (2 * j) &&& 31).toBitVec.smod 32).toNat = 2 * j := by
    have : ∀ j, j < 16 → ((nI (2 * j) &&& 31).toBitVec.smod 32).toNat = 2 * j := by decide +kernel
    exact this j hj
  rw [pk_shrN hs _ _ e, Nat.pow_mul]
theorem nv_and3 {s : Nat} (hs : s < 2 ^ 32) : nI s &&& nI 3 = nI (s % 4) := pk_andN hs 2 (by decide)
theorem kb_4n {n : Nat} (hn : n ≤ 6) : 4 ^ n ≤ 4096 := by
  have := Nat.pow_le_pow_right (show 1 ≤ 4 by decide) hn
  exact this
theorem nv_digit {n s p : Nat} (hn : n ≤ 6) (hs : s < 4 ^ n) (hp : p < n) : kb_digit (nI n) (nI s) (nI p) = nI (kb_dg n s p) := by
  have h4 := kb_4n hn
  unfold kb_digit
  rw [pk_sub (show 1 ≤ n by omega), pk_sub (show p ≤ n - 1 by omega), pk_mul, nv_shr (by omega) (by omega), nv_and3 (by
    have := Nat.div_le_self s (4 ^ (n - 1 - p))
    omega)]
  rfl
theorem nv_colourIn {s p : Nat} (hs : s < 4096) (hp : p < 6) : kb_colourIn (nI s) (nI p) = nI (kb_dg 6 s p) := by
  unfold kb_colourIn kb_bitOf
  rw [pk_sub (show p ≤ 5 by omega), pk_mul, nv_shr (by omega) (by omega), nv_and3 (by
    have := Nat.div_le_self s (4 ^ (5 - p))
    omega)]
  rfl

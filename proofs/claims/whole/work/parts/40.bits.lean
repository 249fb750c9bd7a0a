/-! ===== longs as sets of bits (the family wb_ is kit/laws/BITS.to-paste's) ===== -/
theorem wb_tb (n : Nat) : (lN n).toBitVec = BitVec.ofNat 64 n := rfl
theorem wb_inj {a b : Int64} (h : a.toBitVec = b.toBitVec) : a = b := Int64.toBitVec_inj.mp h
theorem wb_tn {n : Nat} (h : n < 2 ^ 64) : (lN n).toBitVec.toNat = n := by rw [wb_tb, BitVec.toNat_ofNat, Nat.mod_eq_of_lt h]
theorem wb_of (x : Int64) : ∃ n, n < 2 ^ 64 ∧ x = lN n := ⟨x.toBitVec.toNat, x.toBitVec.isLt, wb_inj (by rw [wb_tb]; simp)⟩
theorem wb_of32 (x : Int32) : ∃ n, n < 2 ^ 32 ∧ x = nI n := ⟨x.toBitVec.toNat, x.toBitVec.isLt, Int32.toBitVec_inj.mp (by show _ = BitVec.ofNat 32 _; simp)⟩
theorem wb_c : ∀ k, k < 64 → ((nI k).toInt64 &&& 63) = lN k := by decide +kernel
theorem wb_cu : ∀ k, k < 64 → ((nI k).toInt64.toUInt64 &&& Int64.toUInt64 63) = UInt64.ofNat k := by decide +kernel
theorem wb_sm : ∀ k, k < 64 → (BitVec.ofNat 64 k).smod 64 = BitVec.ofNat 64 k := by decide +kernel
theorem wb_pw {a b : Nat} (h : a ≤ b) : 2 ^ b = 2 ^ a * 2 ^ (b - a) := by rw [← Nat.pow_add]; congr 1; omega
theorem wb_lt2 {a b : Nat} (h : a < b) : 2 ^ a < 2 ^ b := Nat.pow_lt_pow_right (by decide) h
theorem wb_mod (n : Nat) : lN n = lN (n % 2 ^ 64) := wb_inj (by rw [wb_tb, wb_tb]; apply BitVec.eq_of_toNat_eq; rw [BitVec.toNat_ofNat, BitVec.toNat_ofNat, Nat.mod_mod])
theorem wb_shr {n k : Nat} (hn : n < 2 ^ 64) (hk : k < 64) : ((lN n).toUInt64 >>> ((nI k).toInt64.toUInt64 &&& Int64.toUInt64 63)).toInt64 = lN (n / 2 ^ k) := by
  rw [wb_cu k hk]
  apply wb_inj
  apply BitVec.eq_of_toNat_eq
  show ((lN n).toUInt64 >>> UInt64.ofNat k).toNat = (BitVec.ofNat 64 _).toNat
  have h1 : (UInt64.ofNat k).toNat = k := by
    show (BitVec.ofNat 64 k).toNat = k
    rw [BitVec.toNat_ofNat, Nat.mod_eq_of_lt (by omega)]
  have h2 : (lN n).toUInt64.toNat = n := wb_tn hn
  rw [UInt64.toNat_shiftRight, h1, h2, Nat.mod_eq_of_lt hk, Nat.shiftRight_eq_div_pow, BitVec.toNat_ofNat, Nat.mod_eq_of_lt (Nat.lt_of_le_of_lt (Nat.div_le_self _ _) hn)]
theorem wb_shl (n : Nat) {k : Nat} (hk : k < 64) : lN n <<< ((nI k).toInt64 &&& 63) = lN (n * 2 ^ k) := by
  rw [wb_c k hk]
  apply wb_inj
  rw [Int64.toBitVec_shiftLeft, wb_tb, wb_tb, wb_tb, wb_sm k hk]
  apply BitVec.eq_of_toNat_eq
  rw [BitVec.shiftLeft_eq', BitVec.toNat_shiftLeft, BitVec.toNat_ofNat, BitVec.toNat_ofNat, BitVec.toNat_ofNat, Nat.mod_eq_of_lt (show k < 2 ^ 64 by omega), Nat.shiftLeft_eq, Nat.mul_mod, Nat.mod_mod, ← Nat.mul_mod]
theorem wb_and {a b : Nat} (ha : a < 2 ^ 64) (hb : b < 2 ^ 64) : lN a &&& lN b = lN (a &&& b) := by
  apply wb_inj
  rw [Int64.toBitVec_and, wb_tb, wb_tb, wb_tb]
  apply BitVec.eq_of_toNat_eq
  rw [BitVec.toNat_and, BitVec.toNat_ofNat, BitVec.toNat_ofNat, BitVec.toNat_ofNat, Nat.mod_eq_of_lt ha, Nat.mod_eq_of_lt hb, Nat.mod_eq_of_lt (Nat.and_lt_two_pow _ hb)]
theorem wb_or {a b : Nat} (ha : a < 2 ^ 64) (hb : b < 2 ^ 64) : lN a ||| lN b = lN (a ||| b) := by
  apply wb_inj
  rw [Int64.toBitVec_or, wb_tb, wb_tb, wb_tb]
  apply BitVec.eq_of_toNat_eq
  rw [BitVec.toNat_or, BitVec.toNat_ofNat, BitVec.toNat_ofNat, BitVec.toNat_ofNat, Nat.mod_eq_of_lt ha, Nat.mod_eq_of_lt hb, Nat.mod_eq_of_lt (Nat.or_lt_two_pow ha hb)]
theorem wb_mask {n k : Nat} (hn : n < 2 ^ 64) (hk : k < 64) : lN n &&& lN (2 ^ k - 1) = lN (n % 2 ^ k) := by
  rw [wb_and hn (by have := wb_lt2 hk; omega), Nat.and_two_pow_sub_one_eq_mod]
theorem wb_a1 {n : Nat} (hn : n < 2 ^ 64) : lN n &&& 1 = lN (n % 2) := wb_mask (k := 1) hn (by decide)
theorem wb_bit {n k : Nat} (hn : n < 2 ^ 64) (hk : k < 64) : ((lN n).toUInt64 >>> ((nI k).toInt64.toUInt64 &&& Int64.toUInt64 63)).toInt64 &&& 1 = lN (n / 2 ^ k % 2) := by
  rw [wb_shr hn hk, wb_a1 (Nat.lt_of_le_of_lt (Nat.div_le_self _ _) hn)]
theorem wb_ofNat {n : Nat} (h : n < 2 ^ 64) {i : Nat} : (BitVec.ofNat 64 n).toNat.testBit i = n.testBit i := by rw [BitVec.toNat_ofNat, Nat.mod_eq_of_lt h]
def kb_bit (x : Int64) (i : Nat) : Bool := x.toBitVec.getLsbD i
theorem kb_bit_and (x y : Int64) (i : Nat) : kb_bit (x &&& y) i = (kb_bit x i && kb_bit y i) := by
  unfold kb_bit; rw [Int64.toBitVec_and, BitVec.getLsbD_and]
theorem kb_bit_or (x y : Int64) (i : Nat) : kb_bit (x ||| y) i = (kb_bit x i || kb_bit y i) := by
  unfold kb_bit; rw [Int64.toBitVec_or, BitVec.getLsbD_or]
theorem kb_bit_lN {n : Nat} (hn : n < 2 ^ 64) (i : Nat) : kb_bit (lN n) i = n.testBit i := by
  unfold kb_bit
  rw [wb_tb]
  show (BitVec.ofNat 64 n).toNat.testBit i = n.testBit i
  exact wb_ofNat hn
theorem kb_bit_shl (x : Int64) {k i : Nat} (hk : k < 64) (hi : i < 64) : kb_bit (x <<< ((nI k).toInt64 &&& 63)) i = (decide (k ≤ i) && kb_bit x (i - k)) := by
  obtain ⟨n, hn, rfl⟩ := wb_of x
  rw [wb_shl n hk, wb_mod, kb_bit_lN (Nat.mod_lt _ (by decide)), kb_bit_lN hn, Nat.testBit_mod_two_pow, ← Nat.shiftLeft_eq, Nat.testBit_shiftLeft]
  simp [hi]
theorem kb_bit_shr (x : Int64) {k : Nat} (i : Nat) (hk : k < 64) : kb_bit ((x.toUInt64 >>> ((nI k).toInt64.toUInt64 &&& Int64.toUInt64 63)).toInt64) i = kb_bit x (k + i) := by
  obtain ⟨n, hn, rfl⟩ := wb_of x
  rw [wb_shr hn hk, kb_bit_lN (Nat.lt_of_le_of_lt (Nat.div_le_self _ _) hn), kb_bit_lN hn, Nat.testBit_div_two_pow, Nat.add_comm]
theorem kb_bit_m1 : ∀ i, i < 64 → kb_bit (-1) i = true := by decide +kernel
theorem kb_bit_0 (i : Nat) : kb_bit 0 i = false := by
  rw [show (0 : Int64) = lN 0 from rfl, kb_bit_lN (by decide)]
  exact Nat.zero_testBit i
theorem kb_bit_ext {x y : Int64} (h : ∀ i, i < 64 → kb_bit x i = kb_bit y i) : x = y := wb_inj (BitVec.eq_of_getLsbD_eq (fun i hi => h i hi))
/-- is the row of colours s in the set -/
def kb_has (f : Nat → Int64) (s : Nat) : Bool := kb_bit (f (s / 64)) (s % 64)
/-- bit masks of 'having' -/
def kb_hav (w p c : Nat) : Int64 := if p = 3 then 65535 <<< ((nI (16 * c)).toInt64 &&& 63) else if p = 4 then 4222189076152335 <<< ((nI (4 * c)).toInt64 &&& 63) else if p = 5 then 1229782938247303441 <<< ((nI c).toInt64 &&& 63) else if w / 4 ^ (2 - p) % 4 = c then -1 else 0
theorem kb_hv3 : ∀ c, c < 4 → ∀ i, i < 64 → kb_bit (65535 <<< ((nI (16 * c)).toInt64 &&& 63)) i = decide (i / 16 % 4 = c) := by decide +kernel
theorem kb_hv4 : ∀ c, c < 4 → ∀ i, i < 64 → kb_bit (4222189076152335 <<< ((nI (4 * c)).toInt64 &&& 63)) i = decide (i / 4 % 4 = c) := by decide +kernel
theorem kb_hv5 : ∀ c, c < 4 → ∀ i, i < 64 → kb_bit (1229782938247303441 <<< ((nI c).toInt64 &&& 63)) i = decide (i / 1 % 4 = c) := by decide +kernel
theorem kb_hav_bit {w p c i : Nat} (hp : p < 6) (hc : c < 4) (hi : i < 64) : kb_bit (kb_hav w p c) i = decide (kb_dg 6 (64 * w + i) p = c) := by
  unfold kb_hav
  rcases (show p = 0 ∨ p = 1 ∨ p = 2 ∨ p = 3 ∨ p = 4 ∨ p = 5 by omega) with rfl | rfl | rfl | rfl | rfl | rfl
  · rw [if_neg (by decide), if_neg (by decide), if_neg (by decide)]
    have e : kb_dg 6 (64 * w + i) 0 = w / 16 % 4 := by show (64 * w + i) / 1024 % 4 = _; omega
    rw [e, show w / 4 ^ (2 - 0) = w / 16 from rfl]
    split
    · rw [kb_bit_m1 i hi]; simp [*]
    · rw [kb_bit_0]; simp [*]
  · rw [if_neg (by decide), if_neg (by decide), if_neg (by decide)]
    have e : kb_dg 6 (64 * w + i) 1 = w / 4 % 4 := by show (64 * w + i) / 256 % 4 = _; omega
    rw [e, show w / 4 ^ (2 - 1) = w / 4 from rfl]
    split
    · rw [kb_bit_m1 i hi]; simp [*]
    · rw [kb_bit_0]; simp [*]
  · rw [if_neg (by decide), if_neg (by decide), if_neg (by decide)]
    have e : kb_dg 6 (64 * w + i) 2 = w % 4 := by show (64 * w + i) / 64 % 4 = _; omega
    rw [e, show w / 4 ^ (2 - 2) = w from Nat.div_one w]
    split
    · rw [kb_bit_m1 i hi]; simp [*]
    · rw [kb_bit_0]; simp [*]
  · rw [if_pos rfl, kb_hv3 c hc i hi]
    have e : kb_dg 6 (64 * w + i) 3 = i / 16 % 4 := by show (64 * w + i) / 16 % 4 = _; omega
    rw [e]
  · rw [if_neg (by decide), if_pos rfl, kb_hv4 c hc i hi]
    have e : kb_dg 6 (64 * w + i) 4 = i / 4 % 4 := by show (64 * w + i) / 4 % 4 = _; omega
    rw [e]
  · rw [if_neg (by decide), if_neg (by decide), if_pos rfl, kb_hv5 c hc i hi]
    have e : kb_dg 6 (64 * w + i) 5 = i / 1 % 4 := by show (64 * w + i) / 1 % 4 = _; omega
    rw [e]
theorem kb_split (s : Nat) : 64 * (s / 64) + s % 64 = s := by omega
/-- where an exchange at places 0, 1 or 1, 2 takes a row: to another word -/
def kb_chkB (s : Nat) : Bool := (List.range 2).all fun p => kb_ss 6 s p == 64 * kb_ss 3 (s / 64) p + s % 64
theorem kb_chkB_ok : (List.range 4096).all kb_chkB = true := by decide +kernel
def kb_chkA (s : Nat) : Bool := kb_ss 6 s 2 == 64 * (s / 64 - s / 64 % 4 + s % 64 / 16) + (16 * (s / 64 % 4) + s % 64 % 16)
theorem kb_chkA_ok : (List.range 4096).all kb_chkA = true := by decide +kernel
def kb_chkI (s : Nat) : Bool := kb_ss 6 s 3 == 64 * (s / 64) + kb_ss 6 (s % 64) 3 && kb_ss 6 s 4 == 64 * (s / 64) + kb_ss 6 (s % 64) 4
theorem kb_chkI_ok : (List.range 4096).all kb_chkI = true := by decide +kernel
theorem kb_ssB {s p : Nat} (hs : s < 4096) (hp : p < 2) : kb_ss 6 s p = 64 * kb_ss 3 (s / 64) p + s % 64 := by
  have h := List.all_eq_true.mp kb_chkB_ok s (List.mem_range.mpr hs)
  exact eq_of_beq (List.all_eq_true.mp h p (List.mem_range.mpr hp))
theorem kb_ssA {s : Nat} (hs : s < 4096) : kb_ss 6 s 2 = 64 * (s / 64 - s / 64 % 4 + s % 64 / 16) + (16 * (s / 64 % 4) + s % 64 % 16) := eq_of_beq (List.all_eq_true.mp kb_chkA_ok s (List.mem_range.mpr hs))
theorem kb_ssI {s : Nat} (hs : s < 4096) : kb_ss 6 s 3 = 64 * (s / 64) + kb_ss 6 (s % 64) 3 ∧ kb_ss 6 s 4 = 64 * (s / 64) + kb_ss 6 (s % 64) 4 := by
  have h := List.all_eq_true.mp kb_chkI_ok s (List.mem_range.mpr hs)
  simp only [kb_chkI, Bool.and_eq_true] at h
  exact ⟨eq_of_beq h.1, eq_of_beq h.2⟩
/-- which bits of a word an exchange inside it may bring to bit i -/
def kb_cand (P : Nat → Int64) (ap d i : Nat) : List Nat := (if ap * (d + 1) ≤ i ∧ kb_bit (P d) (i - ap * (d + 1)) = true then [i - ap * (d + 1)] else []) ++ (if kb_bit (P d) i = true then [i + ap * (d + 1)] else [])
theorem kb_cand3 : ∀ i, i < 64 → kb_cand kb_P3 12 0 i ++ kb_cand kb_P3 12 1 i ++ kb_cand kb_P3 12 2 i = if kb_ss 6 i 3 = i then [] else [kb_ss 6 i 3] := by decide +kernel
theorem kb_cand4 : ∀ i, i < 64 → kb_cand kb_P4 3 0 i ++ kb_cand kb_P4 3 1 i ++ kb_cand kb_P4 3 2 i = if kb_ss 6 i 4 = i then [] else [kb_ss 6 i 4] := by decide +kernel

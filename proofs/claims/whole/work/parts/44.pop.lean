/-! ===== Long.bitCount counts the bits: bytewise ===== -/
def kb_pc (f : Nat → Bool) : Nat → Nat
  | 0 => 0
  | k + 1 => kb_pc f k + (if f k then 1 else 0)
theorem kb_pc_split (f : Nat → Bool) (m : Nat) : ∀ k, kb_pc f (m + k) = kb_pc f m + kb_pc (fun i => f (m + i)) k
  | 0 => rfl
  | k + 1 => by
    show kb_pc f (m + k) + _ = kb_pc f m + (kb_pc (fun i => f (m + i)) k + _)
    rw [kb_pc_split f m k, Nat.add_assoc]
    rfl
theorem kb_pc_congr {f g : Nat → Bool} : ∀ {k : Nat}, (∀ i, i < k → f i = g i) → kb_pc f k = kb_pc g k
  | 0, _ => rfl
  | k + 1, h => by
    show kb_pc f k + _ = kb_pc g k + _
    rw [kb_pc_congr (fun i hi => h i (by omega)), h k (by omega)]
def kb_mk (c : Nat) : Nat → Nat
  | 0 => 0
  | k + 1 => 2 ^ 8 * kb_mk c k + c
theorem kb_land {a b c d : Nat} (hb : b < 2 ^ 8) (hd : d < 2 ^ 8) : (2 ^ 8 * a + b) &&& (2 ^ 8 * c + d) = 2 ^ 8 * (a &&& c) + (b &&& d) := by
  have hbd : b &&& d < 2 ^ 8 := Nat.and_lt_two_pow _ hd
  apply Nat.eq_of_testBit_eq
  intro i
  rw [Nat.testBit_and, Nat.testBit_two_pow_mul_add _ hb, Nat.testBit_two_pow_mul_add _ hd, Nat.testBit_two_pow_mul_add _ hbd]
  split
  · rw [Nat.testBit_and]
  · rw [Nat.testBit_and]
def kb_s1 (k n : Nat) : Nat := n - ((n / 2) &&& kb_mk 0x55 k)
def kb_s2 (k n : Nat) : Nat := (n &&& kb_mk 0x33 k) + ((n / 4) &&& kb_mk 0x33 k)
def kb_s3 (k n : Nat) : Nat := (n + n / 16) &&& kb_mk 0x0f k
def kb_b1 (n : Nat) : Nat := n - ((n / 2) &&& 0x55)
def kb_b2 (n : Nat) : Nat := (n &&& 0x33) + ((n / 4) &&& 0x33)
def kb_b3 (n : Nat) : Nat := (n + n / 16) &&& 0x0f
theorem kb_t1 : ∀ a, a < 2 → ∀ b, b < 256 → (a * 128 + b / 2) &&& 0x55 = (b / 2) &&& 0x55 := by decide +kernel
theorem kb_t2 : ∀ a, a < 4 → ∀ b, b < 256 → (a * 64 + b / 4) &&& 0x33 = (b / 4) &&& 0x33 := by decide +kernel
theorem kb_t3 : ∀ a, a < 5 → ∀ b, b < 69 → (b + (a * 16 + b / 16)) &&& 0x0f = (b + b / 16) &&& 0x0f := by decide +kernel
theorem kb_tb : ∀ b, b < 256 → kb_b1 b < 256 ∧ kb_b2 (kb_b1 b) < 69 ∧ kb_b2 (kb_b1 b) % 16 < 5 ∧ kb_b3 (kb_b2 (kb_b1 b)) = kb_pc (fun i => b.testBit i) 8 ∧ kb_b3 (kb_b2 (kb_b1 b)) ≤ 8 ∧ (b / 2) &&& 0x55 ≤ b := by decide +kernel
theorem kb_s1_byte {k A B : Nat} (hB : B < 256) : kb_s1 (k + 1) (2 ^ 8 * A + B) = 2 ^ 8 * kb_s1 k A + kb_b1 B := by
  unfold kb_s1 kb_b1
  have em : kb_mk 0x55 (k + 1) = 2 ^ 8 * kb_mk 0x55 k + 0x55 := rfl
  have e : (2 ^ 8 * A + B) / 2 = 2 ^ 8 * (A / 2) + (A % 2 * 128 + B / 2) := by omega
  rw [em, e, kb_land (by omega) (by decide), kb_t1 _ (Nat.mod_lt _ (by decide)) _ hB]
  have h1 : A / 2 &&& kb_mk 85 k ≤ A / 2 := Nat.and_le_left
  have h2 := (kb_tb B hB).2.2.2.2.2
  omega
theorem kb_s2_byte {k A B : Nat} (hB : B < 256) : kb_s2 (k + 1) (2 ^ 8 * A + B) = 2 ^ 8 * kb_s2 k A + kb_b2 B := by
  unfold kb_s2 kb_b2
  have em : kb_mk 0x33 (k + 1) = 2 ^ 8 * kb_mk 0x33 k + 0x33 := rfl
  have e : (2 ^ 8 * A + B) / 4 = 2 ^ 8 * (A / 4) + (A % 4 * 64 + B / 4) := by omega
  rw [em, e, kb_land (by omega) (by decide), kb_land (by omega) (by decide), kb_t2 _ (Nat.mod_lt _ (by decide)) _ hB]
  omega
theorem kb_s3_byte {k A B : Nat} (hA : A % 16 < 5) (hB : B < 69) : kb_s3 (k + 1) (2 ^ 8 * A + B) = 2 ^ 8 * kb_s3 k A + kb_b3 B := by
  unfold kb_s3 kb_b3
  have em : kb_mk 0x0f (k + 1) = 2 ^ 8 * kb_mk 0x0f k + 0x0f := rfl
  have e : 2 ^ 8 * A + B + (2 ^ 8 * A + B) / 16 = 2 ^ 8 * (A + A / 16) + (B + (A % 16 * 16 + B / 16)) := by omega
  rw [em, e, kb_land (by omega) (by decide), kb_t3 _ hA _ hB]
/-- the first three steps on a number of k bytes: each byte is the count of its bits -/
theorem kb_s123 : ∀ (k n : Nat), n < 256 ^ k → (kb_s2 k (kb_s1 k n)) % 16 < 5 ∧ ∀ m, m + 1 = k → kb_s3 k (kb_s2 k (kb_s1 k n)) = 2 ^ 8 * kb_s3 m (kb_s2 m (kb_s1 m (n / 256))) + kb_pc (fun i => n.testBit i) 8 ∧ kb_pc (fun i => n.testBit i) 8 ≤ 8 := by
  intro k
  induction k with
  | zero =>
    intro n hn
    have e : n = 0 := by simpa using hn
    subst e
    exact ⟨by decide, fun m hm => absurd hm (by omega)⟩
  | succ k ih =>
    intro n hn
    have hB : n % 256 < 256 := Nat.mod_lt _ (by decide)
    have en : n = 2 ^ 8 * (n / 256) + n % 256 := by omega
    have hA : n / 256 < 256 ^ k := by
      rw [Nat.pow_succ] at hn
      exact Nat.div_lt_of_lt_mul (by rw [Nat.mul_comm]; exact hn)
    have hb := kb_tb _ hB
    have e1 : kb_s2 (k + 1) (kb_s1 (k + 1) n) = 2 ^ 8 * kb_s2 k (kb_s1 k (n / 256)) + kb_b2 (kb_b1 (n % 256)) := by
      conv => lhs; rw [en]
      rw [kb_s1_byte hB, kb_s2_byte hb.1]
    have hpc : kb_pc (fun i => n.testBit i) 8 = kb_pc (fun i => (n % 256).testBit i) 8 := kb_pc_congr (fun i hi => by
      show n.testBit i = (n % 2 ^ 8).testBit i
      rw [Nat.testBit_mod_two_pow]
      simp [hi])
    refine ⟨by rw [e1]; have := hb.2.2.1; omega, fun m hm => ?_⟩
    have e2 : m = k := by omega
    subst e2
    rw [e1, kb_s3_byte (ih _ hA).1 hb.2.1, hpc]
    exact ⟨by rw [hb.2.2.2.1], by rw [← hb.2.2.2.1]; exact hb.2.2.2.2.1⟩
/-- eight bytes -/
theorem kb_pop {n : Nat} (hn : n < 2 ^ 64) : ∃ p0 p1 p2 p3 p4 p5 p6 p7 : Nat, p0 ≤ 8 ∧ p1 ≤ 8 ∧ p2 ≤ 8 ∧ p3 ≤ 8 ∧ p4 ≤ 8 ∧ p5 ≤ 8 ∧ p6 ≤ 8 ∧ p7 ≤ 8 ∧ kb_s3 8 (kb_s2 8 (kb_s1 8 n)) = p0 + 256 * (p1 + 256 * (p2 + 256 * (p3 + 256 * (p4 + 256 * (p5 + 256 * (p6 + 256 * p7)))))) ∧ kb_pc (fun i => n.testBit i) 64 = p0 + p1 + p2 + p3 + p4 + p5 + p6 + p7 := by
  have step : ∀ (k n : Nat), n < 256 ^ (k + 1) → ∃ p, p ≤ 8 ∧ n / 256 < 256 ^ k ∧ kb_s3 (k + 1) (kb_s2 (k + 1) (kb_s1 (k + 1) n)) = p + 256 * kb_s3 k (kb_s2 k (kb_s1 k (n / 256))) ∧ kb_pc (fun i => n.testBit i) (8 + 8 * k) = p + kb_pc (fun i => (n / 256).testBit i) (8 * k) := by
    intro k n hn
    obtain ⟨h1, h2⟩ := (kb_s123 (k + 1) n hn).2 k rfl
    refine ⟨_, h2, ?_, ?_, ?_⟩
    · rw [Nat.pow_succ] at hn
      exact Nat.div_lt_of_lt_mul (by rw [Nat.mul_comm]; exact hn)
    · rw [h1]; omega
    · rw [kb_pc_split]
      congr 1
      refine kb_pc_congr (fun i _ => ?_)
      show n.testBit (8 + i) = (n / 2 ^ 8).testBit i
      rw [Nat.testBit_div_two_pow, Nat.add_comm]
  obtain ⟨p0, a0, b0, c0, d0⟩ := step 7 n hn
  obtain ⟨p1, a1, b1, c1, d1⟩ := step 6 _ b0
  obtain ⟨p2, a2, b2, c2, d2⟩ := step 5 _ b1
  obtain ⟨p3, a3, b3, c3, d3⟩ := step 4 _ b2
  obtain ⟨p4, a4, b4, c4, d4⟩ := step 3 _ b3
  obtain ⟨p5, a5, b5, c5, d5⟩ := step 2 _ b4
  obtain ⟨p6, a6, b6, c6, d6⟩ := step 1 _ b5
  obtain ⟨p7, a7, b7, c7, d7⟩ := step 0 _ b6
  refine ⟨p0, p1, p2, p3, p4, p5, p6, p7, a0, a1, a2, a3, a4, a5, a6, a7, ?_, ?_⟩
  · rw [c0, c1, c2, c3, c4, c5, c6, c7]
    have z : n / 256 / 256 / 256 / 256 / 256 / 256 / 256 / 256 = 0 := by omega
    rw [z]
    rfl
  · have e0 : kb_pc (fun i => n.testBit i) 64 = p0 + _ := d0
    rw [e0, d1, d2, d3, d4, d5, d6, d7]
    show _ + (_ + (_ + (_ + (_ + (_ + (_ + (_ + 0))))))) = _
    omega
theorem kb_dv8 {a q : Nat} (ha : a < 256) : (a + 256 * q) / 2 ^ 8 = q := by omega
theorem kb_dv16 {a b q : Nat} (ha : a < 256) (hb : b < 256) : (a + 256 * (b + 256 * q)) / 2 ^ 16 = q := by omega
theorem kb_dv32 {a b c d q : Nat} (ha : a < 256) (hb : b < 256) (hc : c < 256) (hd : d < 256) : (a + 256 * (b + 256 * (c + 256 * (d + 256 * q)))) / 2 ^ 32 = q := by omega
theorem kb_md {a b q r : Nat} (h : a + b < 128) : (a + 256 * q + (b + 256 * r)) % 128 = a + b := by omega
/-- eight places of base 256 -/
def kb_p8 (a0 a1 a2 a3 a4 a5 a6 a7 : Nat) : Nat := a0 + 256 * (a1 + 256 * (a2 + 256 * (a3 + 256 * (a4 + 256 * (a5 + 256 * (a6 + 256 * a7))))))
theorem kb_p8_add (a0 a1 a2 a3 a4 a5 a6 a7 b0 b1 b2 b3 b4 b5 b6 b7 : Nat) : kb_p8 a0 a1 a2 a3 a4 a5 a6 a7 + kb_p8 b0 b1 b2 b3 b4 b5 b6 b7 = kb_p8 (a0 + b0) (a1 + b1) (a2 + b2) (a3 + b3) (a4 + b4) (a5 + b5) (a6 + b6) (a7 + b7) := by
  unfold kb_p8
  simp only [Nat.mul_add]
  omega
theorem kb_p8_lt {a0 a1 a2 a3 a4 a5 a6 a7 B : Nat} (h0 : a0 ≤ 255) (h1 : a1 ≤ 255) (h2 : a2 ≤ 255) (h3 : a3 ≤ 255) (h4 : a4 ≤ 255) (h5 : a5 ≤ 255) (h6 : a6 ≤ 255) (h7 : a7 < B) : kb_p8 a0 a1 a2 a3 a4 a5 a6 a7 < 2 ^ 56 * B := by
  unfold kb_p8
  omega
theorem kb_pop_end {n : Nat} (hn : n < 2 ^ 64) : ∀ c, c = kb_s3 8 (kb_s2 8 (kb_s1 8 n)) → c < 2 ^ 60 ∧ (c + c / 2 ^ 8) < 2 ^ 61 ∧ (c + c / 2 ^ 8) + (c + c / 2 ^ 8) / 2 ^ 16 < 2 ^ 62 ∧ (((c + c / 2 ^ 8) + (c + c / 2 ^ 8) / 2 ^ 16) + ((c + c / 2 ^ 8) + (c + c / 2 ^ 8) / 2 ^ 16) / 2 ^ 32) % 128 = kb_pc (fun i => n.testBit i) 64 := by
  intro c hc
  obtain ⟨p0, p1, p2, p3, p4, p5, p6, p7, a0, a1, a2, a3, a4, a5, a6, a7, h1, h2⟩ := kb_pop hn
  rw [h1] at hc
  rw [h2]
  clear h1 h2 hn
  have e0 : c = kb_p8 p0 p1 p2 p3 p4 p5 p6 p7 := hc
  have e1 : c / 2 ^ 8 = kb_p8 p1 p2 p3 p4 p5 p6 p7 0 := by rw [hc, kb_dv8 (by omega)]; rfl
  have e2 : c + c / 2 ^ 8 = kb_p8 (p0 + p1) (p1 + p2) (p2 + p3) (p3 + p4) (p4 + p5) (p5 + p6) (p6 + p7) (p7 + 0) := by rw [e1, e0, kb_p8_add]
  have b0 : c < 2 ^ 60 := by
    rw [e0]
    exact Nat.lt_of_lt_of_le (kb_p8_lt (B := 9) (by omega) (by omega) (by omega) (by omega) (by omega) (by omega) (by omega) (by omega)) (by decide)
  rw [e2]
  have e3 : kb_p8 (p0 + p1) (p1 + p2) (p2 + p3) (p3 + p4) (p4 + p5) (p5 + p6) (p6 + p7) (p7 + 0) / 2 ^ 16 = kb_p8 (p2 + p3) (p3 + p4) (p4 + p5) (p5 + p6) (p6 + p7) (p7 + 0) 0 0 := by
    unfold kb_p8
    rw [kb_dv16 (by omega) (by omega)]
  rw [e3, kb_p8_add]
  refine ⟨b0, Nat.lt_of_lt_of_le (kb_p8_lt (B := 17) (by omega) (by omega) (by omega) (by omega) (by omega) (by omega) (by omega) (by omega)) (by decide), Nat.lt_of_lt_of_le (kb_p8_lt (B := 33) (by omega) (by omega) (by omega) (by omega) (by omega) (by omega) (by omega) (by omega)) (by decide), ?_⟩
  unfold kb_p8
  rw [kb_dv32 (by omega) (by omega) (by omega) (by omega), kb_md (by omega)]
  omega
/-- what the code computes -/
def kb_bc (x : Int64) : Nat := kb_pc (fun i => kb_bit x i) 64

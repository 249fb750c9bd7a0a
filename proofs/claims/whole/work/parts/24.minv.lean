/-! ===== the reference's state: what its cells hold at all times ===== -/
/-- x is a number from 0 to B -/
def kb_tn (x : Int32) : Nat := x.toNatClampNeg
def kb_le (x : Int32) (B : Nat) : Prop := x = nI (kb_tn x) ∧ kb_tn x ≤ B
theorem kb_le_nI {k B : Nat} (h : k ≤ B) (hB : B < 2 ^ 31) : kb_le (nI k) B := by
  unfold kb_le kb_tn
  rw [nI_clamp (by omega)]
  exact ⟨rfl, h⟩
theorem kb_tn_nI {k : Nat} (h : k < 2 ^ 31) : kb_tn (nI k) = k := nI_clamp h
theorem kb_le.mono {x : Int32} {A B : Nat} (h : kb_le x A) (hAB : A ≤ B) : kb_le x B := ⟨h.1, Nat.le_trans h.2 hAB⟩
def kb_MI (X : Nat → Nat → Int32) : Prop :=
  (kb_le (X 188 1) 8 ∧ kb_le (X 188 2) 8) ∧
  (∀ b, b < kb_tn (X 188 1) → kb_le (X 189 b) 6 ∧ 2 ≤ kb_tn (X 189 b) ∧ kb_le (X 190 b) 16) ∧
  (∀ q, q < 48 → kb_le (X 191 q) 3) ∧ (∀ q, q < 384 → kb_le (X 192 q) 3) ∧
  (∀ b, b < kb_tn (X 188 2) → kb_le (X 193 b) 6 ∧ 2 ≤ kb_tn (X 193 b) ∧ kb_le (X 194 b) 16 ∧ 1 ≤ kb_tn (X 194 b)) ∧
  (∀ q, q < 384 → kb_le (X 195 q) 4) ∧ (∀ q, q < 48 → kb_le (X 196 q) 4)
/-- the model's kinds of band b, threads, rows -/
def kb_mkd (X : Nat → Nat → Int32) (b r k : Nat) : Nat := kb_tn (X 192 (48 * b + 3 * r + k))
/-- what the reference's cells say is unchanged; its scratch (197 to 200) and its note of throws are not asked -/
def kb_MS (X X' : Nat → Nat → Int32) : Prop := (∀ n, n < 197 → n ≠ 188 → X' n = X n) ∧ X' 201 = X 201 ∧ ∀ k, k ≠ 0 → X' 188 k = X 188 k
theorem kb_MS.refl (X : Nat → Nat → Int32) : kb_MS X X := ⟨fun _ _ _ => rfl, rfl, fun _ _ => rfl⟩
theorem kb_MS.trans {X X1 X2 : Nat → Nat → Int32} (h1 : kb_MS X X1) (h2 : kb_MS X1 X2) : kb_MS X X2 := ⟨fun n a b => (h2.1 n a b).trans (h1.1 n a b), h2.2.1.trans h1.2.1, fun k hk => (h2.2.2 k hk).trans (h1.2.2 k hk)⟩
theorem kb_MS.thr (X : Nat → Nat → Int32) (k : Int32) : kb_MS X (kb_thr X k) := ⟨fun n _ h => kb_thr_ne h, kb_thr_ne (by decide), fun _ h => kb_thr_k h⟩
theorem kb_MI.of {X X' : Nat → Nat → Int32} (h : kb_MI X) (hs : kb_MS X X') : kb_MI X' := by
  unfold kb_MI at h ⊢
  rw [hs.2.2 1 (by decide), hs.2.2 2 (by decide), hs.1 189 (by decide) (by decide), hs.1 190 (by decide) (by decide), hs.1 191 (by decide) (by decide), hs.1 192 (by decide) (by decide), hs.1 193 (by decide) (by decide), hs.1 194 (by decide) (by decide), hs.1 195 (by decide) (by decide), hs.1 196 (by decide) (by decide)]
  exact h
theorem kb_perm_atM {kd : Nat → Nat → Nat} {n M : Nat} (hnM : n ≤ M) : ∀ r, kb_perm M (kb_at kd n r) := by
  have key : ∀ (r : Nat) (f : Nat → Nat), kb_perm M f → ∀ k, k ≤ kb_kn n r → kb_perm M (kb_rw kd r f k) := by
    intro r f hf k
    induction k with
    | zero => intro _; exact hf
    | succ k ih =>
      intro hk
      unfold kb_rw
      split
      · exact kb_perm_sw (ih (by omega)) (by have := kb_lf_lt (show k < kb_kn n r by omega); omega)
      · exact ih (by omega)
  intro r
  induction r with
  | zero => exact kb_perm_id M
  | succ r ih => exact key r _ ih _ (Nat.le_refl _)
theorem kb_perm_rwM {kd : Nat → Nat → Nat} {n M r : Nat} {f : Nat → Nat} (hnM : n ≤ M) (hf : kb_perm M f) : ∀ k, k ≤ kb_kn n r → kb_perm M (kb_rw kd r f k) := by
  intro k
  induction k with
  | zero => intro _; exact hf
  | succ k ih =>
    intro hk
    unfold kb_rw
    split
    · exact kb_perm_sw (ih (by omega)) (by have := kb_lf_lt (show k < kb_kn n r by omega); omega)
    · exact ih (by omega)
theorem kb_okB_nat {X : Nat → Nat → Int32} (h : kb_MI X) {b : Int32} (hb : kb_okB X b) : ∃ k, k < kb_tn (X 188 1) ∧ b = nI k ∧ k < 8 := by
  obtain ⟨j, hj, rfl⟩ := nI_of hb.1
  have h1 := h.1.1
  refine ⟨j, ?_, rfl, ?_⟩
  · rcases Nat.lt_or_ge j (kb_tn (X 188 1)) with q | q
    · exact q
    · exact absurd (by rw [h1.1]; exact nI_le q hj) hb.2
  · rcases Nat.lt_or_ge j (kb_tn (X 188 1)) with q | q
    · have := h1.2; omega
    · exact absurd (by rw [h1.1]; exact nI_le q hj) hb.2
theorem kb_okP_nat {X : Nat → Nat → Int32} (h : kb_MI X) {b : Int32} (hb : kb_okP X b) : ∃ k, k < kb_tn (X 188 2) ∧ b = nI k ∧ k < 8 := by
  obtain ⟨j, hj, rfl⟩ := nI_of hb.1
  have h1 := h.1.2
  refine ⟨j, ?_, rfl, ?_⟩
  · rcases Nat.lt_or_ge j (kb_tn (X 188 2)) with q | q
    · exact q
    · exact absurd (by rw [h1.1]; exact nI_le q hj) hb.2
  · rcases Nat.lt_or_ge j (kb_tn (X 188 2)) with q | q
    · have := h1.2; omega
    · exact absurd (by rw [h1.1]; exact nI_le q hj) hb.2

/-! ===== what a band is, in numbers: knots of a row, places, who stands where, who shows, what is used ===== -/
def kb_kn (n r : Nat) : Nat := (n - r % 2) / 2
def kb_lf (r k : Nat) : Nat := 2 * k + r % 2
def kb_sw (at0 : Nat → Nat) (p : Nat) : Nat → Nat := fun j => if j = p then at0 (p + 1) else if j = p + 1 then at0 p else at0 j
/-- who stands where when k knots of row r are tied -/
def kb_rw (kd : Nat → Nat → Nat) (r : Nat) (at0 : Nat → Nat) : Nat → (Nat → Nat)
  | 0 => at0
  | k + 1 => if kd r k < 2 then kb_sw (kb_rw kd r at0 k) (kb_lf r k) else kb_rw kd r at0 k
/-- who stands where ahead of row r -/
def kb_at (kd : Nat → Nat → Nat) (n : Nat) : Nat → (Nat → Nat)
  | 0 => fun j => j
  | r + 1 => kb_rw kd r (kb_at kd n r) (kb_kn n r)
def kb_sh (kd : Nat → Nat → Nat) (n r k : Nat) : Nat := kb_at kd n r (kb_lf r k + kd r k % 2)
def kb_hd (kd : Nat → Nat → Nat) (n r k : Nat) : Nat := kb_at kd n r (kb_lf r k + (1 - kd r k % 2))
def kb_us (kd : Nat → Nat → Nat) (n r k t : Nat) : Nat := if t = kb_sh kd n r k then 5 else if t = kb_hd kd n r k then 1 else 0
def kb_useR (kd : Nat → Nat → Nat) (n r t : Nat) : Nat → Nat
  | 0 => 0
  | k + 1 => kb_useR kd n r t k + kb_us kd n r k t
def kb_use (kd : Nat → Nat → Nat) (n t : Nat) : Nat → Nat
  | 0 => 0
  | r + 1 => kb_use kd n t r + kb_useR kd n r t (kb_kn n r)
/-- a way of standing: n different threads at n places -/
def kb_perm (n : Nat) (f : Nat → Nat) : Prop := (∀ j, j < n → f j < n) ∧ ∀ i j, i < n → j < n → f i = f j → i = j
theorem kb_perm_id (n : Nat) : kb_perm n (fun j => j) := ⟨fun _ h => h, fun _ _ _ _ h => h⟩
theorem kb_sw_eq (f : Nat → Nat) (p j : Nat) : kb_sw f p j = f (if j = p then p + 1 else if j = p + 1 then p else j) := by
  unfold kb_sw
  split
  · rfl
  · split <;> rfl
theorem kb_perm_sw {n : Nat} {f : Nat → Nat} (h : kb_perm n f) {p : Nat} (hp : p + 1 < n) : kb_perm n (kb_sw f p) := by
  refine ⟨fun j hj => ?_, fun i j hi hj e => ?_⟩
  · rw [kb_sw_eq]
    exact h.1 _ (by split <;> (try split) <;> omega)
  · rw [kb_sw_eq, kb_sw_eq] at e
    have := h.2 _ _ (by split <;> (try split) <;> omega) (by split <;> (try split) <;> omega) e
    split at this <;> split at this <;> (try split at this) <;> (try split at this) <;> omega
theorem kb_lf_lt {n r k : Nat} (h : k < kb_kn n r) : kb_lf r k + 1 < n := by
  unfold kb_kn at h; unfold kb_lf; omega
theorem kb_perm_rw {kd : Nat → Nat → Nat} {n r : Nat} {f : Nat → Nat} (h : kb_perm n f) : ∀ k, k ≤ kb_kn n r → kb_perm n (kb_rw kd r f k)
  | 0, _ => h
  | k + 1, hk => by
    unfold kb_rw
    split
    · exact kb_perm_sw (kb_perm_rw h k (by omega)) (kb_lf_lt (by omega))
    · exact kb_perm_rw h k (by omega)
theorem kb_perm_at {kd : Nat → Nat → Nat} {n : Nat} : ∀ r, kb_perm n (kb_at kd n r)
  | 0 => kb_perm_id n
  | r + 1 => kb_perm_rw (kb_perm_at r) _ (Nat.le_refl _)
/-- the knots tied so far in a row leave the places from the next one on as they are -/
theorem kb_rw_ge {kd : Nat → Nat → Nat} {r : Nat} {f : Nat → Nat} : ∀ k j, kb_lf r k ≤ j → kb_rw kd r f k j = f j
  | 0, _, _ => rfl
  | k + 1, j, hj => by
    have hlf : kb_lf r (k + 1) = kb_lf r k + 2 := by unfold kb_lf; omega
    unfold kb_rw
    split
    · unfold kb_sw
      rw [if_neg (by omega), if_neg (by omega)]
      exact kb_rw_ge k j (by omega)
    · exact kb_rw_ge k j (by omega)
theorem kb_sh_ne {kd : Nat → Nat → Nat} {n r k : Nat} (h : k < kb_kn n r) : kb_sh kd n r k ≠ kb_hd kd n r k := by
  intro e
  have hl := kb_lf_lt h
  have := (kb_perm_at (kd := kd) (n := n) r).2 _ _ (by omega) (by omega) e
  omega
theorem kb_sh_lt {kd : Nat → Nat → Nat} {n r k : Nat} (h : k < kb_kn n r) : kb_sh kd n r k < n := by
  have hl := kb_lf_lt h
  exact (kb_perm_at (kd := kd) (n := n) r).1 _ (by omega)
theorem kb_hd_lt {kd : Nat → Nat → Nat} {n r k : Nat} (h : k < kb_kn n r) : kb_hd kd n r k < n := by
  have hl := kb_lf_lt h
  exact (kb_perm_at (kd := kd) (n := n) r).1 _ (by omega)
theorem kb_kn_le {n r : Nat} (hn : n ≤ 6) : kb_kn n r ≤ 3 := by unfold kb_kn; omega
theorem kb_kn_odd {n r : Nat} (hn : n ≤ 6) (hr : r % 2 = 1) : kb_kn n r ≤ 2 := by unfold kb_kn; omega
/-! numbers as the code has them -/
theorem nv_knotsIn : ∀ n, n < 7 → ∀ r, r < 17 → 1 ≤ n → kb_knotsIn (nI n) (nI r) = nI (kb_kn n r) := by decide +kernel
theorem nv_leftPlaceOf : ∀ r, r < 17 → ∀ k, k < 4 → kb_leftPlaceOf (nI r) (nI k) = nI (kb_lf r k) := by decide +kernel
theorem nv_mknots : ∀ n, n < 7 → ∀ r, r < 17 → 1 ≤ n → kb_mknots (nI n) (nI r) = nI (kb_kn n r) := by decide +kernel
theorem nv_mleft : ∀ r, r < 17 → ∀ k, k < 4 → kb_mleft (nI r) (nI k) = nI (kb_lf r k) := by decide +kernel
theorem nv_spotOf (r k : Nat) : kb_spotOf (nI r) (nI k) = nI (3 * r + k) := by unfold kb_spotOf; rw [pk_mul, nI_add]
theorem nv_showingPlace : ∀ a, a < 8 → ∀ b, b < 4 → kb_showingPlace (nI a) (nI b) = nI (a + b % 2) := by decide +kernel
theorem nv_kindIn (x : Int32) (k : Int32) : ∃ j, j < 4 ∧ kb_kindIn x k = nI j := pk_andE _ 2 (by decide)
/-- the kind of knot k out of a row's kinds -/
def kb_kd (f : Nat → Int32) (r k : Nat) : Nat := (kb_kindIn (f r) (nI k)).toNatClampNeg
theorem kb_kd_eq (f : Nat → Int32) (r k : Nat) : kb_kindIn (f r) (nI k) = nI (kb_kd f r k) ∧ kb_kd f r k < 4 := by
  obtain ⟨j, hj, e⟩ := nv_kindIn (f r) (nI k)
  unfold kb_kd
  rw [e, nI_clamp (by omega)]
  exact ⟨rfl, hj⟩

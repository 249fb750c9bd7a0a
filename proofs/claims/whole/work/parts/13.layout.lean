/-! ===== the layout of all cells, once both objects stand: X n k the int at place (or field) k of cell n, Y n k the long ===== -/
/-- lengths: of a band's arrays, a picture's, the model's -/
def kb_bl (j : Nat) : Nat := if j = 1 then 6 else if j = 2 then 16 else if j = 5 then 48 else 6
def kb_pl (j : Nat) : Nat := if j = 1 then 48 else if j = 2 then 6 else if j = 3 then 16 else 40
def kb_ml (n : Nat) : Nat := if n = 191 then 48 else if n = 192 then 384 else if n = 195 then 384 else if n = 196 then 48 else if n < 197 then 8 else 6
def kb_ent (E : kb_E) (X : Nat → Nat → Int32) (Y : Nat → Nat → Int64) (n : Nat) : va_E :=
  if n < 92 then
    if n = 0 then .inr (4, [.ref (E.2.2.2 1), .ref (E.2.2.2 2), .ref (E.2.2.2 3), .int (X n 3), .int (X n 4)])
    else if n = 1 then .inl (E.2.2.1 3, 8, .inr (.inr (.inr (.inr (fun i => some (E.2.2.2 (92 + 7 * i)))))))
    else if n = 2 then .inl (E.2.2.1 4, 8, .inr (.inr (.inr (.inr (fun i => some (E.2.2.2 (148 + 5 * i)))))))
    else if n = 3 then .inr (1, [.ref (E.2.2.2 4), .ref (E.2.2.2 5), .ref (E.2.2.2 6), .int (X n 3), .ref (E.2.2.2 7), .ref (E.2.2.2 8)])
    else if n < 7 then .inl (E.2.2.1 0, 40, .inl (X n))
    else if n = 7 then .inl (E.2.2.1 5, 41, .inr (.inr (.inr (.inr (fun i => some (E.2.2.2 (10 + 2 * i)))))))
    else if n % 2 = 0 then .inr (3, [.ref (E.2.2.2 (n + 1))])
    else .inl (E.2.2.1 1, 64, .inr (.inl (Y n)))
  else if n < 148 then
    if (n - 92) % 7 = 0 then .inr (0, [.ref (E.2.2.2 (n + 1)), .ref (E.2.2.2 (n + 2)), .int (X n 2), .int (X n 3), .ref (E.2.2.2 (n + 3)), .ref (E.2.2.2 (n + 4)), .ref (E.2.2.2 (n + 5)), .ref (E.2.2.2 (n + 6))])
    else .inl (E.2.2.1 0, kb_bl ((n - 92) % 7), .inl (X n))
  else if n < 188 then
    if (n - 148) % 5 = 0 then .inr (2, [.ref (E.2.2.2 (n + 1)), .ref (E.2.2.2 (n + 2)), .int (X n 2), .int (X n 3), .int (X n 4), .int (X n 5), .int (X n 6), .ref (E.2.2.2 (n + 3)), .ref (E.2.2.2 (n + 4)), .int (X n 9)])
    else .inl (E.2.2.1 0, kb_pl ((n - 148) % 5), .inl (X n))
  else if n = 188 then .inr (5, [.int (X n 0), .int (X n 1), .int (X n 2), .ref (E.2.2.2 189), .ref (E.2.2.2 190), .ref (E.2.2.2 191), .ref (E.2.2.2 192), .ref (E.2.2.2 193), .ref (E.2.2.2 194), .ref (E.2.2.2 195), .ref (E.2.2.2 196), .ref (E.2.2.2 197), .ref (E.2.2.2 198), .ref (E.2.2.2 199), .ref (E.2.2.2 200)])
  else if n = 200 then .inl (E.2.2.1 2, 69632, .inl (X n))
  else if n = 201 then .inl (E.2.2.1 1, 1, .inr (.inl (Y n)))
  else .inl (E.2.2.1 0, kb_ml n, .inl (X n))
def kb_IA (n len : Nat) : Prop := n < 202 ∧ ∀ E X Y, kb_ent E X Y n = .inl (E.2.2.1 0, len, .inl (X n))
def kb_LA (n len : Nat) : Prop := n < 202 ∧ ∀ E X Y, kb_ent E X Y n = .inl (E.2.2.1 1, len, .inr (.inl (Y n)))
theorem kb_ZA : ∀ E X Y, kb_ent E X Y 200 = .inl (E.2.2.1 2, 69632, .inl (X 200)) := fun _ _ _ => rfl
/-- a field that holds a cell -/
def kb_FR (n ci k mm : Nat) : Prop := n < 202 ∧ ∀ E X Y, ∃ fs, kb_ent E X Y n = .inr (ci, fs) ∧ fs[k]? = some (.ref (E.2.2.2 mm))
/-- a field that holds an int -/
def kb_FI (n ci k : Nat) : Prop := n < 202 ∧ ∀ E X Y, ∃ fs, kb_ent E X Y n = .inr (ci, fs) ∧ fs[k]? = some (.int (X n k)) ∧ ∀ v, kb_ent E (va_up X n (upd (X n) k v)) Y n = .inr (ci, fs.set k (.int v))
/-- an array of cells -/
def kb_RA (n t0 len : Nat) (f : Nat → Nat) : Prop := n < 202 ∧ ∀ E X Y, kb_ent E X Y n = .inl (E.2.2.1 t0, len, .inr (.inr (.inr (.inr (fun i => some (E.2.2.2 (f i)))))))
/-- an object of class ci -/
def kb_OB (n ci : Nat) : Prop := n < 202 ∧ ∀ E X Y, ∃ fs, kb_ent E X Y n = .inr (ci, fs)
theorem kb_FR.ob {n ci k mm : Nat} (h : kb_FR n ci k mm) : kb_OB n ci := ⟨h.1, fun E X Y => by obtain ⟨fs, h1, -⟩ := h.2 E X Y; exact ⟨fs, h1⟩⟩
theorem kb_ent_ne {E : kb_E} {X X' : Nat → Nat → Int32} {Y Y' : Nat → Nat → Int64} {n : Nat} (hX : X n = X' n) (hY : Y n = Y' n) : kb_ent E X Y n = kb_ent E X' Y' n := by
  simp only [kb_ent, hX, hY]
theorem kb_upX {E : kb_E} {X : Nat → Nat → Int32} {Y : Nat → Nat → Int64} {n : Nat} {f : Nat → Int32} {w : va_E} (h : kb_ent E (va_up X n f) Y n = w) : va_up (kb_ent E X Y) n w = kb_ent E (va_up X n f) Y := by
  funext m
  by_cases hm : m = n
  · subst hm
    rw [h]
    simp [va_up]
  · have h1 : va_up (kb_ent E X Y) n w m = kb_ent E X Y m := by simp [va_up, hm]
    rw [h1]
    exact kb_ent_ne (by simp [va_up, hm]) rfl
theorem kb_upY {E : kb_E} {X : Nat → Nat → Int32} {Y : Nat → Nat → Int64} {n : Nat} {f : Nat → Int64} {w : va_E} (h : kb_ent E X (va_up Y n f) n = w) : va_up (kb_ent E X Y) n w = kb_ent E X (va_up Y n f) := by
  funext m
  by_cases hm : m = n
  · subst hm
    rw [h]
    simp [va_up]
  · have h1 : va_up (kb_ent E X Y) n w m = kb_ent E X Y m := by simp [va_up, hm]
    rw [h1]
    exact kb_ent_ne rfl (by simp [va_up, hm])
theorem kb_up_self {α : Type} {f : Nat → α} {n : Nat} {v : α} : va_up f n v n = v := by simp [va_up]
theorem kb_up_ne {α : Type} {f : Nat → α} {n j : Nat} {v : α} (h : j ≠ n) : va_up f n v j = f j := by simp [va_up, h]
theorem ia_Bcol {i : Nat} (hi : i < 8) : kb_IA (92 + 7 * i + 1) 6 := ⟨by omega, fun E X Y => by
  have e : (92 + 7 * i + 1 - 92) % 7 = 1 := by omega
  rw [kb_ent, if_neg (by omega), if_pos (by omega), if_neg (by omega), e]; rfl⟩
theorem ia_Bkin {i : Nat} (hi : i < 8) : kb_IA (92 + 7 * i + 2) 16 := ⟨by omega, fun E X Y => by
  have e : (92 + 7 * i + 2 - 92) % 7 = 2 := by omega
  rw [kb_ent, if_neg (by omega), if_pos (by omega), if_neg (by omega), e]; rfl⟩
theorem ia_Bsta {i : Nat} (hi : i < 8) : kb_IA (92 + 7 * i + 3) 6 := ⟨by omega, fun E X Y => by
  have e : (92 + 7 * i + 3 - 92) % 7 = 3 := by omega
  rw [kb_ent, if_neg (by omega), if_pos (by omega), if_neg (by omega), e]; rfl⟩
theorem ia_Bspe {i : Nat} (hi : i < 8) : kb_IA (92 + 7 * i + 4) 6 := ⟨by omega, fun E X Y => by
  have e : (92 + 7 * i + 4 - 92) % 7 = 4 := by omega
  rw [kb_ent, if_neg (by omega), if_pos (by omega), if_neg (by omega), e]; rfl⟩
theorem ia_Bsho {i : Nat} (hi : i < 8) : kb_IA (92 + 7 * i + 5) 48 := ⟨by omega, fun E X Y => by
  have e : (92 + 7 * i + 5 - 92) % 7 = 5 := by omega
  rw [kb_ent, if_neg (by omega), if_pos (by omega), if_neg (by omega), e]; rfl⟩
theorem ia_Brep {i : Nat} (hi : i < 8) : kb_IA (92 + 7 * i + 6) 6 := ⟨by omega, fun E X Y => by
  have e : (92 + 7 * i + 6 - 92) % 7 = 6 := by omega
  rw [kb_ent, if_neg (by omega), if_pos (by omega), if_neg (by omega), e]; rfl⟩
theorem ia_Ptol {i : Nat} (hi : i < 8) : kb_IA (148 + 5 * i + 1) 48 := ⟨by omega, fun E X Y => by
  have e : (148 + 5 * i + 1 - 148) % 5 = 1 := by omega
  rw [kb_ent, if_neg (by omega), if_neg (by omega), if_pos (by omega), if_neg (by omega), e]; rfl⟩
theorem ia_Pfir {i : Nat} (hi : i < 8) : kb_IA (148 + 5 * i + 2) 6 := ⟨by omega, fun E X Y => by
  have e : (148 + 5 * i + 2 - 148) % 5 = 2 := by omega
  rw [kb_ent, if_neg (by omega), if_neg (by omega), if_pos (by omega), if_neg (by omega), e]; rfl⟩
theorem ia_Pkin {i : Nat} (hi : i < 8) : kb_IA (148 + 5 * i + 3) 16 := ⟨by omega, fun E X Y => by
  have e : (148 + 5 * i + 3 - 148) % 5 = 3 := by omega
  rw [kb_ent, if_neg (by omega), if_neg (by omega), if_pos (by omega), if_neg (by omega), e]; rfl⟩
theorem ia_Psus {i : Nat} (hi : i < 8) : kb_IA (148 + 5 * i + 4) 40 := ⟨by omega, fun E X Y => by
  have e : (148 + 5 * i + 4 - 148) % 5 = 4 := by omega
  rw [kb_ent, if_neg (by omega), if_neg (by omega), if_pos (by omega), if_neg (by omega), e]; rfl⟩
theorem kb_eB {E X Y} {i : Nat} (hi : i < 8) : kb_ent E X Y (92 + 7 * i) = .inr (0, [.ref (E.2.2.2 (92 + 7 * i + 1)), .ref (E.2.2.2 (92 + 7 * i + 2)), .int (X (92 + 7 * i) 2), .int (X (92 + 7 * i) 3), .ref (E.2.2.2 (92 + 7 * i + 3)), .ref (E.2.2.2 (92 + 7 * i + 4)), .ref (E.2.2.2 (92 + 7 * i + 5)), .ref (E.2.2.2 (92 + 7 * i + 6))]) := by
  rw [kb_ent, if_neg (by omega), if_pos (by omega), if_pos (by omega)]
theorem kb_eP {E X Y} {i : Nat} (hi : i < 8) : kb_ent E X Y (148 + 5 * i) = .inr (2, [.ref (E.2.2.2 (148 + 5 * i + 1)), .ref (E.2.2.2 (148 + 5 * i + 2)), .int (X (148 + 5 * i) 2), .int (X (148 + 5 * i) 3), .int (X (148 + 5 * i) 4), .int (X (148 + 5 * i) 5), .int (X (148 + 5 * i) 6), .ref (E.2.2.2 (148 + 5 * i + 3)), .ref (E.2.2.2 (148 + 5 * i + 4)), .int (X (148 + 5 * i) 9)]) := by
  rw [kb_ent, if_neg (by omega), if_neg (by omega), if_pos (by omega), if_pos (by omega)]
theorem fr_Bcol {i : Nat} (hi : i < 8) : kb_FR (92 + 7 * i) 0 0 (92 + 7 * i + 1) := ⟨by omega, fun E X Y => ⟨_, kb_eB hi, rfl⟩⟩
theorem fr_Bkin {i : Nat} (hi : i < 8) : kb_FR (92 + 7 * i) 0 1 (92 + 7 * i + 2) := ⟨by omega, fun E X Y => ⟨_, kb_eB hi, rfl⟩⟩
theorem fr_Bsta {i : Nat} (hi : i < 8) : kb_FR (92 + 7 * i) 0 4 (92 + 7 * i + 3) := ⟨by omega, fun E X Y => ⟨_, kb_eB hi, rfl⟩⟩
theorem fr_Bspe {i : Nat} (hi : i < 8) : kb_FR (92 + 7 * i) 0 5 (92 + 7 * i + 4) := ⟨by omega, fun E X Y => ⟨_, kb_eB hi, rfl⟩⟩
theorem fr_Bsho {i : Nat} (hi : i < 8) : kb_FR (92 + 7 * i) 0 6 (92 + 7 * i + 5) := ⟨by omega, fun E X Y => ⟨_, kb_eB hi, rfl⟩⟩
theorem fr_Brep {i : Nat} (hi : i < 8) : kb_FR (92 + 7 * i) 0 7 (92 + 7 * i + 6) := ⟨by omega, fun E X Y => ⟨_, kb_eB hi, rfl⟩⟩
theorem fi_Bthr {i : Nat} (hi : i < 8) : kb_FI (92 + 7 * i) 0 2 := ⟨by omega, fun E X Y => ⟨_, kb_eB hi, rfl, fun v => by rw [kb_eB hi]; simp [va_up, upd]⟩⟩
theorem fi_Brow {i : Nat} (hi : i < 8) : kb_FI (92 + 7 * i) 0 3 := ⟨by omega, fun E X Y => ⟨_, kb_eB hi, rfl, fun v => by rw [kb_eB hi]; simp [va_up, upd]⟩⟩
theorem fr_Ptol {i : Nat} (hi : i < 8) : kb_FR (148 + 5 * i) 2 0 (148 + 5 * i + 1) := ⟨by omega, fun E X Y => ⟨_, kb_eP hi, rfl⟩⟩
theorem fr_Pfir {i : Nat} (hi : i < 8) : kb_FR (148 + 5 * i) 2 1 (148 + 5 * i + 2) := ⟨by omega, fun E X Y => ⟨_, kb_eP hi, rfl⟩⟩
theorem fr_Pkin {i : Nat} (hi : i < 8) : kb_FR (148 + 5 * i) 2 7 (148 + 5 * i + 3) := ⟨by omega, fun E X Y => ⟨_, kb_eP hi, rfl⟩⟩
theorem fr_Psus {i : Nat} (hi : i < 8) : kb_FR (148 + 5 * i) 2 8 (148 + 5 * i + 4) := ⟨by omega, fun E X Y => ⟨_, kb_eP hi, rfl⟩⟩
theorem fi_Pthr {i : Nat} (hi : i < 8) : kb_FI (148 + 5 * i) 2 2 := ⟨by omega, fun E X Y => ⟨_, kb_eP hi, rfl, fun v => by rw [kb_eP hi]; simp [va_up, upd]⟩⟩
theorem fi_Prow {i : Nat} (hi : i < 8) : kb_FI (148 + 5 * i) 2 3 := ⟨by omega, fun E X Y => ⟨_, kb_eP hi, rfl, fun v => by rw [kb_eP hi]; simp [va_up, upd]⟩⟩
theorem fi_Pwor {i : Nat} (hi : i < 8) : kb_FI (148 + 5 * i) 2 4 := ⟨by omega, fun E X Y => ⟨_, kb_eP hi, rfl, fun v => by rw [kb_eP hi]; simp [va_up, upd]⟩⟩
theorem fi_Psta {i : Nat} (hi : i < 8) : kb_FI (148 + 5 * i) 2 5 := ⟨by omega, fun E X Y => ⟨_, kb_eP hi, rfl, fun v => by rw [kb_eP hi]; simp [va_up, upd]⟩⟩
theorem fi_Pfst {i : Nat} (hi : i < 8) : kb_FI (148 + 5 * i) 2 6 := ⟨by omega, fun E X Y => ⟨_, kb_eP hi, rfl, fun v => by rw [kb_eP hi]; simp [va_up, upd]⟩⟩
theorem fi_Psuc {i : Nat} (hi : i < 8) : kb_FI (148 + 5 * i) 2 9 := ⟨by omega, fun E X Y => ⟨_, kb_eP hi, rfl, fun v => by rw [kb_eP hi]; simp [va_up, upd]⟩⟩
theorem fr_Kbands : kb_FR 0 4 0 1 := ⟨by omega, fun E X Y => ⟨_, rfl, rfl⟩⟩
theorem fr_Kpics : kb_FR 0 4 1 2 := ⟨by omega, fun E X Y => ⟨_, rfl, rfl⟩⟩
theorem fr_Kloom : kb_FR 0 4 2 3 := ⟨by omega, fun E X Y => ⟨_, rfl, rfl⟩⟩
theorem fi_Kbc : kb_FI 0 4 3 := ⟨by omega, fun E X Y => ⟨_, rfl, rfl, fun v => by simp [kb_ent, va_up, upd]⟩⟩
theorem fi_Kpc : kb_FI 0 4 4 := ⟨by omega, fun E X Y => ⟨_, rfl, rfl, fun v => by simp [kb_ent, va_up, upd]⟩⟩
theorem ra_Kbands : kb_RA 1 3 8 (fun i => 92 + 7 * i) := ⟨by omega, fun E X Y => rfl⟩
theorem ra_Kpics : kb_RA 2 4 8 (fun i => 148 + 5 * i) := ⟨by omega, fun E X Y => rfl⟩
theorem ra_Lahead : kb_RA 7 5 41 (fun i => 10 + 2 * i) := ⟨by omega, fun E X Y => rfl⟩
theorem fr_Lnames : kb_FR 3 1 0 4 := ⟨by omega, fun E X Y => ⟨_, rfl, rfl⟩⟩
theorem fr_Llefts : kb_FR 3 1 1 5 := ⟨by omega, fun E X Y => ⟨_, rfl, rfl⟩⟩
theorem fr_Lwish : kb_FR 3 1 2 6 := ⟨by omega, fun E X Y => ⟨_, rfl, rfl⟩⟩
theorem fr_Lahead : kb_FR 3 1 4 7 := ⟨by omega, fun E X Y => ⟨_, rfl, rfl⟩⟩
theorem fr_Lnow : kb_FR 3 1 5 8 := ⟨by omega, fun E X Y => ⟨_, rfl, rfl⟩⟩
theorem fi_Lkc : kb_FI 3 1 3 := ⟨by omega, fun E X Y => ⟨_, rfl, rfl, fun v => by simp [kb_ent, va_up, upd]⟩⟩
theorem ia_Lnames : kb_IA 4 40 := ⟨by omega, fun E X Y => rfl⟩
theorem ia_Llefts : kb_IA 5 40 := ⟨by omega, fun E X Y => rfl⟩
theorem ia_Lwish : kb_IA 6 40 := ⟨by omega, fun E X Y => rfl⟩
/-- a set of standings lies at an even place from 8 to 90, its words behind it -/
def kb_SN (n : Nat) : Prop := 8 ≤ n ∧ n < 92 ∧ n % 2 = 0
theorem fr_Swords {n : Nat} (h : kb_SN n) : kb_FR n 3 0 (n + 1) := ⟨by have := h.2.1; omega, fun E X Y => ⟨[.ref (E.2.2.2 (n + 1))], by
  obtain ⟨h1, h2, h3⟩ := h
  rw [kb_ent, if_pos (by omega), if_neg (by omega), if_neg (by omega), if_neg (by omega), if_neg (by omega), if_neg (by omega), if_neg (by omega), if_pos h3], rfl⟩⟩
theorem la_Swords {n : Nat} (h : kb_SN n) : kb_LA (n + 1) 64 := ⟨by have := h.2.1; omega, fun E X Y => by
  obtain ⟨h1, h2, h3⟩ := h
  rw [kb_ent, if_pos (by omega), if_neg (by omega), if_neg (by omega), if_neg (by omega), if_neg (by omega), if_neg (by omega), if_neg (by omega), if_neg (by omega)]⟩
theorem fr_Mthr : kb_FR 188 5 3 189 := ⟨by omega, fun E X Y => ⟨_, rfl, rfl⟩⟩
theorem fr_Mrow : kb_FR 188 5 4 190 := ⟨by omega, fun E X Y => ⟨_, rfl, rfl⟩⟩
theorem fr_Mcol : kb_FR 188 5 5 191 := ⟨by omega, fun E X Y => ⟨_, rfl, rfl⟩⟩
theorem fr_Mkin : kb_FR 188 5 6 192 := ⟨by omega, fun E X Y => ⟨_, rfl, rfl⟩⟩
theorem fr_Mwid : kb_FR 188 5 7 193 := ⟨by omega, fun E X Y => ⟨_, rfl, rfl⟩⟩
theorem fr_Mhig : kb_FR 188 5 8 194 := ⟨by omega, fun E X Y => ⟨_, rfl, rfl⟩⟩
theorem fr_Msee : kb_FR 188 5 9 195 := ⟨by omega, fun E X Y => ⟨_, rfl, rfl⟩⟩
theorem fr_Mmus : kb_FR 188 5 10 196 := ⟨by omega, fun E X Y => ⟨_, rfl, rfl⟩⟩
theorem fr_Mat : kb_FR 188 5 11 197 := ⟨by omega, fun E X Y => ⟨_, rfl, rfl⟩⟩
theorem fr_Mnow : kb_FR 188 5 12 198 := ⟨by omega, fun E X Y => ⟨_, rfl, rfl⟩⟩
theorem fr_Mthe : kb_FR 188 5 13 199 := ⟨by omega, fun E X Y => ⟨_, rfl, rfl⟩⟩
theorem fr_Mcan : kb_FR 188 5 14 200 := ⟨by omega, fun E X Y => ⟨_, rfl, rfl⟩⟩
theorem fi_Mthw : kb_FI 188 5 0 := ⟨by omega, fun E X Y => ⟨_, rfl, rfl, fun v => by simp [kb_ent, va_up, upd]⟩⟩
theorem fi_Mbc : kb_FI 188 5 1 := ⟨by omega, fun E X Y => ⟨_, rfl, rfl, fun v => by simp [kb_ent, va_up, upd]⟩⟩
theorem fi_Mpc : kb_FI 188 5 2 := ⟨by omega, fun E X Y => ⟨_, rfl, rfl, fun v => by simp [kb_ent, va_up, upd]⟩⟩
theorem ia_Mthr : kb_IA 189 8 := ⟨by omega, fun E X Y => rfl⟩
theorem ia_Mrow : kb_IA 190 8 := ⟨by omega, fun E X Y => rfl⟩
theorem ia_Mcol : kb_IA 191 48 := ⟨by omega, fun E X Y => rfl⟩
theorem ia_Mkin : kb_IA 192 384 := ⟨by omega, fun E X Y => rfl⟩
theorem ia_Mwid : kb_IA 193 8 := ⟨by omega, fun E X Y => rfl⟩
theorem ia_Mhig : kb_IA 194 8 := ⟨by omega, fun E X Y => rfl⟩
theorem ia_Msee : kb_IA 195 384 := ⟨by omega, fun E X Y => rfl⟩
theorem ia_Mmus : kb_IA 196 48 := ⟨by omega, fun E X Y => rfl⟩
theorem ia_Mat : kb_IA 197 6 := ⟨by omega, fun E X Y => rfl⟩
theorem ia_Mnow : kb_IA 198 6 := ⟨by omega, fun E X Y => rfl⟩
theorem ia_Mthe : kb_IA 199 6 := ⟨by omega, fun E X Y => rfl⟩
theorem la_out : kb_LA 201 1 := ⟨by omega, fun E X Y => rfl⟩
theorem ob_B {i : Nat} (hi : i < 8) : kb_OB (92 + 7 * i) 0 := (fr_Bcol hi).ob
theorem ob_P {i : Nat} (hi : i < 8) : kb_OB (148 + 5 * i) 2 := (fr_Ptol hi).ob
theorem ob_K : kb_OB 0 4 := fr_Kbands.ob
theorem ob_L : kb_OB 3 1 := fr_Lnames.ob
theorem ob_S {n : Nat} (h : kb_SN n) : kb_OB n 3 := (fr_Swords h).ob
theorem ob_M : kb_OB 188 5 := fr_Mthr.ob
section KBY
variable {p : Program} {l : Launch} {e : Env} {R : Room} {s : State} {m : MethodId} {args : Array Value} {below : List Frame} {meth : Method} {c : Code} {E : kb_E} {A : Nat → Prop} {X : Nat → Nat → Int32} {Y : Nat → Nat → Int64} {cells slots : Nat} {Q : State → Prop} {cc : ByteArray} {nL : Nat} {own : String} {Ts : List Cond} {ret : Option FieldType} {pc : Nat} {lv : List (Option Value)} {st : List Value}
theorem x_getR (C : kb_C l E A cc nL own Ts ret p s m args meth c) {ci k index n NF : Nat} {ref C0 host : String} {T : u_T} {mm : Nat} (hd : decode cc pc = .ok (.getfield index, 3)) (h : kb_FR n ci k mm) (hc : vwCl[ci]? = some (C0, T, NF)) (hin : ∀ w ∈ u_ws C0 T NF, w ∈ Ts) (hk : k < NF) (hw : Cond.fieldLink own index ref (T k).2.1 (T k).2.2.1 ∈ Ts) (hr : ref = (T k).1) (K : kb_G p l e R s m args below meth c E A 202 nL (kb_ent E X Y) cells slots Q (pc + 3) lv (.ref (E.2.2.2 mm) :: st)) : kb_G p l e R s m args below meth c E A 202 nL (kb_ent E X Y) cells slots Q pc lv (.ref (E.2.2.2 n) :: st) := by
  obtain ⟨fs, h1, h2⟩ := h.2 E X Y
  exact q_get C hd h.1 h1 hc hin hk hw hr h2 K
theorem x_getI (C : kb_C l E A cc nL own Ts ret p s m args meth c) {ci k index n NF : Nat} {ref C0 host : String} {T : u_T} (hd : decode cc pc = .ok (.getfield index, 3)) (h : kb_FI n ci k) (hc : vwCl[ci]? = some (C0, T, NF)) (hin : ∀ w ∈ u_ws C0 T NF, w ∈ Ts) (hk : k < NF) (hw : Cond.fieldLink own index ref (T k).2.1 (T k).2.2.1 ∈ Ts) (hr : ref = (T k).1) (K : kb_G p l e R s m args below meth c E A 202 nL (kb_ent E X Y) cells slots Q (pc + 3) lv (.int (X n k) :: st)) : kb_G p l e R s m args below meth c E A 202 nL (kb_ent E X Y) cells slots Q pc lv (.ref (E.2.2.2 n) :: st) := by
  obtain ⟨fs, h1, h2, -⟩ := h.2 E X Y
  exact q_get C hd h.1 h1 hc hin hk hw hr h2 K
theorem x_putI (C : kb_C l E A cc nL own Ts ret p s m args meth c) {ci k index n NF : Nat} {ref C0 host : String} {T : u_T} {ty0 : Nat → FieldType} {v : Int32} {ty : FieldType} (hd : decode cc pc = .ok (.putfield index, 3)) (h : kb_FI n ci k) (hc : vwCl[ci]? = some (C0, T, NF)) (hin : ∀ w ∈ u_ws C0 T NF, w ∈ Ts) (hty : ∀ k, k < NF → parseFieldDescriptor (T k).2.2.1 = some (ty0 k)) (hnm : ∀ a, a < NF → ∀ b, b < NF → a ≠ b → (T a).2.1 ≠ (T b).2.1) (hk : k < NF) (hw : Cond.fieldLink own index ref (T k).2.1 (T k).2.2.1 ∈ Ts) (hr : ref = (T k).1) (hfin : (T k).2.2.2 = false) (hp : parseFieldDescriptor (T k).2.2.1 = some ty) (hna : narrow ty (.int v) = .int v) (hfit : fits ty (.int v) = true) (K : kb_G p l e R s m args below meth c E A 202 nL (kb_ent E (va_up X n (upd (X n) k v)) Y) cells slots Q (pc + 3) lv (st)) : kb_G p l e R s m args below meth c E A 202 nL (kb_ent E X Y) cells slots Q pc lv (.int v :: .ref (E.2.2.2 n) :: st) := by
  obtain ⟨fs, h1, h2, h3⟩ := h.2 E X Y
  exact q_put (host := own) C hd h.1 h1 hc hin hty hnm hk hw hr hfin hp hna hfit (List.getElem?_eq_some_iff.mp h2).1 (q_world (kb_upX (h3 v)) K)
theorem x_getRN (C : kb_C l E A cc nL own Ts ret p s m args meth c) {ci k index n NF : Nat} {ref C0 host : String} {T : u_T} {mm : Nat} (hd : decode cc pc = .ok (.getfield index, 3)) (h : kb_FR n ci k mm) (hc : vwCl[ci]? = some (C0, T, NF)) (hin : ∀ w ∈ u_ws C0 T NF, w ∈ Ts) (hk : k < NF) (hw : (own, index, ref, (T k).2.1, (T k).2.2.1, host) ∈ kb_nestF) (hr : ref = (T k).1) (K : kb_G p l e R s m args below meth c E A 202 nL (kb_ent E X Y) cells slots Q (pc + 3) lv (.ref (E.2.2.2 mm) :: st)) : kb_G p l e R s m args below meth c E A 202 nL (kb_ent E X Y) cells slots Q pc lv (.ref (E.2.2.2 n) :: st) := by
  obtain ⟨fs, h1, h2⟩ := h.2 E X Y
  exact q_getN C hd h.1 h1 hc hin hk hw hr h2 K
theorem x_getIN (C : kb_C l E A cc nL own Ts ret p s m args meth c) {ci k index n NF : Nat} {ref C0 host : String} {T : u_T} (hd : decode cc pc = .ok (.getfield index, 3)) (h : kb_FI n ci k) (hc : vwCl[ci]? = some (C0, T, NF)) (hin : ∀ w ∈ u_ws C0 T NF, w ∈ Ts) (hk : k < NF) (hw : (own, index, ref, (T k).2.1, (T k).2.2.1, host) ∈ kb_nestF) (hr : ref = (T k).1) (K : kb_G p l e R s m args below meth c E A 202 nL (kb_ent E X Y) cells slots Q (pc + 3) lv (.int (X n k) :: st)) : kb_G p l e R s m args below meth c E A 202 nL (kb_ent E X Y) cells slots Q pc lv (.ref (E.2.2.2 n) :: st) := by
  obtain ⟨fs, h1, h2, -⟩ := h.2 E X Y
  exact q_getN C hd h.1 h1 hc hin hk hw hr h2 K
theorem x_putIN (C : kb_C l E A cc nL own Ts ret p s m args meth c) {ci k index n NF : Nat} {ref C0 host : String} {T : u_T} {ty0 : Nat → FieldType} {v : Int32} {ty : FieldType} (hd : decode cc pc = .ok (.putfield index, 3)) (h : kb_FI n ci k) (hc : vwCl[ci]? = some (C0, T, NF)) (hin : ∀ w ∈ u_ws C0 T NF, w ∈ Ts) (hty : ∀ k, k < NF → parseFieldDescriptor (T k).2.2.1 = some (ty0 k)) (hnm : ∀ a, a < NF → ∀ b, b < NF → a ≠ b → (T a).2.1 ≠ (T b).2.1) (hk : k < NF) (hw : (own, index, ref, (T k).2.1, (T k).2.2.1, host) ∈ kb_nestF) (hr : ref = (T k).1) (hfin : (T k).2.2.2 = false) (hp : parseFieldDescriptor (T k).2.2.1 = some ty) (hna : narrow ty (.int v) = .int v) (hfit : fits ty (.int v) = true) (K : kb_G p l e R s m args below meth c E A 202 nL (kb_ent E (va_up X n (upd (X n) k v)) Y) cells slots Q (pc + 3) lv (st)) : kb_G p l e R s m args below meth c E A 202 nL (kb_ent E X Y) cells slots Q pc lv (.int v :: .ref (E.2.2.2 n) :: st) := by
  obtain ⟨fs, h1, h2, h3⟩ := h.2 E X Y
  exact q_putN C hd h.1 h1 hc hin hty hnm hk hw hr hfin hp hna hfit (List.getElem?_eq_some_iff.mp h2).1 (q_world (kb_upX (h3 v)) K)
theorem x_iald (C : kb_C l E A cc nL own Ts ret p s m args meth c) {n len : Nat} {i : Int32} (hd : decode cc pc = .ok (.iaload, 1)) (h : kb_IA n len) (hi : vp_in i len) (K : kb_G p l e R s m args below meth c E A 202 nL (kb_ent E X Y) cells slots Q (pc + 1) lv (.int (X n i.toNatClampNeg) :: st)) : kb_G p l e R s m args below meth c E A 202 nL (kb_ent E X Y) cells slots Q pc lv (.int i :: .ref (E.2.2.2 n) :: st) := q_iald C hd h.1 (h.2 E X Y) hi K
theorem x_lald (C : kb_C l E A cc nL own Ts ret p s m args meth c) {n len : Nat} {i : Int32} (hd : decode cc pc = .ok (.laload, 1)) (h : kb_LA n len) (hi : vp_in i len) (K : kb_G p l e R s m args below meth c E A 202 nL (kb_ent E X Y) cells slots Q (pc + 1) lv (.long (Y n i.toNatClampNeg) :: st)) : kb_G p l e R s m args below meth c E A 202 nL (kb_ent E X Y) cells slots Q pc lv (.int i :: .ref (E.2.2.2 n) :: st) := q_lald C hd h.1 (h.2 E X Y) hi K
theorem x_zald (C : kb_C l E A cc nL own Ts ret p s m args meth c) {i : Int32} (hd : decode cc pc = .ok (.baload, 1)) (hi : vp_in i 69632) (K : kb_G p l e R s m args below meth c E A 202 nL (kb_ent E X Y) cells slots Q (pc + 1) lv (.int (X 200 i.toNatClampNeg) :: st)) : kb_G p l e R s m args below meth c E A 202 nL (kb_ent E X Y) cells slots Q pc lv (.int i :: .ref (E.2.2.2 200) :: st) := q_zald C hd (by decide) (kb_ZA E X Y) hi K
theorem x_iast (C : kb_C l E A cc nL own Ts ret p s m args meth c) {n len : Nat} {i x : Int32} (hd : decode cc pc = .ok (.iastore, 1)) (h : kb_IA n len) (hi : vp_in i len) (K : kb_G p l e R s m args below meth c E A 202 nL (kb_ent E (va_up X n (upd (X n) i.toNatClampNeg x)) Y) cells slots Q (pc + 1) lv (st)) : kb_G p l e R s m args below meth c E A 202 nL (kb_ent E X Y) cells slots Q pc lv (.int x :: .int i :: .ref (E.2.2.2 n) :: st) := q_iast C hd h.1 (h.2 E X Y) hi (q_world (kb_upX ((h.2 E _ Y).trans (by rw [kb_up_self]))) K)
theorem x_last (C : kb_C l E A cc nL own Ts ret p s m args meth c) {n len : Nat} {i : Int32} {x : Int64} (hd : decode cc pc = .ok (.lastore, 1)) (h : kb_LA n len) (hi : vp_in i len) (K : kb_G p l e R s m args below meth c E A 202 nL (kb_ent E X (va_up Y n (vp_updL (Y n) i.toNatClampNeg x))) cells slots Q (pc + 1) lv (st)) : kb_G p l e R s m args below meth c E A 202 nL (kb_ent E X Y) cells slots Q pc lv (.long x :: .int i :: .ref (E.2.2.2 n) :: st) := q_last C hd h.1 (h.2 E X Y) hi (q_world (kb_upY ((h.2 E X _).trans (by rw [kb_up_self]))) K)
theorem x_zast (C : kb_C l E A cc nL own Ts ret p s m args meth c) {i x : Int32} (hd : decode cc pc = .ok (.bastore, 1)) (hi : vp_in i 69632) (K : kb_G p l e R s m args below meth c E A 202 nL (kb_ent E (va_up X 200 (upd (X 200) i.toNatClampNeg (vp_nar .boolean x))) Y) cells slots Q (pc + 1) lv (st)) : kb_G p l e R s m args below meth c E A 202 nL (kb_ent E X Y) cells slots Q pc lv (.int x :: .int i :: .ref (E.2.2.2 200) :: st) := q_zast C hd (by decide) (kb_ZA E X Y) hi (q_world (kb_upX ((kb_ZA E _ Y).trans (by rw [kb_up_self]))) K)
theorem x_aald (C : kb_C l E A cc nL own Ts ret p s m args meth c) {n len t0 : Nat} {C0 : String} {f : Nat → Nat} {i : Int32} (hd : decode cc pc = .ok (.aaload, 1)) (h : kb_RA n t0 len f) (ht : (kb_tys E)[t0]? = some (E.2.2.1 t0, .object C0)) (hi : vp_in i len) (K : kb_G p l e R s m args below meth c E A 202 nL (kb_ent E X Y) cells slots Q (pc + 1) lv (.ref (E.2.2.2 (f i.toNatClampNeg)) :: st)) : kb_G p l e R s m args below meth c E A 202 nL (kb_ent E X Y) cells slots Q pc lv (.int i :: .ref (E.2.2.2 n) :: st) := q_aald C hd h.1 (h.2 E X Y) ht hi rfl K
end KBY

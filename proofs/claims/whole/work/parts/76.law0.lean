/-! ===== the law's body: rows ===== -/
theorem kb_u_colour {X X1 : Nat → Nat → Int32} {b t c0 v0 : Int32} {kk : Nat} (hR : kb_REL X) (hc : kb_hx (kb_e b (X 0 3) ∧ kb_e t (X (92 + 7 * kb_tn b) 2)) (kb_e c0 (nI 4)) (fun v X1 => v = X (92 + 7 * kb_tn b + 1) (kb_tn t) ∧ X1 = va_up X (92 + 7 * kb_tn b + 1) (upd (X (92 + 7 * kb_tn b + 1)) (kb_tn t) c0)) (fun X1 => X1 = X) kk v0 X1) : kb_MU X X1 :=
  hc.mu (fun c1 h z hz => by
    have := (hR.eB c1.1).2.1
    rw [h.2, kb_up_ne (by omega)]) (fun h z _ => by rw [h])
theorem kb_u_row {X X1 : Nat → Nat → Int32} {b kinds v0 : Int32} {kk : Nat} (hR : kb_REL X) (hc : kb_hx (kb_e b (X 0 3)) True (fun v X1 => (((kb_tn (X (92 + 7 * kb_tn b) 3)) = 16 ∧ v = -1 ∧ X1 = X) ∨ (¬ (kb_tn (X (92 + 7 * kb_tn b) 3)) = 16 ∧ v = nI ((kb_tn (X (92 + 7 * kb_tn b) 3)) + 1) ∧ X1 = kb_crow X (kb_tn b) kinds))) (fun X1 => X1 = X) kk v0 X1) : kb_MU X X1 :=
  hc.mu (fun c1 h z hz => by
    have := (hR.eB c1).2.1
    rcases h with ⟨-, -, h⟩ | ⟨-, -, h⟩
    · rw [h]
    · rw [h]
      unfold kb_crow
      rw [kb_up_ne (by omega), kb_up_ne (by omega)]) (fun h z _ => by rw [h])
theorem kb_u_knot {X X1 : Nat → Nat → Int32} {b r k k0 v0 : Int32} {kk : Nat} (hR : kb_REL X) (hc : kb_hx (kb_e b (X 0 3) ∧ kb_e r (X (92 + 7 * kb_tn b) 3) ∧ kb_e k (kb_knotsIn (X (92 + 7 * kb_tn b) 2) r)) (k0 = -1 ∨ kb_e k0 (nI 4)) (fun v X1 => v = kb_kindIn (X (92 + 7 * kb_tn b + 2) (kb_tn r)) k ∧ X1 = (if k0 = -1 then X else va_up X (92 + 7 * kb_tn b + 2) (upd (X (92 + 7 * kb_tn b + 2)) (kb_tn r) (kb_withKind (X (92 + 7 * kb_tn b + 2) (kb_tn r)) k k0)))) (fun X1 => X1 = X) kk v0 X1) : kb_MU X X1 :=
  hc.mu (fun c1 h z hz => by
    have := (hR.eB c1.1).2.1
    rw [h.2]
    split
    · rfl
    · rw [kb_up_ne (by omega)]) (fun h z _ => by rw [h])
theorem kb_u_shows {X X1 : Nat → Nat → Int32} {b r k v0 : Int32} {kk : Nat} (hR : kb_REL X) (hc : kb_hx (kb_e b (X 0 3) ∧ kb_e r (X (92 + 7 * kb_tn b) 3) ∧ kb_e k (kb_knotsIn (X (92 + 7 * kb_tn b) 2) r)) True (fun v X1 => v = X (92 + 7 * kb_tn b + 1) (kb_sh (kb_kd (X (92 + 7 * kb_tn b + 2))) (kb_tn (X (92 + 7 * kb_tn b) 2)) (kb_tn r) (kb_tn k)) ∧ kb_sameB (kb_tn b) X X1) (fun X1 => X1 = X) kk v0 X1) : kb_MU X X1 :=
  hc.mu (fun c1 h z hz => by
    have := (hR.eB c1.1).2.1
    exact h.2 z (by omega) (by omega) (by omega)) (fun h z _ => by rw [h])
theorem kb_u_thread {X X1 : Nat → Nat → Int32} {b r t v0 : Int32} {kk : Nat} (hR : kb_REL X) (hc : kb_hx (kb_e b (X 0 3) ∧ kb_e r (nI ((kb_tn (X (92 + 7 * kb_tn b) 3)) + 1)) ∧ kb_e t (X (92 + 7 * kb_tn b) 2)) True (fun v X1 => v = nI (kb_at (kb_kd (X (92 + 7 * kb_tn b + 2))) (kb_tn (X (92 + 7 * kb_tn b) 2)) (kb_tn r) (kb_tn t)) ∧ kb_sameB (kb_tn b) X X1) (fun X1 => X1 = X) kk v0 X1) : kb_MU X X1 :=
  hc.mu (fun c1 h z hz => by
    have := (hR.eB c1.1).2.1
    exact h.2 z (by omega) (by omega) (by omega)) (fun h z _ => by rw [h])
theorem kb_u_used {X X1 : Nat → Nat → Int32} {b t v0 : Int32} {kk : Nat} (hR : kb_REL X) (hc : kb_hx (kb_e b (X 0 3) ∧ kb_e t (X (92 + 7 * kb_tn b) 2)) True (fun v X1 => v = nI (kb_use (kb_kd (X (92 + 7 * kb_tn b + 2))) (kb_tn (X (92 + 7 * kb_tn b) 2)) (kb_tn t) (kb_tn (X (92 + 7 * kb_tn b) 3))) ∧ kb_sameB (kb_tn b) X X1) (fun X1 => X1 = X) kk v0 X1) : kb_MU X X1 :=
  hc.mu (fun c1 h z hz => by
    have := (hR.eB c1.1).2.1
    exact h.2 z (by omega) (by omega) (by omega)) (fun h z _ => by rw [h])
theorem kb_u_home {X X1 : Nat → Nat → Int32} {b w0 v0 : Int32} {kk : Nat} (hR : kb_REL X) (hc : kb_hx (kb_e b (X 0 3) ∧ kb_e w0 (nI 2)) True (fun v X1 => (∀ z, z ≠ 92 + 7 * kb_tn b + 3 → z ≠ 92 + 7 * kb_tn b + 4 → z ≠ 92 + 7 * kb_tn b + 5 → z ≠ 92 + 7 * kb_tn b + 6 → X1 z = X z) ∧ ((kb_tn (X (92 + 7 * kb_tn b) 3)) % 2 = 1 → v = -1) ∧ (¬ (kb_tn (X (92 + 7 * kb_tn b) 3)) % 2 = 1 → ∃ T, 1 ≤ T ∧ T ≤ 6 ∧ v = nI T ∧ kb_hmT (kb_at (kb_kd (X (92 + 7 * kb_tn b + 2))) (kb_tn (X (92 + 7 * kb_tn b) 2)) (kb_tn (X (92 + 7 * kb_tn b) 3))) (kb_tn (X (92 + 7 * kb_tn b) 2)) (decide (¬ w0 = 0)) (X (92 + 7 * kb_tn b + 1)) T)) (fun X1 => X1 = X) kk v0 X1) : kb_MU X X1 :=
  hc.mu (fun c1 h z hz => by
    have := (hR.eB c1.1).2.1
    exact h.1 z (by omega) (by omega) (by omega) (by omega)) (fun h z _ => by rw [h])
theorem kb_u_unlike {X X1 : Nat → Nat → Int32} {b d v0 : Int32} {kk : Nat} (hR : kb_REL X) (hc : kb_hx (kb_e b (X 0 3) ∧ kb_e d (X 0 3)) (X (92 + 7 * kb_tn b) 2 = X (92 + 7 * kb_tn d) 2 ∧ X (92 + 7 * kb_tn b) 3 = X (92 + 7 * kb_tn d) 3) (fun v X1 => v = nI (kb_cnt (fun r k => kb_cun X (kb_tn b) (kb_tn d) (kb_tn (X (92 + 7 * kb_tn b) 2)) r k) (kb_tn (X (92 + 7 * kb_tn b) 2)) (kb_tn (X (92 + 7 * kb_tn b) 3))) ∧ ∀ z, z ≠ 92 + 7 * kb_tn b + 3 → z ≠ 92 + 7 * kb_tn b + 4 → z ≠ 92 + 7 * kb_tn b + 5 → z ≠ 92 + 7 * kb_tn d + 3 → z ≠ 92 + 7 * kb_tn d + 4 → z ≠ 92 + 7 * kb_tn d + 5 → X1 z = X z) (fun X1 => X1 = X) kk v0 X1) : kb_MU X X1 :=
  hc.mu (fun c1 h z hz => by
    have := (hR.eB c1.1).2.1
    have := (hR.eB c1.2).2.1
    exact h.2 z (by omega) (by omega) (by omega) (by omega) (by omega) (by omega)) (fun h z _ => by rw [h])
theorem kb_u_see {X X1 : Nat → Nat → Int32} {b r k c0 v0 : Int32} {kk : Nat} (hR : kb_REL X) (hc : kb_hx (kb_e b (X 0 4) ∧ kb_e r (X (148 + 5 * kb_tn b) 3) ∧ kb_e k (kb_knotsIn (X (148 + 5 * kb_tn b) 2) r)) (kb_e c0 (nI 5)) (fun v X1 => v = X (148 + 5 * kb_tn b + 1) (3 * kb_tn r + kb_tn k) ∧ X1 = kb_unw (va_up X (148 + 5 * kb_tn b + 1) (upd (X (148 + 5 * kb_tn b + 1)) (3 * kb_tn r + kb_tn k) c0)) (kb_tn b)) (fun X1 => X1 = X) kk v0 X1) : kb_MU X X1 :=
  hc.mu (fun c1 h z hz => by
    have := (hR.eP c1.1).2.1
    rw [h.2, kb_unw_ne (by omega), kb_up_ne (by omega)]) (fun h z _ => by rw [h])
theorem kb_u_must {X X1 : Nat → Nat → Int32} {b t c0 v0 : Int32} {kk : Nat} (hR : kb_REL X) (hc : kb_hx (kb_e b (X 0 4) ∧ kb_e t (X (148 + 5 * kb_tn b) 2)) (kb_e c0 (nI 5)) (fun v X1 => v = X (148 + 5 * kb_tn b + 2) (kb_tn t) ∧ X1 = kb_unw (va_up X (148 + 5 * kb_tn b + 2) (upd (X (148 + 5 * kb_tn b + 2)) (kb_tn t) c0)) (kb_tn b)) (fun X1 => X1 = X) kk v0 X1) : kb_MU X X1 :=
  hc.mu (fun c1 h z hz => by
    have := (hR.eP c1.1).2.1
    rw [h.2, kb_unw_ne (by omega), kb_up_ne (by omega)]) (fun h z _ => by rw [h])
theorem kb_u_copy {X X1 : Nat → Nat → Int32} {b d v0 : Int32} {kk : Nat} (hR : kb_REL X) (hc : kb_hx (kb_e b (X 0 4) ∧ kb_e d (X 0 3)) True (fun v X1 => ((¬ (X (148 + 5 * kb_tn b) 2 = X (92 + 7 * kb_tn d) 2 ∧ X (148 + 5 * kb_tn b) 3 = X (92 + 7 * kb_tn d) 3) ∧ v = nI 0 ∧ X1 = X) ∨ ((X (148 + 5 * kb_tn b) 2 = X (92 + 7 * kb_tn d) 2 ∧ X (148 + 5 * kb_tn b) 3 = X (92 + 7 * kb_tn d) 3) ∧ v = nI 1 ∧ (∀ z, z ≠ 148 + 5 * kb_tn b → z ≠ 148 + 5 * kb_tn b + 1 → z ≠ 92 + 7 * kb_tn d + 3 → z ≠ 92 + 7 * kb_tn d + 4 → z ≠ 92 + 7 * kb_tn d + 5 → X1 z = X z) ∧ (∀ j, j ≠ 4 → X1 (148 + 5 * kb_tn b) j = X (148 + 5 * kb_tn b) j) ∧ X1 (148 + 5 * kb_tn b) 4 = nI 0 ∧ ∀ r, r < (kb_tn (X (92 + 7 * kb_tn d) 3)) → ∀ k, k < kb_kn (kb_tn (X (92 + 7 * kb_tn d) 2)) r → X1 (148 + 5 * kb_tn b + 1) (3 * r + k) = X (92 + 7 * kb_tn d + 1) (kb_sh (kb_kd (X (92 + 7 * kb_tn d + 2))) (kb_tn (X (92 + 7 * kb_tn d) 2)) r k)))) (fun X1 => X1 = X) kk v0 X1) : kb_MU X X1 :=
  hc.mu (fun c1 h z hz => by
    have := (hR.eP c1.1).2.1
    have := (hR.eB c1.2).2.1
    rcases h with ⟨-, -, h⟩ | ⟨-, -, h, -⟩
    · rw [h]
    · exact h z (by omega) (by omega) (by omega) (by omega) (by omega)) (fun h z _ => by rw [h])
theorem kb_u_starts {X X1 : Nat → Nat → Int32} {b v0 : Int32} {kk : Nat} (hR : kb_REL X) (hc : kb_hx (kb_e b (X 0 4)) True (fun v X1 => v = nI (kb_ct (kb_St (kb_tn (X (148 + 5 * kb_tn b) 2)) (kb_tn (X (148 + 5 * kb_tn b) 3)) (kb_mtd X (kb_tn b)) (kb_mu6 X (kb_tn b))) 4096) ∧ kb_wout (kb_tn b) (kb_tn (X (148 + 5 * kb_tn b) 2)) (kb_tn (X (148 + 5 * kb_tn b) 3)) (kb_mtd X (kb_tn b)) (kb_mu6 X (kb_tn b)) X X1) (fun X1 => X1 = X) kk v0 X1) : kb_MU X X1 :=
  hc.mu (fun c1 h z hz => by
    have := (hR.eP c1).2.1
    exact h.2.1 z (by omega) (by omega) (by omega) (by omega) (by omega) (by omega) (by omega)) (fun h z _ => by rw [h])
theorem kb_u_start {X X1 : Nat → Nat → Int32} {b t v0 : Int32} {kk : Nat} (hR : kb_REL X) (hc : kb_hx (kb_e b (X 0 4) ∧ kb_e t (X (148 + 5 * kb_tn b) 2)) True (fun v X1 => kb_wout (kb_tn b) (kb_tn (X (148 + 5 * kb_tn b) 2)) (kb_tn (X (148 + 5 * kb_tn b) 3)) (kb_mtd X (kb_tn b)) (kb_mu6 X (kb_tn b)) X X1 ∧ v = (if (kb_ct (kb_St (kb_tn (X (148 + 5 * kb_tn b) 2)) (kb_tn (X (148 + 5 * kb_tn b) 3)) (kb_mtd X (kb_tn b)) (kb_mu6 X (kb_tn b))) 4096) = 0 then -1 else kb_colourIn (X1 (148 + 5 * kb_tn b) 6) t)) (fun X1 => X1 = X) kk v0 X1) : kb_MU X X1 :=
  hc.mu (fun c1 h z hz => by
    have := (hR.eP c1.1).2.1
    exact h.1.1 z (by omega) (by omega) (by omega) (by omega) (by omega) (by omega) (by omega)) (fun h z _ => by rw [h])
theorem kb_u_tie {X X1 : Nat → Nat → Int32} {b v0 : Int32} {kk : Nat} (hR : kb_REL X) (hc : kb_hx (kb_e b (X 0 4)) True (fun v X1 => ∃ X', kb_wout (kb_tn b) (kb_tn (X (148 + 5 * kb_tn b) 2)) (kb_tn (X (148 + 5 * kb_tn b) 3)) (kb_mtd X (kb_tn b)) (kb_mu6 X (kb_tn b)) X X' ∧ ((((kb_ct (kb_St (kb_tn (X (148 + 5 * kb_tn b) 2)) (kb_tn (X (148 + 5 * kb_tn b) 3)) (kb_mtd X (kb_tn b)) (kb_mu6 X (kb_tn b))) 4096) = 0 ∨ (kb_tn (X 0 3)) = 8) ∧ v = -1 ∧ X1 = X') ∨ (¬ (kb_ct (kb_St (kb_tn (X (148 + 5 * kb_tn b) 2)) (kb_tn (X (148 + 5 * kb_tn b) 3)) (kb_mtd X (kb_tn b)) (kb_mu6 X (kb_tn b))) 4096) = 0 ∧ (kb_tn (X 0 3)) < 8 ∧ ∃ s0, s0 < 4096 ∧ X' (148 + 5 * kb_tn b) 6 = nI s0 ∧ v = nI (kb_tn (X 0 3)) ∧ ∃ Xb, kb_bcm (kb_tn (X 0 3)) (kb_tn b) (kb_tn (X (148 + 5 * kb_tn b) 2)) (kb_tn (X (148 + 5 * kb_tn b) 3)) s0 (kb_tn (X (148 + 5 * kb_tn b) 2)) (kb_tn (X (148 + 5 * kb_tn b) 3)) X' Xb ∧ X1 = va_up Xb 0 (upd (Xb 0) 3 (nI ((kb_tn (X 0 3)) + 1)))))) (fun X1 => X1 = X) kk v0 X1) : kb_MU X X1 :=
  hc.mu (fun c1 h z hz => by
    have := (hR.eP c1).2.1
    obtain ⟨X', hw, ⟨-, -, h⟩ | ⟨-, a2, s0, -, -, -, Xb, a5, h⟩⟩ := h
    · rw [h]
      exact hw.1 z (by omega) (by omega) (by omega) (by omega) (by omega) (by omega) (by omega)
    · rw [h, kb_up_ne (by omega), a5.1 z (by omega) (by omega) (by omega)]
      exact hw.1 z (by omega) (by omega) (by omega) (by omega) (by omega) (by omega) (by omega)) (fun h z _ => by rw [h])
theorem kb_u_suspect {X X1 : Nat → Nat → Int32} {b i v0 : Int32} {kk : Nat} (hR : kb_REL X) (hc : kb_hx (kb_e b (X 0 4) ∧ (i = -1 ∨ kb_e i (nI (if kb_ct (kb_St (kb_tn (X (148 + 5 * kb_tn b) 2)) (kb_tn (X (148 + 5 * kb_tn b) 3)) (kb_mtd X (kb_tn b)) (kb_mu6 X (kb_tn b))) 4096 = 0 then (kb_Lq (kb_tn (X (148 + 5 * kb_tn b) 2)) (kb_tn (X (148 + 5 * kb_tn b) 3)) (kb_mtd X (kb_tn b)) (kb_mu6 X (kb_tn b))).length else 0)))) True (fun v X1 => kb_wout (kb_tn b) (kb_tn (X (148 + 5 * kb_tn b) 2)) (kb_tn (X (148 + 5 * kb_tn b) 3)) (kb_mtd X (kb_tn b)) (kb_mu6 X (kb_tn b)) X X1 ∧ v = (if i = -1 then nI (if kb_ct (kb_St (kb_tn (X (148 + 5 * kb_tn b) 2)) (kb_tn (X (148 + 5 * kb_tn b) 3)) (kb_mtd X (kb_tn b)) (kb_mu6 X (kb_tn b))) 4096 = 0 then (kb_Lq (kb_tn (X (148 + 5 * kb_tn b) 2)) (kb_tn (X (148 + 5 * kb_tn b) 3)) (kb_mtd X (kb_tn b)) (kb_mu6 X (kb_tn b))).length else 0) else nI ((kb_Lq (kb_tn (X (148 + 5 * kb_tn b) 2)) (kb_tn (X (148 + 5 * kb_tn b) 3)) (kb_mtd X (kb_tn b)) (kb_mu6 X (kb_tn b))).getD (kb_tn i) 0))) (fun X1 => X1 = X ∨ (kb_e b (X 0 4) ∧ kb_wout (kb_tn b) (kb_tn (X (148 + 5 * kb_tn b) 2)) (kb_tn (X (148 + 5 * kb_tn b) 3)) (kb_mtd X (kb_tn b)) (kb_mu6 X (kb_tn b)) X X1)) kk v0 X1) : kb_MU X X1 :=
  hc.mu (fun c1 h z hz => by
    have := (hR.eP c1.1).2.1
    exact h.1.1 z (by omega) (by omega) (by omega) (by omega) (by omega) (by omega) (by omega)) (fun h z hz => by
    rcases h with h | ⟨c1, h⟩
    · rw [h]
    · have := (hR.eP c1).2.1
      exact h.1 z (by omega) (by omega) (by omega) (by omega) (by omega) (by omega) (by omega))
theorem kb_u_count {X X1 : Nat → Nat → Int32} {w0 v0 : Int32} {kk : Nat} (hR : kb_REL X) (hc : kb_hx (kb_e w0 (nI 2)) True (fun v X1 => v = (if w0 = 0 then X 0 3 else X 0 4) ∧ X1 = X) (fun X1 => X1 = X) kk v0 X1) : kb_MU X X1 :=
  hc.mu (fun c1 h z hz => by rw [h.2]) (fun h z _ => by rw [h])
theorem kb_sus_om {E : kb_E} {X : Nat → Nat → Int32} {Y : Nat → Nat → Int64} {b i : Int32} {v : Option Value} {g' : Nat → va_E} (h : ∃ r, v = some (.int r) ∧ ((¬ kb_okP X b ∧ g' = kb_ent E (kb_thr X (nI 1)) Y) ∨ (kb_okP X b ∧ ¬ (¬ i < -1 ∧ ¬ nI (kb_msus X (kb_tn b)).length ≤ i) ∧ ∃ X', g' = kb_ent E X' Y ∧ X' 188 0 = nI 1 ∧ kb_MS X X') ∨ (kb_okP X b ∧ (¬ i < -1 ∧ ¬ nI (kb_msus X (kb_tn b)).length ≤ i) ∧ r = (if i = -1 then nI (kb_msus X (kb_tn b)).length else nI ((kb_msus X (kb_tn b)).getD (kb_tn i) 0)) ∧ ∃ X', g' = kb_ent E X' Y ∧ X' 188 0 = nI 0 ∧ kb_MS X X'))) :
    ∃ r X2, v = some (.int r) ∧ ((¬ kb_okP X b ∧ X2 = kb_thr X (nI 1)) ∨ (kb_okP X b ∧ ¬ (¬ i < -1 ∧ ¬ nI (kb_msus X (kb_tn b)).length ≤ i) ∧ X2 188 0 = nI 1 ∧ kb_MS X X2) ∨ (kb_okP X b ∧ (¬ i < -1 ∧ ¬ nI (kb_msus X (kb_tn b)).length ≤ i) ∧ r = (if i = -1 then nI (kb_msus X (kb_tn b)).length else nI ((kb_msus X (kb_tn b)).getD (kb_tn i) 0)) ∧ X2 188 0 = nI 0 ∧ kb_MS X X2)) ∧ g' = kb_ent E X2 Y := by
  obtain ⟨r, hv, ⟨h1, h2⟩ | ⟨h1, h2, X', h3, h4, h5⟩ | ⟨h1, h2, h3, X', h4, h5, h6⟩⟩ := h
  · exact ⟨r, _, hv, Or.inl ⟨h1, rfl⟩, h2⟩
  · exact ⟨r, X', hv, Or.inr (Or.inl ⟨h1, h2, h4, h5⟩), h3⟩
  · exact ⟨r, X', hv, Or.inr (Or.inr ⟨h1, h2, h3, h5, h6⟩), h4⟩
theorem kb_cmp_self (x : Int64) : lg_cmp x x = 0 := by
  unfold lg_cmp
  rw [if_neg (by rw [gt_iff_lt]; exact Int64.lt_irrefl), if_pos rfl]
section KBS
variable {p : Program} {l : Launch} {e : Env} {R : Room} {s : State} {m : MethodId} {args : Array Value} {below : List Frame} {meth : Method} {c : Code} {E : kb_E} {A : Nat → Prop} {N : Nat} {g : Nat → va_E} {cells slots : Nat} {Q : State → Prop} {cc : ByteArray} {nL : Nat} {own : String} {Ts : List Cond} {ret : Option FieldType} {pc : Nat} {lv : List (Option Value)} {st : List Value} {b L : Nat} {xs : Nat → Int32}
/-- the script, which nothing changes -/
def kb_scr (b L : Nat) (xs : Nat → Int32) (A : Nat → Prop) (s : State) : Prop := va_X b L xs s s.heap ∧ b < s.heap.size ∧ ¬ A b ∧ L < 2 ^ 31
theorem q_sld (C : kb_C l E A cc nL own Ts ret p s m args meth c) (hs : kb_scr b L xs A s) {k : Nat} (hd : decode cc pc = .ok (.iaload, 1)) (hk : k < L) (K : kb_G p l e R s m args below meth c E A N nL g cells slots Q (pc + 1) lv (.int (xs k) :: st)) : kb_G p l e R s m args below meth c E A N nL g cells slots Q pc lv (.int (nI k) :: .ref b :: st) := fun H locs ls h1 h2 h3 =>
  va_sld C.1 C.2.1 hs.1 hs.2.1 hs.2.2.1 h2 (vp_in_nI hk hs.2.2.2) hd (by rw [nI_clamp (Nat.lt_trans hk hs.2.2.2)]; exact K H locs ls h1 h2 h3)
theorem q_slen (C : kb_C l E A cc nL own Ts ret p s m args meth c) (hs : kb_scr b L xs A s) (hd : decode cc pc = .ok (.arraylength, 1)) (K : kb_G p l e R s m args below meth c E A N nL g cells slots Q (pc + 1) lv (.int (nI L) :: st)) : kb_G p l e R s m args below meth c E A N nL g cells slots Q pc lv (.ref b :: st) := fun H locs ls h1 h2 h3 =>
  va_slen C.1 C.2.1 hs.1 hs.2.1 hs.2.2.1 h2 hd (K H locs ls h1 h2 h3)
/-- script[i + j] -/
theorem x_arg (C : kb_C l E A cc nL own Ts ret p s m args meth c) (hs : kb_scr b L xs A s) {i j : Nat} {n : Int} (hi : i + j < L) (d0 : decode cc pc = .ok (.aload_n 0, 1)) (d1 : decode cc (pc + 1) = .ok (.iload 4, 2)) (d3 : decode cc (pc + 3) = .ok (.iconst n, 1)) (hn : Int32.ofInt n = nI j) (d4 : decode cc (pc + 4) = .ok (.iadd, 1)) (d5 : decode cc (pc + 5) = .ok (.iaload, 1)) (h0 : lv[0]? = some (some (.ref b))) (h4 : lv[4]? = some (some (.int (nI i)))) (K : kb_G p l e R s m args below meth c E A N nL g cells slots Q (pc + 6) lv (.int (xs (i + j)) :: st)) : kb_G p l e R s m args below meth c E A N nL g cells slots Q pc lv st := by
  refine q_aload_n C d0 h0 ?_
  refine q_iload C d1 h4 ?_
  refine q_iconst C (v := nI j) d3 hn ?_
  refine q_iaddN C d4 ?_
  exact q_sld C hs d5 hi K
end KBS
/-- the law's locals -/
def kb_lvL (b i : Nat) (E : kb_E) : List (Option Value) := [some (.ref b), some (.ref (E.2.2.2 0)), some (.ref (E.2.2.2 188)), some (.ref (E.2.2.2 201)), some (.int (nI i)), none, none]
section KBTL
variable {p : Program} {l : Launch} {e : Env} {s : State} {m : MethodId} {args : Array Value} {below : List Frame} {meth : Method} {c : Code} {E : kb_E} {A : Nat → Prop} {cells slots : Nat} {Q : State → Prop} {pc : Nat} {b : Nat}
set_option maxRecDepth 100000 in
set_option maxHeartbeats 4000000 in
/-- thrown alike? answered alike? -/
theorem kb_tail (C : kb_C l E A cL_law 7 RL wsL_law (some .boolean) p s m args meth c) {X2 : Nat → Nat → Int32} {Y1 : Nat → Nat → Int64} {k i : Nat} {r v : Int32} {o1 o2 o3 o4 : Int} (hk : k < 3) (h188 : X2 188 0 = nI k) (hr : k = 0 → r = v) (hY : k = 0 → Y1 201 0 = r.toInt64) (hf : cells ≤ room_1.cells ∧ slots ≤ room_1.slots)
    (d0 : decode cL_law pc = .ok (.istore 6, 2)) (d2 : decode cL_law (pc + 2) = .ok (.aload_n 2, 1)) (d3 : decode cL_law (pc + 3) = .ok (.invokevirtual 80, 3)) (d6 : decode cL_law (pc + 6) = .ok (.iload 5, 2)) (d8 : decode cL_law (pc + 8) = .ok (.if_icmp .eq o1, 3)) (t8 : ((pc + 8 : Nat) : Int) + o1 = ((pc + 13 : Nat) : Int)) (d13 : decode cL_law (pc + 13) = .ok (.iload 5, 2)) (d15 : decode cL_law (pc + 15) = .ok (.ifCond .ne o2, 3)) (t15 : ((pc + 15 : Nat) : Int) + o2 = ((pc + 30 : Nat) : Int)) (d18 : decode cL_law (pc + 18) = .ok (.aload_n 3, 1)) (d19 : decode cL_law (pc + 19) = .ok (.iconst 0, 1)) (d20 : decode cL_law (pc + 20) = .ok (.laload, 1)) (d21 : decode cL_law (pc + 21) = .ok (.iload 6, 2)) (d23 : decode cL_law (pc + 23) = .ok (.i2l, 1)) (d24 : decode cL_law (pc + 24) = .ok (.lcmp, 1)) (d25 : decode cL_law (pc + 25) = .ok (.ifCond .eq o3, 3)) (t25 : ((pc + 25 : Nat) : Int) + o3 = ((pc + 30 : Nat) : Int)) (d30 : decode cL_law (pc + 30) = .ok (.goto o4, 3)) (t30 : ((pc + 30 : Nat) : Int) + o4 = ((1341 : Nat) : Int))
    (K : kb_G p l e room_1 s m args below meth c E A 202 7 (kb_ent E X2 Y1) cells slots Q 1341 (kb_lvL b i E) []) : kb_G p l e room_1 s m args below meth c E A 202 7 (kb_ent E X2 Y1) cells slots Q pc [some (.ref b), some (.ref (E.2.2.2 0)), some (.ref (E.2.2.2 188)), some (.ref (E.2.2.2 201)), some (.int (nI i)), some (.int (nI k)), none] [.int v] := by
  have J : kb_G p l e room_1 s m args below meth c E A 202 7 (kb_ent E X2 Y1) cells slots Q (pc + 30) [some (.ref b), some (.ref (E.2.2.2 0)), some (.ref (E.2.2.2 188)), some (.ref (E.2.2.2 201)), some (.int (nI i)), some (.int (nI k)), some (.int v)] [] := q_goto C d30 t30 (q_mask [true, true, true, true, true, false, false] K)
  refine q_istore C d0 (by decide) rfl ?_
  refine q_aload_n C d2 rfl ?_
  refine x_callV (As := []) (nA := 0) (T := TX5) (NF := 15) C d3 ob_M rfl (m_thrown l E X2 Y1) gL_law_X5_thrown rfl (by decide +kernel) rfl ⟨Nat.le_of_ble_eq_true rfl, Nat.le_of_ble_eq_true rfl⟩ (Nat.le_of_ble_eq_true rfl) hf (fun v3 g3 h3 => ?_)
  obtain ⟨rfl, rfl⟩ := h3
  refine q_top (show Value.int _ = Value.int _ from congrArg Value.int h188) ?_
  refine q_iload C d6 rfl ?_
  refine q_icmpeqN C d8 t8 (by omega) (by omega) (fun _ => ?_) (fun h => absurd rfl h)
  refine q_iload C d13 rfl ?_
  refine q_ifne C d15 t15 (fun _ => J) (fun h0 => ?_)
  have hk0 : k = 0 := by
    rcases Nat.eq_zero_or_pos k with z | z
    · exact z
    · exact absurd h0 (nI_ne0 z (by omega))
  refine q_aload_n C d18 rfl ?_
  refine q_iconst C (v := nI 0) d19 (by decide) ?_
  refine x_laldN C d20 la_out (by decide) (by decide) ?_
  refine q_iload C d21 rfl ?_
  refine q_i2l C d23 ?_
  refine q_lcmp C d24 ?_
  refine q_ifeq C d25 t25 (fun _ => J) (fun h => absurd ?_ h)
  rw [hY hk0, hr hk0]
  exact kb_cmp_self _
end KBTL

/-! ===== the reference: suspect ===== -/
/-- the wishes but that of knot r, k -/
def kb_unt (told : Nat → Nat → Nat) (r k : Nat) : Nat → Nat → Nat := fun r' k' => if r' = r ∧ k' = k then 4 else told r' k'
/-- knot r, k has a wish without which there is a start -/
def kb_sus (n h : Nat) (told : Nat → Nat → Nat) (mu : Nat → Nat) (r k : Nat) : Prop := told r k ≠ 4 ∧ ∃ s, s < 4 ^ n ∧ kb_stt n h (kb_unt told r k) mu s
noncomputable def kb_slR (P : Nat → Nat → Prop) (r : Nat) : Nat → List Nat
  | 0 => []
  | k + 1 => kb_slR P r k ++ (if kb_b (P r k) then [8 * r + k] else [])
noncomputable def kb_sls (P : Nat → Nat → Prop) (n : Nat) : Nat → List Nat
  | 0 => []
  | r + 1 => kb_sls P n r ++ kb_slR P r (kb_kn n r)
/-- place i of a list, -1 if there is none -/
def kb_fnd (L : List Nat) (i : Int32) : Int32 := if i = nI (kb_tn i) ∧ kb_tn i < L.length then nI (L.getD (kb_tn i) 0) else -1
theorem kb_fnd_nil (i : Int32) : kb_fnd [] i = -1 := by
  unfold kb_fnd
  rw [if_neg (fun h => Nat.not_lt_zero _ h.2)]
theorem kb_fnd_add {L : List Nat} {x : Nat} {i : Int32} (hL : L.length < 2 ^ 31) : kb_fnd (L ++ [x]) i = if nI L.length = i then nI x else kb_fnd L i := by
  unfold kb_fnd
  by_cases e : nI L.length = i
  · subst e
    rw [if_pos rfl, kb_tn_nI hL, if_pos ⟨rfl, by simp⟩]
    simp
  · rw [if_neg e]
    by_cases c1 : i = nI (kb_tn i) ∧ kb_tn i < L.length
    · rw [if_pos c1, if_pos ⟨c1.1, by simp; omega⟩]
      have : (L ++ [x]).getD (kb_tn i) 0 = L.getD (kb_tn i) 0 := by
        simp only [List.getD_eq_getElem?_getD]
        rw [List.getElem?_append_left c1.2]
      rw [this]
    · rw [if_neg c1, if_neg]
      rintro ⟨q1, q2⟩
      simp at q2
      have : kb_tn i ≠ L.length := fun z => e (by rw [← z]; exact q1.symm)
      exact c1 ⟨q1, by omega⟩
theorem kb_slR_len (P : Nat → Nat → Prop) (r : Nat) : ∀ k, (kb_slR P r k).length ≤ k
  | 0 => Nat.le_refl _
  | k + 1 => by
    have := kb_slR_len P r k
    unfold kb_slR
    split <;> simp <;> omega
theorem kb_sls_len (P : Nat → Nat → Prop) {n : Nat} (hn : n ≤ 6) : ∀ r, (kb_sls P n r).length ≤ 3 * r
  | 0 => Nat.le_refl _
  | r + 1 => by
    have h1 := kb_sls_len P hn r
    have h2 := kb_slR_len P r (kb_kn n r)
    have h3 := kb_kn_le (r := r) hn
    unfold kb_sls
    rw [List.length_append]
    omega
theorem kb_upd_back {f : Nat → Int32} {k : Nat} {v : Int32} (c : Int32) (h : f k = c) : upd (upd f k v) k c = f := by
  funext j
  by_cases e : j = k
  · subst e; simp [upd, h]
  · simp [upd, e]
noncomputable def kb_msus (X : Nat → Nat → Int32) (b : Nat) : List Nat := if kb_b (∃ s, s < 4 ^ kb_tn (X 193 b) ∧ kb_mst X b s) then [] else kb_sls (kb_sus (kb_tn (X 193 b)) (kb_tn (X 194 b)) (kb_mtd X b) (kb_mmu X b)) (kb_tn (X 193 b)) (kb_tn (X 194 b))
theorem kb_ix {i : Int32} {m : Nat} (h : ¬ i < -1 ∧ ¬ nI m ≤ i) (hi : ¬ i = -1) (hm : m < 2 ^ 31) : i = nI (kb_tn i) ∧ kb_tn i < m := by
  have h0 : ¬ i < 0 := by
    intro q
    apply hi
    have h1 := h.1
    rw [Int32.lt_iff_toInt_lt] at h1 q
    apply Int32.toInt_inj.mp
    have e1 : (-1 : Int32).toInt = -1 := by decide
    have e2 : (0 : Int32).toInt = 0 := by decide
    rw [e1] at h1 ⊢
    rw [e2] at q
    omega
  obtain ⟨k, hk, rfl⟩ := kb_lt_nat h0 h.2 rfl
  rw [kb_tn_nI (by omega)]
  exact ⟨rfl, hk⟩
theorem kb_unt_ok {X XC : Nat → Nat → Int32} {b r k : Nat} {told : Nat → Nat → Nat} (hs : ∀ q, q ≠ 200 → XC q = kb_thr X (nI 0) q) (ht : ∀ r, r < 16 → ∀ k, k < 3 → kb_thr X (nI 0) 195 (48 * b + 3 * r + k) = nI (told r k) ∧ told r k ≤ 4) (hk : k < 3) : ∀ r', r' < 16 → ∀ k', k' < 3 → va_up XC 195 (upd (XC 195) (48 * b + 3 * r + k) (nI 4)) 195 (48 * b + 3 * r' + k') = nI (kb_unt told r k r' k') ∧ kb_unt told r k r' k' ≤ 4 := by
  intro r' hr' k' hk'
  rw [kb_up_self]
  unfold kb_unt
  by_cases e : r' = r ∧ k' = k
  · obtain ⟨rfl, rfl⟩ := e
    rw [if_pos ⟨rfl, rfl⟩, upd, if_pos rfl]
    exact ⟨rfl, by decide⟩
  · rw [if_neg e, upd, if_neg (by omega), hs 195 (by decide)]
    exact ht r' hr' k' hk'
theorem iX5_suspect_X5 : ∀ w ∈ wsX50, w ∈ wsX5_suspect := fun _ h => List.mem_cons_of_mem _ (by first | exact h | exact List.mem_append_right _ h | exact List.mem_append_left _ (List.mem_append_right _ h) | exact List.mem_append_left _ (List.mem_append_left _ (List.mem_append_right _ h)) | exact List.mem_append_left _ (List.mem_append_left _ (List.mem_append_left _ (List.mem_append_right _ h))) | exact List.mem_append_left _ (List.mem_append_left _ (List.mem_append_left _ (List.mem_append_left _ (List.mem_append_right _ h)))) | exact List.mem_append_left _ (List.mem_append_left _ (List.mem_append_left _ (List.mem_append_left _ (List.mem_append_left _ (List.mem_append_right _ h))))))
set_option maxRecDepth 100000 in
set_option maxHeartbeats 4000000 in
/-- X5.suspect -/
theorem m_msuspect (l : Launch) (E : kb_E) (X : Nat → Nat → Int32) (Y : Nat → Nat → Int64) (b i : Int32) (hMI : kb_MI X) : kb_Met l E 202 yX5_suspect wsX5_suspect ({ frames := 4, cells := 0, slots := 0, locals := 97 }) [.ref (E.2.2.2 188), .int b, .int i] (kb_ent E X Y) (fun v g' => ∃ r, v = some (.int r) ∧ ((¬ kb_okP X b ∧ g' = kb_ent E (kb_thr X (nI 1)) Y) ∨ (kb_okP X b ∧ ¬ (¬ i < -1 ∧ ¬ nI (kb_msus X (kb_tn b)).length ≤ i) ∧ ∃ X', g' = kb_ent E X' Y ∧ X' 188 0 = nI 1 ∧ kb_MS X X') ∨ (kb_okP X b ∧ (¬ i < -1 ∧ ¬ nI (kb_msus X (kb_tn b)).length ≤ i) ∧ r = (if i = -1 then nI (kb_msus X (kb_tn b)).length else nI ((kb_msus X (kb_tn b)).getD (kb_tn i) 0)) ∧ ∃ X', g' = kb_ent E X' Y ∧ X' 188 0 = nI 0 ∧ kb_MS X X'))) := by
  refine kb_enter (cc := cX5_suspect) (maxL := 10) (ret := (some .int)) (by decide +kernel) rfl (by simp [Value.category]) (Nat.le_of_ble_eq_true rfl) ?_
  intro p e s m args below meth c C hini
  refine q_aload_n C dX5_suspect_0 rfl ?_
  refine q_iload_n C dX5_suspect_1 rfl ?_
  refine x_callV (As := [_]) (nA := 1) (T := TX5) (NF := 15) C dX5_suspect_2 ob_M rfl (m_isPicture _ _ X Y b) gX5_suspect_X5_isPicture rfl (by decide +kernel) rfl ⟨Nat.le_of_ble_eq_true rfl, Nat.le_of_ble_eq_true rfl⟩ (Nat.le_of_ble_eq_true rfl) ⟨Nat.le_of_ble_eq_true rfl, Nat.le_of_ble_eq_true rfl⟩ (fun v2 g2 h2 => ?_)
  rcases h2 with ⟨hc2, rfl, rfl⟩ | ⟨hc2, rfl, rfl⟩
  · obtain ⟨b', hb', rfl, hb8⟩ := kb_okP_nat hMI hc2
    have eb : kb_tn (nI b') = b' := kb_tn_nI (by omega)
    have hnp := hMI.2.2.2.2.1 b' hb'
    have hw0 : kb_thr X (nI 0) 193 b' = nI (kb_tn (X 193 b')) := by rw [kb_thr_ne (by decide)]; exact hnp.1.1
    have hh0 : kb_thr X (nI 0) 194 b' = nI (kb_tn (X 194 b')) := by rw [kb_thr_ne (by decide)]; exact hnp.2.2.1.1
    have hn6 : kb_tn (X 193 b') ≤ 6 := hnp.1.2
    have hn2 : 2 ≤ kb_tn (X 193 b') := hnp.2.1
    have hh16 : kb_tn (X 194 b') ≤ 16 := hnp.2.2.1.2
    have hh1 : 1 ≤ kb_tn (X 194 b') := hnp.2.2.2
    have htd0 : ∀ r, r < 16 → ∀ k, k < 3 → kb_thr X (nI 0) 195 (48 * b' + 3 * r + k) = nI (kb_mtd X b' r k) ∧ kb_mtd X b' r k ≤ 4 := fun r hr k hk => by rw [kb_thr_ne (by decide)]; exact hMI.2.2.2.2.2.1 _ (by omega)
    have hmu0 : ∀ j, j < 6 → kb_thr X (nI 0) 196 (6 * b' + j) = nI (kb_mmu X b' j) ∧ kb_mmu X b' j ≤ 4 := fun j hj => by rw [kb_thr_ne (by decide)]; exact hMI.2.2.2.2.2.2 _ (by omega)
    have h4n := kb_4n hn6
    refine q_ifne C (tgt := 10) dX5_suspect_5 (by decide) (fun c5 => ?_) (fun c5 => ?_)
    · refine q_iconst C (v := -1) dX5_suspect_10 (by decide) ?_
      refine q_istore_n C dX5_suspect_11 (by decide) rfl ?_
      refine q_iconst C (v := nI 0) dX5_suspect_12 (by decide) ?_
      refine q_istore C dX5_suspect_13 (by decide) rfl ?_
      refine q_aload_n C dX5_suspect_15 rfl ?_
      refine q_iload_n C dX5_suspect_16 rfl ?_
      refine x_callV (As := [_]) (nA := 1) (T := TX5) (NF := 15) C dX5_suspect_17 ob_M rfl (m_first _ _ (kb_thr X (nI 0)) Y b' _ _ hb8 hn6 hn2 hh1 hh16 hw0 hh0 _ htd0 _ hmu0) gX5_suspect_X5_first rfl (by decide +kernel) rfl ⟨Nat.le_of_ble_eq_true rfl, Nat.le_of_ble_eq_true rfl⟩ (Nat.le_of_ble_eq_true rfl) ⟨Nat.le_of_ble_eq_true rfl, Nat.le_of_ble_eq_true rfl⟩ (fun v17 g17 h17 => ?_)
      obtain ⟨r17, rfl, hr17, X1, rfl, hl⟩ := h17
      rcases hr17 with ⟨s0, hs0, hs1, hs2, rfl⟩ | ⟨hno, rfl⟩
      · have eL : kb_msus X b' = [] := by unfold kb_msus; rw [kb_b_t ⟨s0, hs0, hs1⟩]; rfl
        have hs9 : s0 < 4096 := by omega
        refine q_iconst C (v := -1) dX5_suspect_20 (by decide) ?_
        refine q_icmpne C (tgt := 28) dX5_suspect_21 (by decide) (fun c21 => ?_) (fun c21 => ?_)
        · refine q_iconst C (v := nI 0) dX5_suspect_28 (by decide) ?_
          refine q_istore C dX5_suspect_29 (by decide) rfl ?_
          refine q_iconst C (v := nI 0) dX5_suspect_31 (by decide) ?_
          refine q_istore C dX5_suspect_32 (by decide) rfl ?_
          refine q_iload C dX5_suspect_34 rfl ?_
          refine q_aload_n C dX5_suspect_36 rfl ?_
          refine x_getR C (ci := 5) (k := 8) (C0 := RX5) (T := TX5) (NF := 15) (ref := RX5) (host := RX4) dX5_suspect_37 fr_Mhig rfl iX5_suspect_X5 (by decide) (List.mem_of_getElem? (i := 1) rfl) rfl ?_
          refine q_iload_n C dX5_suspect_40 rfl ?_
          refine x_ialdN C dX5_suspect_41 ia_Mhig (by decide) (by omega) ?_
          refine q_top (show Value.int _ = Value.int _ from congrArg Value.int ((congrFun (hl.1 194 (by decide)) b').trans hh0)) ?_
          refine q_icmpgeN C (tgt := 188) dX5_suspect_42 (by decide) (by omega) (by omega) (fun c42 => ?_) (fun c42 => ?_)
          · obtain ⟨XZ, hXZ⟩ : ∃ Z, Z = X1 := ⟨_, rfl⟩
            have hsm : ∀ q, q ≠ 200 → XZ q = kb_thr X (nI 0) q := fun q hq => by rw [hXZ]; exact hl.1 q hq
            have hlen : (kb_msus X b').length < 2 ^ 31 := by rw [eL]; decide
            refine q_world (g' := kb_ent E XZ Y) (by rw [hXZ]) ?_
            refine q_mask [true, true, true, true, true, false, false, false, false, false] ?_
            rw [show kb_mask [true, true, true, true, true, false, false, false, false, false] _ = [some (.ref (E.2.2.2 188)), some (.int (nI b')), some (.int i), some (.int (kb_fnd (kb_msus X b') i)), some (.int (nI (kb_msus X b').length)), none, none, none, none, none] from by rw [eL, kb_fnd_nil]; rfl]
            refine q_aload_n C dX5_suspect_188 rfl ?_
            refine q_cut 205 (P := kb_flag (¬ i < -1 ∧ ¬ nI (kb_msus X b').length ≤ i)) (fun f205 hf205 => ?_) (fun J205 => ?_)
            · refine q_iconst C (v := nI 1) dX5_suspect_205 (by decide) ?_
              refine x_callV (As := [_, _]) (nA := 2) (T := TX5) (NF := 15) C dX5_suspect_206 ob_M rfl (m_right _ _ XZ Y ((¬ i < -1 ∧ ¬ nI (kb_msus X b').length ≤ i)) _ _ ((congrFun (hsm 188 (by decide)) 0).trans kb_thr_at) (by decide) hf205) gX5_suspect_X5_right rfl (by decide +kernel) rfl ⟨Nat.le_of_ble_eq_true rfl, Nat.le_of_ble_eq_true rfl⟩ (Nat.le_of_ble_eq_true rfl) ⟨Nat.le_of_ble_eq_true rfl, Nat.le_of_ble_eq_true rfl⟩ (fun v206 g206 h206 => ?_)
              rcases h206 with ⟨hc206, rfl, rfl⟩ | ⟨hc206, rfl, rfl⟩
              · refine q_ifne C (tgt := 214) dX5_suspect_209 (by decide) (fun c209 => ?_) (fun c209 => ?_)
                · refine q_iload_n C dX5_suspect_214 rfl ?_
                  refine q_iconst C (v := -1) dX5_suspect_215 (by decide) ?_
                  refine q_icmpne C (tgt := 224) dX5_suspect_216 (by decide) (fun c216 => ?_) (fun c216 => ?_)
                  · refine q_iload_n C dX5_suspect_224 rfl ?_
                    exact q_iret C dX5_suspect_225 ⟨_, rfl, Or.inr (Or.inr ⟨hc2, by rw [eb]; exact hc206, by rw [eb]; first | rw [if_pos c216] | rw [if_neg c216, kb_fnd, if_pos (kb_ix hc206 c216 hlen)], _, rfl, (congrFun (hsm 188 (by decide)) 0).trans kb_thr_at, (kb_MS.thr X (nI 0)).trans ⟨fun n a _ => hsm n (by omega), hsm 201 (by decide), fun k _ => by rw [hsm 188 (by decide)]⟩⟩)⟩
                  · refine q_iload C dX5_suspect_219 rfl ?_
                    refine q_goto C (tgt := 225) dX5_suspect_221 (by decide) ?_
                    exact q_iret C dX5_suspect_225 ⟨_, rfl, Or.inr (Or.inr ⟨hc2, by rw [eb]; exact hc206, by rw [eb]; first | rw [if_pos c216] | rw [if_neg c216, kb_fnd, if_pos (kb_ix hc206 c216 hlen)], _, rfl, (congrFun (hsm 188 (by decide)) 0).trans kb_thr_at, (kb_MS.thr X (nI 0)).trans ⟨fun n a _ => hsm n (by omega), hsm 201 (by decide), fun k _ => by rw [hsm 188 (by decide)]⟩⟩)⟩
                · exact absurd c209 (by decide)
              · refine q_ifne C (tgt := 214) dX5_suspect_209 (by decide) (fun c209 => ?_) (fun c209 => ?_)
                · exact absurd (show nI 0 = 0 by decide) c209
                · refine q_iconst C (v := nI 0) dX5_suspect_212 (by decide) ?_
                  exact q_iret C dX5_suspect_213 ⟨_, rfl, Or.inr (Or.inl ⟨hc2, by rw [eb]; exact hc206, _, rfl, kb_thr_at, ((kb_MS.thr X (nI 0)).trans ⟨fun n a _ => hsm n (by omega), hsm 201 (by decide), fun k _ => by rw [hsm 188 (by decide)]⟩).trans (kb_MS.thr XZ _)⟩)⟩
            refine q_iload_n C dX5_suspect_189 rfl ?_
            refine q_iconst C (v := -1) dX5_suspect_190 (by decide) ?_
            refine q_icmplt C (tgt := 204) dX5_suspect_191 (by decide) (fun c191 => ?_) (fun c191 => ?_)
            · refine q_iconst C (v := nI 0) dX5_suspect_204 (by decide) ?_
              exact J205 _ (by first | exact Or.inl ⟨rfl, c191, c197⟩ | exact Or.inr ⟨rfl, fun h => h.1 c191⟩ | exact Or.inr ⟨rfl, fun h => h.2 c197⟩)
            · refine q_iload_n C dX5_suspect_194 rfl ?_
              refine q_iload C dX5_suspect_195 rfl ?_
              refine q_icmpge C (tgt := 204) dX5_suspect_197 (by decide) (fun c197 => ?_) (fun c197 => ?_)
              · refine q_iconst C (v := nI 0) dX5_suspect_204 (by decide) ?_
                exact J205 _ (by first | exact Or.inl ⟨rfl, c191, c197⟩ | exact Or.inr ⟨rfl, fun h => h.1 c191⟩ | exact Or.inr ⟨rfl, fun h => h.2 c197⟩)
              · refine q_iconst C (v := nI 1) dX5_suspect_200 (by decide) ?_
                refine q_goto C (tgt := 205) dX5_suspect_201 (by decide) ?_
                exact J205 _ (by first | exact Or.inl ⟨rfl, c191, c197⟩ | exact Or.inr ⟨rfl, fun h => h.1 c191⟩ | exact Or.inr ⟨rfl, fun h => h.2 c197⟩)
          · refine q_iload C dX5_suspect_45 rfl ?_
            refine q_ifeq C (tgt := 188) dX5_suspect_47 (by decide) (fun c47 => ?_) (fun c47 => ?_)
            · obtain ⟨XZ, hXZ⟩ : ∃ Z, Z = X1 := ⟨_, rfl⟩
              have hsm : ∀ q, q ≠ 200 → XZ q = kb_thr X (nI 0) q := fun q hq => by rw [hXZ]; exact hl.1 q hq
              have hlen : (kb_msus X b').length < 2 ^ 31 := by rw [eL]; decide
              refine q_world (g' := kb_ent E XZ Y) (by rw [hXZ]) ?_
              refine q_mask [true, true, true, true, true, false, false, false, false, false] ?_
              rw [show kb_mask [true, true, true, true, true, false, false, false, false, false] _ = [some (.ref (E.2.2.2 188)), some (.int (nI b')), some (.int i), some (.int (kb_fnd (kb_msus X b') i)), some (.int (nI (kb_msus X b').length)), none, none, none, none, none] from by rw [eL, kb_fnd_nil]; rfl]
              refine q_aload_n C dX5_suspect_188 rfl ?_
              refine q_cut 205 (P := kb_flag (¬ i < -1 ∧ ¬ nI (kb_msus X b').length ≤ i)) (fun f205 hf205 => ?_) (fun J205 => ?_)
              · refine q_iconst C (v := nI 1) dX5_suspect_205 (by decide) ?_
                refine x_callV (As := [_, _]) (nA := 2) (T := TX5) (NF := 15) C dX5_suspect_206 ob_M rfl (m_right _ _ XZ Y ((¬ i < -1 ∧ ¬ nI (kb_msus X b').length ≤ i)) _ _ ((congrFun (hsm 188 (by decide)) 0).trans kb_thr_at) (by decide) hf205) gX5_suspect_X5_right rfl (by decide +kernel) rfl ⟨Nat.le_of_ble_eq_true rfl, Nat.le_of_ble_eq_true rfl⟩ (Nat.le_of_ble_eq_true rfl) ⟨Nat.le_of_ble_eq_true rfl, Nat.le_of_ble_eq_true rfl⟩ (fun v206 g206 h206 => ?_)
                rcases h206 with ⟨hc206, rfl, rfl⟩ | ⟨hc206, rfl, rfl⟩
                · refine q_ifne C (tgt := 214) dX5_suspect_209 (by decide) (fun c209 => ?_) (fun c209 => ?_)
                  · refine q_iload_n C dX5_suspect_214 rfl ?_
                    refine q_iconst C (v := -1) dX5_suspect_215 (by decide) ?_
                    refine q_icmpne C (tgt := 224) dX5_suspect_216 (by decide) (fun c216 => ?_) (fun c216 => ?_)
                    · refine q_iload_n C dX5_suspect_224 rfl ?_
                      exact q_iret C dX5_suspect_225 ⟨_, rfl, Or.inr (Or.inr ⟨hc2, by rw [eb]; exact hc206, by rw [eb]; first | rw [if_pos c216] | rw [if_neg c216, kb_fnd, if_pos (kb_ix hc206 c216 hlen)], _, rfl, (congrFun (hsm 188 (by decide)) 0).trans kb_thr_at, (kb_MS.thr X (nI 0)).trans ⟨fun n a _ => hsm n (by omega), hsm 201 (by decide), fun k _ => by rw [hsm 188 (by decide)]⟩⟩)⟩
                    · refine q_iload C dX5_suspect_219 rfl ?_
                      refine q_goto C (tgt := 225) dX5_suspect_221 (by decide) ?_
                      exact q_iret C dX5_suspect_225 ⟨_, rfl, Or.inr (Or.inr ⟨hc2, by rw [eb]; exact hc206, by rw [eb]; first | rw [if_pos c216] | rw [if_neg c216, kb_fnd, if_pos (kb_ix hc206 c216 hlen)], _, rfl, (congrFun (hsm 188 (by decide)) 0).trans kb_thr_at, (kb_MS.thr X (nI 0)).trans ⟨fun n a _ => hsm n (by omega), hsm 201 (by decide), fun k _ => by rw [hsm 188 (by decide)]⟩⟩)⟩
                  · exact absurd c209 (by decide)
                · refine q_ifne C (tgt := 214) dX5_suspect_209 (by decide) (fun c209 => ?_) (fun c209 => ?_)
                  · exact absurd (show nI 0 = 0 by decide) c209
                  · refine q_iconst C (v := nI 0) dX5_suspect_212 (by decide) ?_
                    exact q_iret C dX5_suspect_213 ⟨_, rfl, Or.inr (Or.inl ⟨hc2, by rw [eb]; exact hc206, _, rfl, kb_thr_at, ((kb_MS.thr X (nI 0)).trans ⟨fun n a _ => hsm n (by omega), hsm 201 (by decide), fun k _ => by rw [hsm 188 (by decide)]⟩).trans (kb_MS.thr XZ _)⟩)⟩
              refine q_iload_n C dX5_suspect_189 rfl ?_
              refine q_iconst C (v := -1) dX5_suspect_190 (by decide) ?_
              refine q_icmplt C (tgt := 204) dX5_suspect_191 (by decide) (fun c191 => ?_) (fun c191 => ?_)
              · refine q_iconst C (v := nI 0) dX5_suspect_204 (by decide) ?_
                exact J205 _ (by first | exact Or.inl ⟨rfl, c191, c197⟩ | exact Or.inr ⟨rfl, fun h => h.1 c191⟩ | exact Or.inr ⟨rfl, fun h => h.2 c197⟩)
              · refine q_iload_n C dX5_suspect_194 rfl ?_
                refine q_iload C dX5_suspect_195 rfl ?_
                refine q_icmpge C (tgt := 204) dX5_suspect_197 (by decide) (fun c197 => ?_) (fun c197 => ?_)
                · refine q_iconst C (v := nI 0) dX5_suspect_204 (by decide) ?_
                  exact J205 _ (by first | exact Or.inl ⟨rfl, c191, c197⟩ | exact Or.inr ⟨rfl, fun h => h.1 c191⟩ | exact Or.inr ⟨rfl, fun h => h.2 c197⟩)
                · refine q_iconst C (v := nI 1) dX5_suspect_200 (by decide) ?_
                  refine q_goto C (tgt := 205) dX5_suspect_201 (by decide) ?_
                  exact J205 _ (by first | exact Or.inl ⟨rfl, c191, c197⟩ | exact Or.inr ⟨rfl, fun h => h.1 c191⟩ | exact Or.inr ⟨rfl, fun h => h.2 c197⟩)
            · exact absurd (show nI 0 = 0 by decide) c47
        · exact absurd c21 (kb_nI_ne (by omega))
      · have eL : kb_msus X b' = (kb_sls (kb_sus (kb_tn (X 193 b')) (kb_tn (X 194 b')) (kb_mtd X b') (kb_mmu X b')) (kb_tn (X 193 b')) (kb_tn (X 194 b'))) := by unfold kb_msus; rw [kb_b_f (fun ⟨s, h1, h2⟩ => hno s h1 h2)]; rfl
        refine q_iconst C (v := -1) dX5_suspect_20 (by decide) ?_
        refine q_icmpne C (tgt := 28) dX5_suspect_21 (by decide) (fun c21 => ?_) (fun c21 => ?_)
        · exact absurd rfl c21
        · refine q_iconst C (v := nI 1) dX5_suspect_24 (by decide) ?_
          refine q_goto C (tgt := 29) dX5_suspect_25 (by decide) ?_
          refine q_istore C dX5_suspect_29 (by decide) rfl ?_
          refine q_iconst C (v := nI 0) dX5_suspect_31 (by decide) ?_
          refine q_istore C dX5_suspect_32 (by decide) rfl ?_
          refine q_mask [true, true, true, true, true, true, true, false, false, false] (q_eq (lv' := [some (.ref (E.2.2.2 188)), some (.int (nI b')), some (.int i), some (.int (kb_fnd (kb_sls (kb_sus (kb_tn (X 193 b')) (kb_tn (X 194 b')) (kb_mtd X b') (kb_mmu X b')) (kb_tn (X 193 b')) 0) i)), some (.int (nI (kb_sls (kb_sus (kb_tn (X 193 b')) (kb_tn (X 194 b')) (kb_mtd X b') (kb_mmu X b')) (kb_tn (X 193 b')) 0).length)), some (.int (nI 1)), some (.int (nI 0)), none, none, none]) ?_ rfl (by rw [show kb_fnd (kb_sls (kb_sus (kb_tn (X 193 b')) (kb_tn (X 194 b')) (kb_mtd X b') (kb_mmu X b')) (kb_tn (X 193 b')) 0) i = -1 from kb_fnd_nil i]; rfl) rfl)
          refine q_mask [true, true, true, true, true, true, true, true, true, true] (q_for (σ := Unit) (k0 := 0) ((kb_tn (X 194 b'))) (fun r _ X' Y' => Y = Y' ∧ ∀ q, q ≠ 200 → X' q = kb_thr X (nI 0) q) (fun r _ => [some (.ref (E.2.2.2 188)), some (.int (nI b')), some (.int i), some (.int (kb_fnd (kb_sls (kb_sus (kb_tn (X 193 b')) (kb_tn (X 194 b')) (kb_mtd X b') (kb_mmu X b')) (kb_tn (X 193 b')) r) i)), some (.int (nI (kb_sls (kb_sus (kb_tn (X 193 b')) (kb_tn (X 194 b')) (kb_mtd X b') (kb_mmu X b')) (kb_tn (X 193 b')) r).length)), some (.int (nI 1)), some (.int (nI r)), none, none, none]) (Nat.zero_le _) () (⟨rfl, hl.1⟩) ?_ ?_)
          · intro r aB XB YB hk_r hk0_r hI_r ih_r
            obtain ⟨rfl, hIB⟩ := hI_r
            have hkn3 : kb_kn (kb_tn (X 193 b')) r ≤ 3 := kb_kn_le hn6
            have hslr := kb_sls_len (kb_sus (kb_tn (X 193 b')) (kb_tn (X 194 b')) (kb_mtd X b') (kb_mmu X b')) hn6 r
            refine q_iload C dX5_suspect_34 rfl ?_
            refine q_aload_n C dX5_suspect_36 rfl ?_
            refine x_getR C (ci := 5) (k := 8) (C0 := RX5) (T := TX5) (NF := 15) (ref := RX5) (host := RX4) dX5_suspect_37 fr_Mhig rfl iX5_suspect_X5 (by decide) (List.mem_of_getElem? (i := 1) rfl) rfl ?_
            refine q_iload_n C dX5_suspect_40 rfl ?_
            refine x_ialdN C dX5_suspect_41 ia_Mhig (by decide) (by omega) ?_
            refine q_top (show Value.int _ = Value.int _ from congrArg Value.int ((congrFun (hIB 194 (by decide)) b').trans hh0)) ?_
            refine q_icmpgeN C (tgt := 188) dX5_suspect_42 (by decide) (by omega) (by omega) (fun c42 => ?_) (fun c42 => ?_)
            · exact absurd c42 (by omega)
            · refine q_iload C dX5_suspect_45 rfl ?_
              refine q_ifeq C (tgt := 188) dX5_suspect_47 (by decide) (fun c47 => ?_) (fun c47 => ?_)
              · exact absurd c47 (by decide)
              · refine q_iconst C (v := nI 0) dX5_suspect_50 (by decide) ?_
                refine q_istore C dX5_suspect_51 (by decide) rfl ?_
                rw [show (kb_sls (kb_sus (kb_tn (X 193 b')) (kb_tn (X 194 b')) (kb_mtd X b') (kb_mmu X b')) (kb_tn (X 193 b')) r) = ((kb_sls (kb_sus (kb_tn (X 193 b')) (kb_tn (X 194 b')) (kb_mtd X b') (kb_mmu X b')) (kb_tn (X 193 b')) r) ++ (kb_slR (kb_sus (kb_tn (X 193 b')) (kb_tn (X 194 b')) (kb_mtd X b') (kb_mmu X b')) r 0)) from by rw [kb_slR, List.append_nil]]
                refine q_mask [true, true, true, true, true, true, true, true, false, false] (q_for (σ := Unit) (k0 := 0) (kb_kn (kb_tn (X 193 b')) r) (fun k _ X' Y' => Y = Y' ∧ ∀ q, q ≠ 200 → X' q = kb_thr X (nI 0) q) (fun k _ => [some (.ref (E.2.2.2 188)), some (.int (nI b')), some (.int i), some (.int (kb_fnd ((kb_sls (kb_sus (kb_tn (X 193 b')) (kb_tn (X 194 b')) (kb_mtd X b') (kb_mmu X b')) (kb_tn (X 193 b')) r) ++ (kb_slR (kb_sus (kb_tn (X 193 b')) (kb_tn (X 194 b')) (kb_mtd X b') (kb_mmu X b')) r k)) i)), some (.int (nI ((kb_sls (kb_sus (kb_tn (X 193 b')) (kb_tn (X 194 b')) (kb_mtd X b') (kb_mmu X b')) (kb_tn (X 193 b')) r) ++ (kb_slR (kb_sus (kb_tn (X 193 b')) (kb_tn (X 194 b')) (kb_mtd X b') (kb_mmu X b')) r k)).length)), some (.int (nI 1)), some (.int (nI r)), some (.int (nI k)), none, none]) (Nat.zero_le _) () (⟨rfl, hIB⟩) ?_ ?_)
                · intro k2 aC XC YC hk_k2 hk0_k2 hI_k2 ih_k2
                  obtain ⟨rfl, hIC⟩ := hI_k2
                  have htk := (htd0 r (by omega) k2 (by omega)).2
                  have ecs : XC 195 (48 * b' + 3 * r + k2) = nI ((kb_mtd X b') r k2) := (congrFun (hIC 195 (by decide)) _).trans (htd0 r (by omega) k2 (by omega)).1
                  have hslk := kb_slR_len (kb_sus (kb_tn (X 193 b')) (kb_tn (X 194 b')) (kb_mtd X b') (kb_mmu X b')) r k2
                  have hll : ((kb_sls (kb_sus (kb_tn (X 193 b')) (kb_tn (X 194 b')) (kb_mtd X b') (kb_mmu X b')) (kb_tn (X 193 b')) r) ++ (kb_slR (kb_sus (kb_tn (X 193 b')) (kb_tn (X 194 b')) (kb_mtd X b') (kb_mmu X b')) r k2)).length < 2 ^ 31 := by rw [List.length_append]; omega
                  refine q_iload C dX5_suspect_53 rfl ?_
                  refine q_aload_n C dX5_suspect_55 rfl ?_
                  refine x_getR C (ci := 5) (k := 7) (C0 := RX5) (T := TX5) (NF := 15) (ref := RX5) (host := RX4) dX5_suspect_56 fr_Mwid rfl iX5_suspect_X5 (by decide) (List.mem_of_getElem? (i := 2) rfl) rfl ?_
                  refine q_iload_n C dX5_suspect_59 rfl ?_
                  refine x_ialdN C dX5_suspect_60 ia_Mwid (by decide) (by omega) ?_
                  refine q_top (show Value.int _ = Value.int _ from congrArg Value.int ((congrFun (hIC 193 (by decide)) b').trans hw0)) ?_
                  refine q_iload C dX5_suspect_61 rfl ?_
                  refine q_callS (As := [_, _]) (nA := 2) C dX5_suspect_63 (m_mknots _ _ _ _ _) gX5_suspect_X5_knots rfl (by decide +kernel) rfl ⟨Nat.le_of_ble_eq_true rfl, Nat.le_of_ble_eq_true rfl⟩ (Nat.le_of_ble_eq_true rfl) ⟨Nat.le_of_ble_eq_true rfl, Nat.le_of_ble_eq_true rfl⟩ (fun v63 g63 h63 => ?_)
                  obtain ⟨rfl, rfl⟩ := h63
                  refine q_top (show Value.int _ = Value.int _ from congrArg Value.int (nv_mknots _ (by omega) r (by omega) (by omega))) ?_
                  refine q_icmpgeN C (tgt := 182) dX5_suspect_66 (by decide) (by omega) (by omega) (fun c66 => ?_) (fun c66 => ?_)
                  · exact absurd c66 (by omega)
                  · refine q_aload_n C dX5_suspect_69 rfl ?_
                    refine x_getR C (ci := 5) (k := 9) (C0 := RX5) (T := TX5) (NF := 15) (ref := RX5) (host := RX4) dX5_suspect_70 fr_Msee rfl iX5_suspect_X5 (by decide) (List.mem_of_getElem? (i := 3) rfl) rfl ?_
                    refine q_bipush C (v := nI 48) dX5_suspect_73 (by decide) ?_
                    refine q_iload_n C dX5_suspect_75 rfl ?_
                    refine q_imulN C dX5_suspect_76 ?_
                    refine q_iconst C (v := nI 3) dX5_suspect_77 (by decide) ?_
                    refine q_iload C dX5_suspect_78 rfl ?_
                    refine q_imulN C dX5_suspect_80 ?_
                    refine q_iaddN C dX5_suspect_81 ?_
                    refine q_iload C dX5_suspect_82 rfl ?_
                    refine q_iaddN C dX5_suspect_84 ?_
                    refine x_ialdN C dX5_suspect_85 ia_Msee (by decide) (by omega) ?_
                    refine q_top (show Value.int _ = Value.int _ from congrArg Value.int (ecs)) ?_
                    refine q_istore C dX5_suspect_86 (by decide) rfl ?_
                    refine q_iload C dX5_suspect_88 rfl ?_
                    refine q_iconst C (v := nI 4) dX5_suspect_90 (by decide) ?_
                    refine q_icmpneN C (tgt := 97) dX5_suspect_91 (by decide) (by omega) (by omega) (fun c91 => ?_) (fun c91 => ?_)
                    · refine q_aload_n C dX5_suspect_97 rfl ?_
                      refine x_getR C (ci := 5) (k := 9) (C0 := RX5) (T := TX5) (NF := 15) (ref := RX5) (host := RX4) dX5_suspect_98 fr_Msee rfl iX5_suspect_X5 (by decide) (List.mem_of_getElem? (i := 3) rfl) rfl ?_
                      refine q_bipush C (v := nI 48) dX5_suspect_101 (by decide) ?_
                      refine q_iload_n C dX5_suspect_103 rfl ?_
                      refine q_imulN C dX5_suspect_104 ?_
                      refine q_iconst C (v := nI 3) dX5_suspect_105 (by decide) ?_
                      refine q_iload C dX5_suspect_106 rfl ?_
                      refine q_imulN C dX5_suspect_108 ?_
                      refine q_iaddN C dX5_suspect_109 ?_
                      refine q_iload C dX5_suspect_110 rfl ?_
                      refine q_iaddN C dX5_suspect_112 ?_
                      refine q_iconst C (v := nI 4) dX5_suspect_113 (by decide) ?_
                      refine x_iastN C dX5_suspect_114 ia_Msee (by decide) (by omega) ?_
                      refine q_aload_n C dX5_suspect_115 rfl ?_
                      refine q_iload_n C dX5_suspect_116 rfl ?_
                      refine x_callV (As := [_]) (nA := 1) (T := TX5) (NF := 15) C dX5_suspect_117 ob_M rfl (m_first _ _ (va_up XC 195 (upd (XC 195) (48 * b' + 3 * r + k2) (nI 4))) Y b' (kb_tn (X 193 b')) (kb_tn (X 194 b')) hb8 hn6 hn2 hh1 hh16 ((congrFun (kb_up_ne (by decide)) b').trans ((congrFun (hIC 193 (by decide)) b').trans hw0)) ((congrFun (kb_up_ne (by decide)) b').trans ((congrFun (hIC 194 (by decide)) b').trans hh0)) (kb_unt (kb_mtd X b') r k2) (kb_unt_ok hIC htd0 (by omega)) (kb_mmu X b') (by rw [kb_up_ne (by decide), hIC 196 (by decide)]; exact hmu0)) gX5_suspect_X5_first rfl (by decide +kernel) rfl ⟨Nat.le_of_ble_eq_true rfl, Nat.le_of_ble_eq_true rfl⟩ (Nat.le_of_ble_eq_true rfl) ⟨Nat.le_of_ble_eq_true rfl, Nat.le_of_ble_eq_true rfl⟩ (fun v117 g117 h117 => ?_)
                      obtain ⟨r117, rfl, hr117, X2, rfl, hl2⟩ := h117
                      rcases hr117 with ⟨s2, hs20, hs21, hs22, rfl⟩ | ⟨hno2, rfl⟩
                      · have hs29 : s2 < 4096 := by omega
                        refine q_iconst C (v := -1) dX5_suspect_120 (by decide) ?_
                        refine q_icmpeq C (tgt := 128) dX5_suspect_121 (by decide) (fun c121 => ?_) (fun c121 => ?_)
                        · exact absurd c121 (kb_nI_ne (by omega))
                        · refine q_iconst C (v := nI 1) dX5_suspect_124 (by decide) ?_
                          refine q_goto C (tgt := 129) dX5_suspect_125 (by decide) ?_
                          refine q_istore C dX5_suspect_129 (by decide) rfl ?_
                          refine q_aload_n C dX5_suspect_131 rfl ?_
                          refine x_getR C (ci := 5) (k := 9) (C0 := RX5) (T := TX5) (NF := 15) (ref := RX5) (host := RX4) dX5_suspect_132 fr_Msee rfl iX5_suspect_X5 (by decide) (List.mem_of_getElem? (i := 3) rfl) rfl ?_
                          refine q_bipush C (v := nI 48) dX5_suspect_135 (by decide) ?_
                          refine q_iload_n C dX5_suspect_137 rfl ?_
                          refine q_imulN C dX5_suspect_138 ?_
                          refine q_iconst C (v := nI 3) dX5_suspect_139 (by decide) ?_
                          refine q_iload C dX5_suspect_140 rfl ?_
                          refine q_imulN C dX5_suspect_142 ?_
                          refine q_iaddN C dX5_suspect_143 ?_
                          refine q_iload C dX5_suspect_144 rfl ?_
                          refine q_iaddN C dX5_suspect_146 ?_
                          refine q_iload C dX5_suspect_147 rfl ?_
                          refine x_iastN C dX5_suspect_149 ia_Msee (by decide) (by omega) ?_
                          refine q_iload C dX5_suspect_150 rfl ?_
                          refine q_ifne C (tgt := 158) dX5_suspect_152 (by decide) (fun c152 => ?_) (fun c152 => ?_)
                          · refine q_iload C dX5_suspect_158 rfl ?_
                            refine q_iload_n C dX5_suspect_160 rfl ?_
                            refine q_icmpne C (tgt := 173) dX5_suspect_161 (by decide) (fun c161 => ?_) (fun c161 => ?_)
                            · refine q_iinc1 C dX5_suspect_173 rfl (by decide) rfl ?_
                              refine q_iinc1 C dX5_suspect_176 rfl (by decide) rfl ?_
                              refine q_goto C (tgt := 53) dX5_suspect_179 (by decide) ?_
                              have ih9 := ih_k2 () (va_up X2 195 (upd (X2 195) (48 * b' + 3 * r + k2) (nI ((kb_mtd X b') r k2)))) Y ⟨rfl, fun q hq => by
                                by_cases e : q = 195
                                · subst e
                                  rw [kb_up_self, hl2.1 195 (by decide), kb_up_self, kb_upd_back _ ecs]
                                  exact hIC 195 (by decide)
                                · rw [kb_up_ne e, hl2.1 q hq, kb_up_ne e]
                                  exact hIC q hq⟩
                              have es : ((kb_sls (kb_sus (kb_tn (X 193 b')) (kb_tn (X 194 b')) (kb_mtd X b') (kb_mmu X b')) (kb_tn (X 193 b')) r) ++ (kb_slR (kb_sus (kb_tn (X 193 b')) (kb_tn (X 194 b')) (kb_mtd X b') (kb_mmu X b')) r (k2 + 1))) = ((kb_sls (kb_sus (kb_tn (X 193 b')) (kb_tn (X 194 b')) (kb_mtd X b') (kb_mmu X b')) (kb_tn (X 193 b')) r) ++ (kb_slR (kb_sus (kb_tn (X 193 b')) (kb_tn (X 194 b')) (kb_mtd X b') (kb_mmu X b')) r k2)) ++ [8 * r + k2] := by rw [kb_slR, kb_b_t (show kb_sus _ _ _ _ r k2 from ⟨c91, s2, hs20, hs21⟩)]; simp
                              have el : (((kb_sls (kb_sus (kb_tn (X 193 b')) (kb_tn (X 194 b')) (kb_mtd X b') (kb_mmu X b')) (kb_tn (X 193 b')) r) ++ (kb_slR (kb_sus (kb_tn (X 193 b')) (kb_tn (X 194 b')) (kb_mtd X b') (kb_mmu X b')) r k2)) ++ [8 * r + k2]).length = ((kb_sls (kb_sus (kb_tn (X 193 b')) (kb_tn (X 194 b')) (kb_mtd X b') (kb_mmu X b')) (kb_tn (X 193 b')) r) ++ (kb_slR (kb_sus (kb_tn (X 193 b')) (kb_tn (X 194 b')) (kb_mtd X b') (kb_mmu X b')) r k2)).length + 1 := by rw [List.length_append (as := ((kb_sls (kb_sus (kb_tn (X 193 b')) (kb_tn (X 194 b')) (kb_mtd X b') (kb_mmu X b')) (kb_tn (X 193 b')) r) ++ (kb_slR (kb_sus (kb_tn (X 193 b')) (kb_tn (X 194 b')) (kb_mtd X b') (kb_mmu X b')) r k2)))]; rfl
                              rw [es, kb_fnd_add hll, el] at ih9
                              first
                              | (rw [if_pos c161] at ih9
                                 exact q_mask [true, true, true, true, true, true, true, true, false, false] ih9)
                              | (rw [if_neg c161] at ih9
                                 exact q_mask [true, true, true, true, true, true, true, true, false, false] ih9)
                            · refine q_bipush C (v := nI 8) dX5_suspect_164 (by decide) ?_
                              refine q_iload C dX5_suspect_166 rfl ?_
                              refine q_imulN C dX5_suspect_168 ?_
                              refine q_iload C dX5_suspect_169 rfl ?_
                              refine q_iaddN C dX5_suspect_171 ?_
                              refine q_istore_n C dX5_suspect_172 (by decide) rfl ?_
                              refine q_iinc1 C dX5_suspect_173 rfl (by decide) rfl ?_
                              refine q_iinc1 C dX5_suspect_176 rfl (by decide) rfl ?_
                              refine q_goto C (tgt := 53) dX5_suspect_179 (by decide) ?_
                              have ih9 := ih_k2 () (va_up X2 195 (upd (X2 195) (48 * b' + 3 * r + k2) (nI ((kb_mtd X b') r k2)))) Y ⟨rfl, fun q hq => by
                                by_cases e : q = 195
                                · subst e
                                  rw [kb_up_self, hl2.1 195 (by decide), kb_up_self, kb_upd_back _ ecs]
                                  exact hIC 195 (by decide)
                                · rw [kb_up_ne e, hl2.1 q hq, kb_up_ne e]
                                  exact hIC q hq⟩
                              have es : ((kb_sls (kb_sus (kb_tn (X 193 b')) (kb_tn (X 194 b')) (kb_mtd X b') (kb_mmu X b')) (kb_tn (X 193 b')) r) ++ (kb_slR (kb_sus (kb_tn (X 193 b')) (kb_tn (X 194 b')) (kb_mtd X b') (kb_mmu X b')) r (k2 + 1))) = ((kb_sls (kb_sus (kb_tn (X 193 b')) (kb_tn (X 194 b')) (kb_mtd X b') (kb_mmu X b')) (kb_tn (X 193 b')) r) ++ (kb_slR (kb_sus (kb_tn (X 193 b')) (kb_tn (X 194 b')) (kb_mtd X b') (kb_mmu X b')) r k2)) ++ [8 * r + k2] := by rw [kb_slR, kb_b_t (show kb_sus _ _ _ _ r k2 from ⟨c91, s2, hs20, hs21⟩)]; simp
                              have el : (((kb_sls (kb_sus (kb_tn (X 193 b')) (kb_tn (X 194 b')) (kb_mtd X b') (kb_mmu X b')) (kb_tn (X 193 b')) r) ++ (kb_slR (kb_sus (kb_tn (X 193 b')) (kb_tn (X 194 b')) (kb_mtd X b') (kb_mmu X b')) r k2)) ++ [8 * r + k2]).length = ((kb_sls (kb_sus (kb_tn (X 193 b')) (kb_tn (X 194 b')) (kb_mtd X b') (kb_mmu X b')) (kb_tn (X 193 b')) r) ++ (kb_slR (kb_sus (kb_tn (X 193 b')) (kb_tn (X 194 b')) (kb_mtd X b') (kb_mmu X b')) r k2)).length + 1 := by rw [List.length_append (as := ((kb_sls (kb_sus (kb_tn (X 193 b')) (kb_tn (X 194 b')) (kb_mtd X b') (kb_mmu X b')) (kb_tn (X 193 b')) r) ++ (kb_slR (kb_sus (kb_tn (X 193 b')) (kb_tn (X 194 b')) (kb_mtd X b') (kb_mmu X b')) r k2)))]; rfl
                              rw [es, kb_fnd_add hll, el] at ih9
                              first
                              | (rw [if_pos c161] at ih9
                                 exact q_mask [true, true, true, true, true, true, true, true, false, false] ih9)
                              | (rw [if_neg c161] at ih9
                                 exact q_mask [true, true, true, true, true, true, true, true, false, false] ih9)
                          · exact absurd c152 (by decide)
                      · refine q_iconst C (v := -1) dX5_suspect_120 (by decide) ?_
                        refine q_icmpeq C (tgt := 128) dX5_suspect_121 (by decide) (fun c121 => ?_) (fun c121 => ?_)
                        · refine q_iconst C (v := nI 0) dX5_suspect_128 (by decide) ?_
                          refine q_istore C dX5_suspect_129 (by decide) rfl ?_
                          refine q_aload_n C dX5_suspect_131 rfl ?_
                          refine x_getR C (ci := 5) (k := 9) (C0 := RX5) (T := TX5) (NF := 15) (ref := RX5) (host := RX4) dX5_suspect_132 fr_Msee rfl iX5_suspect_X5 (by decide) (List.mem_of_getElem? (i := 3) rfl) rfl ?_
                          refine q_bipush C (v := nI 48) dX5_suspect_135 (by decide) ?_
                          refine q_iload_n C dX5_suspect_137 rfl ?_
                          refine q_imulN C dX5_suspect_138 ?_
                          refine q_iconst C (v := nI 3) dX5_suspect_139 (by decide) ?_
                          refine q_iload C dX5_suspect_140 rfl ?_
                          refine q_imulN C dX5_suspect_142 ?_
                          refine q_iaddN C dX5_suspect_143 ?_
                          refine q_iload C dX5_suspect_144 rfl ?_
                          refine q_iaddN C dX5_suspect_146 ?_
                          refine q_iload C dX5_suspect_147 rfl ?_
                          refine x_iastN C dX5_suspect_149 ia_Msee (by decide) (by omega) ?_
                          refine q_iload C dX5_suspect_150 rfl ?_
                          refine q_ifne C (tgt := 158) dX5_suspect_152 (by decide) (fun c152 => ?_) (fun c152 => ?_)
                          · exact absurd (show nI 0 = 0 by decide) c152
                          · refine q_goto C (tgt := 176) dX5_suspect_155 (by decide) ?_
                            refine q_iinc1 C dX5_suspect_176 rfl (by decide) rfl ?_
                            refine q_goto C (tgt := 53) dX5_suspect_179 (by decide) ?_
                            have ih9 := ih_k2 () (va_up X2 195 (upd (X2 195) (48 * b' + 3 * r + k2) (nI ((kb_mtd X b') r k2)))) Y ⟨rfl, fun q hq => by
                              by_cases e : q = 195
                              · subst e
                                rw [kb_up_self, hl2.1 195 (by decide), kb_up_self, kb_upd_back _ ecs]
                                exact hIC 195 (by decide)
                              · rw [kb_up_ne e, hl2.1 q hq, kb_up_ne e]
                                exact hIC q hq⟩
                            have es : ((kb_sls (kb_sus (kb_tn (X 193 b')) (kb_tn (X 194 b')) (kb_mtd X b') (kb_mmu X b')) (kb_tn (X 193 b')) r) ++ (kb_slR (kb_sus (kb_tn (X 193 b')) (kb_tn (X 194 b')) (kb_mtd X b') (kb_mmu X b')) r (k2 + 1))) = ((kb_sls (kb_sus (kb_tn (X 193 b')) (kb_tn (X 194 b')) (kb_mtd X b') (kb_mmu X b')) (kb_tn (X 193 b')) r) ++ (kb_slR (kb_sus (kb_tn (X 193 b')) (kb_tn (X 194 b')) (kb_mtd X b') (kb_mmu X b')) r k2)) := by rw [kb_slR, kb_b_f (show ¬ kb_sus _ _ _ _ r k2 from fun h => by obtain ⟨-, s, h1, h2⟩ := h; exact hno2 s h1 h2)]; simp
                            rw [es] at ih9
                            exact q_mask [true, true, true, true, true, true, true, true, false, false] ih9
                        · exact absurd rfl c121
                    · refine q_goto C (tgt := 176) dX5_suspect_94 (by decide) ?_
                      refine q_iinc1 C dX5_suspect_176 rfl (by decide) rfl ?_
                      refine q_goto C (tgt := 53) dX5_suspect_179 (by decide) ?_
                      have ih9 := ih_k2 () XC Y ⟨rfl, hIC⟩
                      have es : ((kb_sls (kb_sus (kb_tn (X 193 b')) (kb_tn (X 194 b')) (kb_mtd X b') (kb_mmu X b')) (kb_tn (X 193 b')) r) ++ (kb_slR (kb_sus (kb_tn (X 193 b')) (kb_tn (X 194 b')) (kb_mtd X b') (kb_mmu X b')) r (k2 + 1))) = ((kb_sls (kb_sus (kb_tn (X 193 b')) (kb_tn (X 194 b')) (kb_mtd X b') (kb_mmu X b')) (kb_tn (X 193 b')) r) ++ (kb_slR (kb_sus (kb_tn (X 193 b')) (kb_tn (X 194 b')) (kb_mtd X b') (kb_mmu X b')) r k2)) := by rw [kb_slR, kb_b_f (show ¬ kb_sus _ _ _ _ r k2 from fun h => h.1 c91)]; simp
                      rw [es] at ih9
                      exact q_mask [true, true, true, true, true, true, true, true, false, false] ih9
                · intro aC XC YC hI_k2
                  obtain ⟨rfl, hIC⟩ := hI_k2
                  refine q_iload C dX5_suspect_53 rfl ?_
                  refine q_aload_n C dX5_suspect_55 rfl ?_
                  refine x_getR C (ci := 5) (k := 7) (C0 := RX5) (T := TX5) (NF := 15) (ref := RX5) (host := RX4) dX5_suspect_56 fr_Mwid rfl iX5_suspect_X5 (by decide) (List.mem_of_getElem? (i := 2) rfl) rfl ?_
                  refine q_iload_n C dX5_suspect_59 rfl ?_
                  refine x_ialdN C dX5_suspect_60 ia_Mwid (by decide) (by omega) ?_
                  refine q_top (show Value.int _ = Value.int _ from congrArg Value.int ((congrFun (hIC 193 (by decide)) b').trans hw0)) ?_
                  refine q_iload C dX5_suspect_61 rfl ?_
                  refine q_callS (As := [_, _]) (nA := 2) C dX5_suspect_63 (m_mknots _ _ _ _ _) gX5_suspect_X5_knots rfl (by decide +kernel) rfl ⟨Nat.le_of_ble_eq_true rfl, Nat.le_of_ble_eq_true rfl⟩ (Nat.le_of_ble_eq_true rfl) ⟨Nat.le_of_ble_eq_true rfl, Nat.le_of_ble_eq_true rfl⟩ (fun v63 g63 h63 => ?_)
                  obtain ⟨rfl, rfl⟩ := h63
                  refine q_top (show Value.int _ = Value.int _ from congrArg Value.int (nv_mknots _ (by omega) r (by omega) (by omega))) ?_
                  refine q_icmpgeN C (tgt := 182) dX5_suspect_66 (by decide) (by omega) (by omega) (fun c66 => ?_) (fun c66 => ?_)
                  · refine q_iinc1 C dX5_suspect_182 rfl (by decide) rfl ?_
                    refine q_goto C (tgt := 34) dX5_suspect_185 (by decide) ?_
                    exact q_mask [true, true, true, true, true, true, true, false, false, false] (ih_r () _ _ ⟨rfl, hIC⟩)
                  · exact absurd c66 (by omega)
          · intro aB XB YB hI_r
            obtain ⟨rfl, hIB⟩ := hI_r
            refine q_iload C dX5_suspect_34 rfl ?_
            refine q_aload_n C dX5_suspect_36 rfl ?_
            refine x_getR C (ci := 5) (k := 8) (C0 := RX5) (T := TX5) (NF := 15) (ref := RX5) (host := RX4) dX5_suspect_37 fr_Mhig rfl iX5_suspect_X5 (by decide) (List.mem_of_getElem? (i := 1) rfl) rfl ?_
            refine q_iload_n C dX5_suspect_40 rfl ?_
            refine x_ialdN C dX5_suspect_41 ia_Mhig (by decide) (by omega) ?_
            refine q_top (show Value.int _ = Value.int _ from congrArg Value.int ((congrFun (hIB 194 (by decide)) b').trans hh0)) ?_
            refine q_icmpgeN C (tgt := 188) dX5_suspect_42 (by decide) (by omega) (by omega) (fun c42 => ?_) (fun c42 => ?_)
            · obtain ⟨XZ, hXZ⟩ : ∃ Z, Z = XB := ⟨_, rfl⟩
              have hsm : ∀ q, q ≠ 200 → XZ q = kb_thr X (nI 0) q := fun q hq => by rw [hXZ]; exact hIB q hq
              have hlen : (kb_msus X b').length < 2 ^ 31 := by rw [eL]; have := kb_sls_len (kb_sus (kb_tn (X 193 b')) (kb_tn (X 194 b')) (kb_mtd X b') (kb_mmu X b')) hn6 (kb_tn (X 194 b')); omega
              refine q_world (g' := kb_ent E XZ Y) (by rw [hXZ]) ?_
              refine q_mask [true, true, true, true, true, false, false, false, false, false] ?_
              rw [show kb_mask [true, true, true, true, true, false, false, false, false, false] _ = [some (.ref (E.2.2.2 188)), some (.int (nI b')), some (.int i), some (.int (kb_fnd (kb_msus X b') i)), some (.int (nI (kb_msus X b').length)), none, none, none, none, none] from by rw [eL]; rfl]
              refine q_aload_n C dX5_suspect_188 rfl ?_
              refine q_cut 205 (P := kb_flag (¬ i < -1 ∧ ¬ nI (kb_msus X b').length ≤ i)) (fun f205 hf205 => ?_) (fun J205 => ?_)
              · refine q_iconst C (v := nI 1) dX5_suspect_205 (by decide) ?_
                refine x_callV (As := [_, _]) (nA := 2) (T := TX5) (NF := 15) C dX5_suspect_206 ob_M rfl (m_right _ _ XZ Y ((¬ i < -1 ∧ ¬ nI (kb_msus X b').length ≤ i)) _ _ ((congrFun (hsm 188 (by decide)) 0).trans kb_thr_at) (by decide) hf205) gX5_suspect_X5_right rfl (by decide +kernel) rfl ⟨Nat.le_of_ble_eq_true rfl, Nat.le_of_ble_eq_true rfl⟩ (Nat.le_of_ble_eq_true rfl) ⟨Nat.le_of_ble_eq_true rfl, Nat.le_of_ble_eq_true rfl⟩ (fun v206 g206 h206 => ?_)
                rcases h206 with ⟨hc206, rfl, rfl⟩ | ⟨hc206, rfl, rfl⟩
                · refine q_ifne C (tgt := 214) dX5_suspect_209 (by decide) (fun c209 => ?_) (fun c209 => ?_)
                  · refine q_iload_n C dX5_suspect_214 rfl ?_
                    refine q_iconst C (v := -1) dX5_suspect_215 (by decide) ?_
                    refine q_icmpne C (tgt := 224) dX5_suspect_216 (by decide) (fun c216 => ?_) (fun c216 => ?_)
                    · refine q_iload_n C dX5_suspect_224 rfl ?_
                      exact q_iret C dX5_suspect_225 ⟨_, rfl, Or.inr (Or.inr ⟨hc2, by rw [eb]; exact hc206, by rw [eb]; first | rw [if_pos c216] | rw [if_neg c216, kb_fnd, if_pos (kb_ix hc206 c216 hlen)], _, rfl, (congrFun (hsm 188 (by decide)) 0).trans kb_thr_at, (kb_MS.thr X (nI 0)).trans ⟨fun n a _ => hsm n (by omega), hsm 201 (by decide), fun k _ => by rw [hsm 188 (by decide)]⟩⟩)⟩
                    · refine q_iload C dX5_suspect_219 rfl ?_
                      refine q_goto C (tgt := 225) dX5_suspect_221 (by decide) ?_
                      exact q_iret C dX5_suspect_225 ⟨_, rfl, Or.inr (Or.inr ⟨hc2, by rw [eb]; exact hc206, by rw [eb]; first | rw [if_pos c216] | rw [if_neg c216, kb_fnd, if_pos (kb_ix hc206 c216 hlen)], _, rfl, (congrFun (hsm 188 (by decide)) 0).trans kb_thr_at, (kb_MS.thr X (nI 0)).trans ⟨fun n a _ => hsm n (by omega), hsm 201 (by decide), fun k _ => by rw [hsm 188 (by decide)]⟩⟩)⟩
                  · exact absurd c209 (by decide)
                · refine q_ifne C (tgt := 214) dX5_suspect_209 (by decide) (fun c209 => ?_) (fun c209 => ?_)
                  · exact absurd (show nI 0 = 0 by decide) c209
                  · refine q_iconst C (v := nI 0) dX5_suspect_212 (by decide) ?_
                    exact q_iret C dX5_suspect_213 ⟨_, rfl, Or.inr (Or.inl ⟨hc2, by rw [eb]; exact hc206, _, rfl, kb_thr_at, ((kb_MS.thr X (nI 0)).trans ⟨fun n a _ => hsm n (by omega), hsm 201 (by decide), fun k _ => by rw [hsm 188 (by decide)]⟩).trans (kb_MS.thr XZ _)⟩)⟩
              refine q_iload_n C dX5_suspect_189 rfl ?_
              refine q_iconst C (v := -1) dX5_suspect_190 (by decide) ?_
              refine q_icmplt C (tgt := 204) dX5_suspect_191 (by decide) (fun c191 => ?_) (fun c191 => ?_)
              · refine q_iconst C (v := nI 0) dX5_suspect_204 (by decide) ?_
                exact J205 _ (by first | exact Or.inl ⟨rfl, c191, c197⟩ | exact Or.inr ⟨rfl, fun h => h.1 c191⟩ | exact Or.inr ⟨rfl, fun h => h.2 c197⟩)
              · refine q_iload_n C dX5_suspect_194 rfl ?_
                refine q_iload C dX5_suspect_195 rfl ?_
                refine q_icmpge C (tgt := 204) dX5_suspect_197 (by decide) (fun c197 => ?_) (fun c197 => ?_)
                · refine q_iconst C (v := nI 0) dX5_suspect_204 (by decide) ?_
                  exact J205 _ (by first | exact Or.inl ⟨rfl, c191, c197⟩ | exact Or.inr ⟨rfl, fun h => h.1 c191⟩ | exact Or.inr ⟨rfl, fun h => h.2 c197⟩)
                · refine q_iconst C (v := nI 1) dX5_suspect_200 (by decide) ?_
                  refine q_goto C (tgt := 205) dX5_suspect_201 (by decide) ?_
                  exact J205 _ (by first | exact Or.inl ⟨rfl, c191, c197⟩ | exact Or.inr ⟨rfl, fun h => h.1 c191⟩ | exact Or.inr ⟨rfl, fun h => h.2 c197⟩)
            · exact absurd c42 (by omega)
    · exact absurd c5 (by decide)
  · refine q_ifne C (tgt := 10) dX5_suspect_5 (by decide) (fun c5 => ?_) (fun c5 => ?_)
    · exact absurd (show nI 0 = 0 by decide) c5
    · refine q_iconst C (v := nI 0) dX5_suspect_8 (by decide) ?_
      exact q_iret C dX5_suspect_9 ⟨_, rfl, Or.inl ⟨hc2, rfl⟩⟩

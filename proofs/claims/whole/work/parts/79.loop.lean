/-! ===== the law's loop ===== -/
theorem kb_and31 (x : Int32) : ∃ k : Nat, k < 32 ∧ (x &&& 31).toInt = (k : Int) := by
  have h : (x &&& 31).toBitVec.toNat < 32 := by
    rw [Int32.toBitVec_and, BitVec.toNat_and]
    exact Nat.lt_of_le_of_lt Nat.and_le_right (by decide)
  refine ⟨(x &&& 31).toBitVec.toNat, h, ?_⟩
  show (x &&& 31).toBitVec.toInt = _
  exact BitVec.toInt_eq_toNat_of_lt (by omega)
theorem kb_gt5 {L i : Nat} (hL : L ≤ 2560) (hi : i ≤ 2565) (h : ¬ (nI L - nI 5 < nI i)) : i + 5 ≤ L := by
  rw [Int32.lt_iff_toInt_lt, pk_sub_toInt (by omega) (by omega), nI_toInt (by omega)] at h
  omega
section KBLP
variable {p : Program} {l : Launch} {e : Env} {s : State} {m : MethodId} {args : Array Value} {below : List Frame} {meth : Method} {c : Code} {E : kb_E} {A : Nat → Prop} {cells slots : Nat} {Q : State → Prop} {b L : Nat} {xs : Nat → Int32}
set_option maxRecDepth 100000 in
set_option maxHeartbeats 4000000 in
theorem kb_head (C : kb_C l E A cL_law 7 RL wsL_law (some .boolean) p s m args meth c) (hs : kb_scr b L xs A s) {g : Nat → va_E} {i : Nat} (hL : L ≤ 2560) (hi : i ≤ 2565) (K1 : kb_G p l e room_1 s m args below meth c E A 202 7 g cells slots Q 1347 (kb_lvL b i E) []) (K2 : i + 5 ≤ L → kb_G p l e room_1 s m args below meth c E A 202 7 g cells slots Q 39 (kb_lvL b i E) [.int (xs i &&& 31)]) : kb_G p l e room_1 s m args below meth c E A 202 7 g cells slots Q 23 (kb_lvL b i E) [] := by
  refine q_iload C dL_law_23 rfl ?_
  refine q_aload_n C dL_law_25 rfl ?_
  refine q_slen C hs dL_law_26 ?_
  refine q_iconst C (v := nI 5) dL_law_27 (by decide) ?_
  refine q_isub C dL_law_28 ?_
  refine q_icmpgt C (tgt := 1347) dL_law_29 (by decide) (fun _ => K1) (fun h => ?_)
  have h5 := kb_gt5 hL hi h
  refine q_aload_n C dL_law_32 rfl ?_
  refine q_iload C dL_law_33 rfl ?_
  refine q_sld C hs dL_law_35 (by omega) ?_
  refine q_bipush C (v := 31) dL_law_36 (by decide) ?_
  exact q_iand C dL_law_38 (K2 h5)
set_option maxRecDepth 100000 in
set_option maxHeartbeats 4000000 in
theorem kb_disp (C : kb_C l E A cL_law 7 RL wsL_law (some .boolean) p s m args meth c) (hs : kb_scr b L xs A s) {X : Nat → Nat → Int32} {Y : Nat → Nat → Int64} {i : Nat} (hi : i + 5 ≤ L) (hR : kb_REL X) (hc : cells + 4 ≤ room_1.cells ∧ slots + 24 ≤ room_1.slots) (K : ∀ X' Y', kb_REL X' → kb_G p l e room_1 s m args below meth c E A 202 7 (kb_ent E X' Y') (cells + 4) (slots + 24) Q 1341 (kb_lvL b i E) []) : kb_G p l e room_1 s m args below meth c E A 202 7 (kb_ent E X Y) cells slots Q 39 (kb_lvL b i E) [.int (xs i &&& 31)] := by
  obtain ⟨k, hk, hx⟩ := kb_and31 (xs i)
  by_cases h17 : 17 < k
  · exact q_tableOut C (tgt := 1341) dL_law_39 (Or.inr (by rw [hx]; omega)) (by decide) (q_widen (k := cells + 4) (n := slots + 24) (Nat.le_add_right _ _) (Nat.le_add_right _ _) (K X Y hR))
  have ha : ¬ (xs i &&& 31).toInt < 0 := by rw [hx]; omega
  have hb : ¬ 17 < (xs i &&& 31).toInt := by rw [hx]; omega
  have hz : ((xs i &&& 31).toInt - 0).toNat = k := by rw [hx]; omega
  rcases (show k = 0 ∨ k = 1 ∨ k = 2 ∨ k = 3 ∨ k = 4 ∨ k = 5 ∨ k = 6 ∨ k = 7 ∨ k = 8 ∨ k = 9 ∨ k = 10 ∨ k = 11 ∨ k = 12 ∨ k = 13 ∨ k = 14 ∨ k = 15 ∨ k = 16 ∨ k = 17 by omega) with rfl | rfl | rfl | rfl | rfl | rfl | rfl | rfl | rfl | rfl | rfl | rfl | rfl | rfl | rfl | rfl | rfl | rfl
  · exact q_tableIn C (off := 85) (tgt := 124) dL_law_39 ha hb (by rw [hz]; rfl) (by decide) (w_band C hs hi hR hc K)
  · exact q_tableIn C (off := 110) (tgt := 149) dL_law_39 ha hb (by rw [hz]; rfl) (by decide) (w_colour C hs hi hR hc K)
  · exact q_tableIn C (off := 190) (tgt := 229) dL_law_39 ha hb (by rw [hz]; rfl) (by decide) (w_row C hs hi hR hc K)
  · exact q_tableIn C (off := 258) (tgt := 297) dL_law_39 ha hb (by rw [hz]; rfl) (by decide) (w_knot C hs hi hR hc K)
  · exact q_tableIn C (off := 350) (tgt := 389) dL_law_39 ha hb (by rw [hz]; rfl) (by decide) (w_shows C hs hi hR hc K)
  · exact q_tableIn C (off := 430) (tgt := 469) dL_law_39 ha hb (by rw [hz]; rfl) (by decide) (w_thread C hs hi hR hc K)
  · exact q_tableIn C (off := 510) (tgt := 549) dL_law_39 ha hb (by rw [hz]; rfl) (by decide) (w_used C hs hi hR hc K)
  · exact q_tableIn C (off := 578) (tgt := 617) dL_law_39 ha hb (by rw [hz]; rfl) (by decide) (w_home C hs hi hR hc K)
  · exact q_tableIn C (off := 646) (tgt := 685) dL_law_39 ha hb (by rw [hz]; rfl) (by decide) (w_unlike C hs hi hR hc K)
  · exact q_tableIn C (off := 714) (tgt := 753) dL_law_39 ha hb (by rw [hz]; rfl) (by decide) (w_picture C hs hi hR hc K)
  · exact q_tableIn C (off := 751) (tgt := 790) dL_law_39 ha hb (by rw [hz]; rfl) (by decide) (w_see C hs hi hR hc K)
  · exact q_tableIn C (off := 843) (tgt := 882) dL_law_39 ha hb (by rw [hz]; rfl) (by decide) (w_must C hs hi hR hc K)
  · exact q_tableIn C (off := 923) (tgt := 962) dL_law_39 ha hb (by rw [hz]; rfl) (by decide) (w_copy C hs hi hR hc K)
  · exact q_tableIn C (off := 998) (tgt := 1037) dL_law_39 ha hb (by rw [hz]; rfl) (by decide) (w_starts C hs hi hR hc K)
  · exact q_tableIn C (off := 1054) (tgt := 1093) dL_law_39 ha hb (by rw [hz]; rfl) (by decide) (w_start C hs hi hR hc K)
  · exact q_tableIn C (off := 1122) (tgt := 1161) dL_law_39 ha hb (by rw [hz]; rfl) (by decide) (w_tie C hs hi hR hc K)
  · exact q_tableIn C (off := 1178) (tgt := 1217) dL_law_39 ha hb (by rw [hz]; rfl) (by decide) (w_suspect C hs hi hR hc K)
  · exact q_tableIn C (off := 1246) (tgt := 1285) dL_law_39 ha hb (by rw [hz]; rfl) (by decide) (w_count C hs hi hR hc K)
set_option maxRecDepth 100000 in
set_option maxHeartbeats 4000000 in
theorem kb_loop (C : kb_C l E A cL_law 7 RL wsL_law (some .boolean) p s m args meth c) (hs : kb_scr b L xs A s) (hL : L ≤ 2560) (Kend : ∀ X Y i cells slots, cells ≤ 601024 → slots ≤ 7293034 → kb_G p l e room_1 s m args below meth c E A 202 7 (kb_ent E X Y) cells slots Q 1347 (kb_lvL b i E) []) : ∀ (n i cells slots : Nat) (X : Nat → Nat → Int32) (Y : Nat → Nat → Int64), L ≤ i + 5 * n + 4 → i ≤ 2565 → kb_REL X → cells + 4 * n ≤ 601024 → slots + 24 * n ≤ 7293034 → kb_G p l e room_1 s m args below meth c E A 202 7 (kb_ent E X Y) cells slots Q 23 (kb_lvL b i E) [] := by
  intro n
  induction n with
  | zero =>
    intro i cells slots X Y h1 h2 hR h3 h4
    exact kb_head C hs hL h2 (Kend X Y i cells slots (by omega) (by omega)) (fun h => absurd h (by omega))
  | succ n ih =>
    intro i cells slots X Y h1 h2 hR h3 h4
    refine kb_head C hs hL h2 (Kend X Y i cells slots (by omega) (by omega)) (fun h => ?_)
    refine kb_disp C hs h hR ⟨by show cells + 4 ≤ 601024; omega, by show slots + 24 ≤ 7293034; omega⟩ (fun X' Y' hR' => ?_)
    refine q_iinc C dL_law_1341 rfl (by decide) rfl ?_
    refine q_goto C (tgt := 23) dL_law_1344 (by decide) ?_
    rw [show nI i + Int32.ofInt 5 = nI (i + 5) from nI_add i 5]
    exact ih (i + 5) (cells + 4) (slots + 24) X' Y' (by omega) (by omega) hR' (by omega) (by omega)
end KBLP
theorem kb_REL0 : kb_REL kb_Z0 := by
  have h0 : kb_tn 0 = 0 := by decide
  have hle : ∀ n, kb_le (0 : Int32) n := fun n => by unfold kb_le; exact ⟨by decide, by rw [h0]; omega⟩
  refine ⟨⟨⟨hle 8, hle 8⟩, fun b hb => ?_, fun q _ => hle 3, fun q _ => hle 3, fun b hb => ?_, fun q _ => hle 4, fun q _ => hle 4⟩, ⟨rfl, rfl⟩, fun b _ => ⟨rfl, rfl, fun _ _ => rfl, fun hb => ?_, fun _ => rfl⟩, fun q _ => ⟨rfl, rfl, fun hq => ?_, fun _ => rfl⟩⟩
  · exact absurd (show b < kb_tn 0 from hb) (by rw [h0]; omega)
  · exact absurd (show b < kb_tn 0 from hb) (by rw [h0]; omega)
  · exact absurd (show b < kb_tn 0 from hb) (by rw [h0]; omega)
  · exact absurd (show q < kb_tn 0 from hq) (by rw [h0]; omega)

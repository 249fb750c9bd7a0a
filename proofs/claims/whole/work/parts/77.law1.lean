/-! ===== the law's body: the calls one by one ===== -/
section KBL
variable {p : Program} {l : Launch} {e : Env} {s : State} {m : MethodId} {args : Array Value} {below : List Frame} {meth : Method} {c : Code} {E : kb_E} {A : Nat → Prop} {cells slots : Nat} {Q : State → Prop} {b L : Nat} {xs : Nat → Int32}
set_option maxRecDepth 100000 in
set_option maxHeartbeats 4000000 in
theorem w_band (C : kb_C l E A cL_law 7 RL wsL_law (some .boolean) p s m args meth c) (hs : kb_scr b L xs A s) {X : Nat → Nat → Int32} {Y : Nat → Nat → Int64} {i : Nat} (hi : i + 5 ≤ L) (hR : kb_REL X) (hc : cells + 4 ≤ room_1.cells ∧ slots + 24 ≤ room_1.slots) (K : ∀ X' Y', kb_REL X' → kb_G p l e room_1 s m args below meth c E A 202 7 (kb_ent E X' Y') (cells + 4) (slots + 24) Q 1341 (kb_lvL b i E) []) : kb_G p l e room_1 s m args below meth c E A 202 7 (kb_ent E X Y) cells slots Q 124 (kb_lvL b i E) [] := by
  unfold kb_lvL
  refine q_aload_n C dL_law_124 rfl ?_
  refine x_arg C hs (i := i) (j := 1) (by omega) dL_law_125 dL_law_126 dL_law_128 (by decide) dL_law_129 dL_law_130 rfl rfl ?_
  refine x_callV (As := [_]) (nA := 1) (T := TX4) (NF := 5) C dL_law_131 ob_K rfl (m_band l E X Y (xs (i + 1)) hR.cb.1) gL_law_X4_band rfl (by decide +kernel) rfl ⟨Nat.le_of_ble_eq_true rfl, Nat.le_of_ble_eq_true rfl⟩ (Nat.le_of_ble_eq_true rfl) ⟨Nat.le_trans (Nat.add_le_add_left (show 0 ≤ 4 by decide) cells) hc.1, Nat.le_trans (Nat.add_le_add_left (show 0 ≤ 24 by decide) slots) hc.2⟩ (fun v1 g1 h1 => ?_)
  have h1 : ∃ r X1, v1 = some (.int r) ∧ g1 = kb_ent E X1 Y ∧ ((kb_noBc X (xs (i + 1)) ∧ r = -1 ∧ X1 = X) ∨ (¬ kb_noBc X (xs (i + 1)) ∧ r = nI (kb_tn (X 0 3)) ∧ X1 = kb_cband X (xs (i + 1)))) := by
    rcases h1 with ⟨a, rfl, rfl⟩ | ⟨a, rfl, rfl⟩
    · exact ⟨_, _, rfl, rfl, Or.inl ⟨a, rfl, rfl⟩⟩
    · exact ⟨_, _, rfl, rfl, Or.inr ⟨a, rfl, rfl⟩⟩
  obtain ⟨r, X1, rfl, rfl, hP⟩ := h1
  have hX : kb_MU X X1 := fun z hz => by
    have h8 := hR.cb.1.2
    have h9 := kb_not_noB (X := X) (n := xs (i + 1))
    rcases hP with ⟨-, -, h⟩ | ⟨a, -, h⟩
    · rw [h]
    · have := (h9 a hR.cb.1).1
      rw [h]
      unfold kb_cband
      rw [kb_up_ne (by omega), kb_up_ne (by omega)]
  refine q_aload_n C dL_law_134 rfl ?_
  refine x_arg C hs (i := i) (j := 1) (by omega) dL_law_135 dL_law_136 dL_law_138 (by decide) dL_law_139 dL_law_140 rfl rfl ?_
  refine x_callV (As := [_]) (nA := 1) (T := TX5) (NF := 15) C dL_law_141 ob_M rfl (m_mband l E X1 Y (xs (i + 1)) (hX.mi hR.1)) gL_law_X5_band rfl (by decide +kernel) rfl ⟨Nat.le_of_ble_eq_true rfl, Nat.le_of_ble_eq_true rfl⟩ (Nat.le_of_ble_eq_true rfl) ⟨Nat.le_trans (Nat.add_le_add_left (show 0 ≤ 4 by decide) cells) hc.1, Nat.le_trans (Nat.add_le_add_left (show 0 ≤ 24 by decide) slots) hc.2⟩ (fun v2 g2 h2 => ?_)
  have h2 : ∃ v X2, v2 = some (.int v) ∧ g2 = kb_ent E X2 Y ∧ ((kb_noB X1 (xs (i + 1)) ∧ v = -1 ∧ X2 = kb_thr X1 (nI 0)) ∨ (¬ kb_noB X1 (xs (i + 1)) ∧ v = nI (kb_tn (X1 188 1)) ∧ X2 = kb_mband (kb_thr X1 (nI 0)) (xs (i + 1)))) := by
    rcases h2 with ⟨a, rfl, rfl⟩ | ⟨a, rfl, rfl⟩
    · exact ⟨_, _, rfl, rfl, Or.inl ⟨a, rfl, rfl⟩⟩
    · exact ⟨_, _, rfl, rfl, Or.inr ⟨a, rfl, rfl⟩⟩
  obtain ⟨v, X2, rfl, rfl, hm⟩ := h2
  obtain ⟨rfl, hR2⟩ := kb_s_band hR hP hm
  exact q_icmpeq C (tgt := 1341) dL_law_144 (by decide) (fun _ => q_widen (k := cells + 4) (n := slots + 24) (Nat.le_add_right _ _) (Nat.le_add_right _ _) (K X2 Y hR2)) (fun h => absurd rfl h)
set_option maxRecDepth 100000 in
set_option maxHeartbeats 4000000 in
theorem w_colour (C : kb_C l E A cL_law 7 RL wsL_law (some .boolean) p s m args meth c) (hs : kb_scr b L xs A s) {X : Nat → Nat → Int32} {Y : Nat → Nat → Int64} {i : Nat} (hi : i + 5 ≤ L) (hR : kb_REL X) (hc : cells + 4 ≤ room_1.cells ∧ slots + 24 ≤ room_1.slots) (K : ∀ X' Y', kb_REL X' → kb_G p l e room_1 s m args below meth c E A 202 7 (kb_ent E X' Y') (cells + 4) (slots + 24) Q 1341 (kb_lvL b i E) []) : kb_G p l e room_1 s m args below meth c E A 202 7 (kb_ent E X Y) cells slots Q 149 (kb_lvL b i E) [] := by
  unfold kb_lvL
  refine q_aload_n C dL_law_149 rfl ?_
  refine x_arg C hs (i := i) (j := 1) (by omega) dL_law_150 dL_law_151 dL_law_153 (by decide) dL_law_154 dL_law_155 rfl rfl ?_
  refine x_arg C hs (i := i) (j := 2) (by omega) dL_law_156 dL_law_157 dL_law_159 (by decide) dL_law_160 dL_law_161 rfl rfl ?_
  refine x_arg C hs (i := i) (j := 3) (by omega) dL_law_162 dL_law_163 dL_law_165 (by decide) dL_law_166 dL_law_167 rfl rfl ?_
  refine q_aload_n C dL_law_168 rfl ?_
  refine q_callSW (As := [_, _, _, _, _]) (nA := 5) C dL_law_169 (h_colour l E X Y (xs (i + 1)) (xs (i + 2)) (xs (i + 3)) hR) gL_law_L_colour rfl (by decide +kernel) rfl ⟨Nat.le_of_ble_eq_true rfl, Nat.le_of_ble_eq_true rfl⟩ (Nat.le_of_ble_eq_true rfl) ⟨Nat.le_trans (Nat.add_le_add_left (show 3 ≤ 4 by decide) cells) hc.1, Nat.le_trans (Nat.add_le_add_left (show 18 ≤ 24 by decide) slots) hc.2⟩ (fun v1 g1 h1 => ?_)
  obtain ⟨k, r, X1, Y1, rfl, hk, hP, hY, rfl⟩ := h1
  have hX := kb_u_colour hR hP
  refine q_istore C dL_law_172 (by decide) rfl ?_
  refine q_aload_n C dL_law_174 rfl ?_
  refine x_arg C hs (i := i) (j := 1) (by omega) dL_law_175 dL_law_176 dL_law_178 (by decide) dL_law_179 dL_law_180 rfl rfl ?_
  refine x_arg C hs (i := i) (j := 2) (by omega) dL_law_181 dL_law_182 dL_law_184 (by decide) dL_law_185 dL_law_186 rfl rfl ?_
  refine x_arg C hs (i := i) (j := 3) (by omega) dL_law_187 dL_law_188 dL_law_190 (by decide) dL_law_191 dL_law_192 rfl rfl ?_
  refine x_callV (As := [_, _, _]) (nA := 3) (T := TX5) (NF := 15) C dL_law_193 ob_M rfl (m_mcolour l E X1 Y1 (xs (i + 1)) (xs (i + 2)) (xs (i + 3)) (hX.mi hR.1)) gL_law_X5_colour rfl (by decide +kernel) rfl ⟨Nat.le_of_ble_eq_true rfl, Nat.le_of_ble_eq_true rfl⟩ (Nat.le_of_ble_eq_true rfl) ⟨Nat.le_trans (Nat.add_le_add_left (show 3 ≤ 4 by decide) cells) hc.1, Nat.le_trans (Nat.add_le_add_left (show 18 ≤ 24 by decide) slots) hc.2⟩ (fun v2 g2 h2 => ?_)
  obtain ⟨v, X2, rfl, hm, rfl⟩ := kb_out.om h2
  obtain ⟨s1, s2, s3⟩ := kb_s_colour hR hP hX hm
  exact kb_tail (pc := 196) C hk s1 s2 hY ⟨Nat.le_trans (Nat.add_le_add_left (show 3 ≤ 4 by decide) cells) hc.1, Nat.le_trans (Nat.add_le_add_left (show 18 ≤ 24 by decide) slots) hc.2⟩ dL_law_196 dL_law_198 dL_law_199 dL_law_202 dL_law_204 (by decide) dL_law_209 dL_law_211 (by decide) dL_law_214 dL_law_215 dL_law_216 dL_law_217 dL_law_219 dL_law_220 dL_law_221 (by decide) dL_law_226 (by decide) (q_widen (k := cells + 4) (n := slots + 24) (Nat.add_le_add_left (show 3 ≤ 4 by decide) cells) (Nat.add_le_add_left (show 18 ≤ 24 by decide) slots) (K X2 Y1 s3))
set_option maxRecDepth 100000 in
set_option maxHeartbeats 4000000 in
theorem w_row (C : kb_C l E A cL_law 7 RL wsL_law (some .boolean) p s m args meth c) (hs : kb_scr b L xs A s) {X : Nat → Nat → Int32} {Y : Nat → Nat → Int64} {i : Nat} (hi : i + 5 ≤ L) (hR : kb_REL X) (hc : cells + 4 ≤ room_1.cells ∧ slots + 24 ≤ room_1.slots) (K : ∀ X' Y', kb_REL X' → kb_G p l e room_1 s m args below meth c E A 202 7 (kb_ent E X' Y') (cells + 4) (slots + 24) Q 1341 (kb_lvL b i E) []) : kb_G p l e room_1 s m args below meth c E A 202 7 (kb_ent E X Y) cells slots Q 229 (kb_lvL b i E) [] := by
  unfold kb_lvL
  refine q_aload_n C dL_law_229 rfl ?_
  refine x_arg C hs (i := i) (j := 1) (by omega) dL_law_230 dL_law_231 dL_law_233 (by decide) dL_law_234 dL_law_235 rfl rfl ?_
  refine x_arg C hs (i := i) (j := 2) (by omega) dL_law_236 dL_law_237 dL_law_239 (by decide) dL_law_240 dL_law_241 rfl rfl ?_
  refine q_aload_n C dL_law_242 rfl ?_
  refine q_callSW (As := [_, _, _, _]) (nA := 4) C dL_law_243 (h_row l E X Y (xs (i + 1)) (xs (i + 2)) hR) gL_law_L_row rfl (by decide +kernel) rfl ⟨Nat.le_of_ble_eq_true rfl, Nat.le_of_ble_eq_true rfl⟩ (Nat.le_of_ble_eq_true rfl) ⟨Nat.le_trans (Nat.add_le_add_left (show 1 ≤ 4 by decide) cells) hc.1, Nat.le_trans (Nat.add_le_add_left (show 6 ≤ 24 by decide) slots) hc.2⟩ (fun v1 g1 h1 => ?_)
  obtain ⟨k, r, X1, Y1, rfl, hk, hP, hY, rfl⟩ := h1
  have hX := kb_u_row hR hP
  refine q_istore C dL_law_246 (by decide) rfl ?_
  refine q_aload_n C dL_law_248 rfl ?_
  refine x_arg C hs (i := i) (j := 1) (by omega) dL_law_249 dL_law_250 dL_law_252 (by decide) dL_law_253 dL_law_254 rfl rfl ?_
  refine x_arg C hs (i := i) (j := 2) (by omega) dL_law_255 dL_law_256 dL_law_258 (by decide) dL_law_259 dL_law_260 rfl rfl ?_
  refine x_callV (As := [_, _]) (nA := 2) (T := TX5) (NF := 15) C dL_law_261 ob_M rfl (m_mrow l E X1 Y1 (xs (i + 1)) (xs (i + 2)) (hX.mi hR.1)) gL_law_X5_row rfl (by decide +kernel) rfl ⟨Nat.le_of_ble_eq_true rfl, Nat.le_of_ble_eq_true rfl⟩ (Nat.le_of_ble_eq_true rfl) ⟨Nat.le_trans (Nat.add_le_add_left (show 1 ≤ 4 by decide) cells) hc.1, Nat.le_trans (Nat.add_le_add_left (show 6 ≤ 24 by decide) slots) hc.2⟩ (fun v2 g2 h2 => ?_)
  obtain ⟨v, X2, rfl, hm, rfl⟩ := kb_out.om h2
  obtain ⟨s1, s2, s3⟩ := kb_s_row hR hP hX hm
  exact kb_tail (pc := 264) C hk s1 s2 hY ⟨Nat.le_trans (Nat.add_le_add_left (show 1 ≤ 4 by decide) cells) hc.1, Nat.le_trans (Nat.add_le_add_left (show 6 ≤ 24 by decide) slots) hc.2⟩ dL_law_264 dL_law_266 dL_law_267 dL_law_270 dL_law_272 (by decide) dL_law_277 dL_law_279 (by decide) dL_law_282 dL_law_283 dL_law_284 dL_law_285 dL_law_287 dL_law_288 dL_law_289 (by decide) dL_law_294 (by decide) (q_widen (k := cells + 4) (n := slots + 24) (Nat.add_le_add_left (show 1 ≤ 4 by decide) cells) (Nat.add_le_add_left (show 6 ≤ 24 by decide) slots) (K X2 Y1 s3))
set_option maxRecDepth 100000 in
set_option maxHeartbeats 4000000 in
theorem w_knot (C : kb_C l E A cL_law 7 RL wsL_law (some .boolean) p s m args meth c) (hs : kb_scr b L xs A s) {X : Nat → Nat → Int32} {Y : Nat → Nat → Int64} {i : Nat} (hi : i + 5 ≤ L) (hR : kb_REL X) (hc : cells + 4 ≤ room_1.cells ∧ slots + 24 ≤ room_1.slots) (K : ∀ X' Y', kb_REL X' → kb_G p l e room_1 s m args below meth c E A 202 7 (kb_ent E X' Y') (cells + 4) (slots + 24) Q 1341 (kb_lvL b i E) []) : kb_G p l e room_1 s m args below meth c E A 202 7 (kb_ent E X Y) cells slots Q 297 (kb_lvL b i E) [] := by
  unfold kb_lvL
  refine q_aload_n C dL_law_297 rfl ?_
  refine x_arg C hs (i := i) (j := 1) (by omega) dL_law_298 dL_law_299 dL_law_301 (by decide) dL_law_302 dL_law_303 rfl rfl ?_
  refine x_arg C hs (i := i) (j := 2) (by omega) dL_law_304 dL_law_305 dL_law_307 (by decide) dL_law_308 dL_law_309 rfl rfl ?_
  refine x_arg C hs (i := i) (j := 3) (by omega) dL_law_310 dL_law_311 dL_law_313 (by decide) dL_law_314 dL_law_315 rfl rfl ?_
  refine x_arg C hs (i := i) (j := 4) (by omega) dL_law_316 dL_law_317 dL_law_319 (by decide) dL_law_320 dL_law_321 rfl rfl ?_
  refine q_aload_n C dL_law_322 rfl ?_
  refine q_callSW (As := [_, _, _, _, _, _]) (nA := 6) C dL_law_323 (h_knot l E X Y (xs (i + 1)) (xs (i + 2)) (xs (i + 3)) (xs (i + 4)) hR) gL_law_L_knot rfl (by decide +kernel) rfl ⟨Nat.le_of_ble_eq_true rfl, Nat.le_of_ble_eq_true rfl⟩ (Nat.le_of_ble_eq_true rfl) ⟨Nat.le_trans (Nat.add_le_add_left (show 4 ≤ 4 by decide) cells) hc.1, Nat.le_trans (Nat.add_le_add_left (show 24 ≤ 24 by decide) slots) hc.2⟩ (fun v1 g1 h1 => ?_)
  obtain ⟨k, r, X1, Y1, rfl, hk, hP, hY, rfl⟩ := h1
  have hX := kb_u_knot hR hP
  refine q_istore C dL_law_326 (by decide) rfl ?_
  refine q_aload_n C dL_law_328 rfl ?_
  refine x_arg C hs (i := i) (j := 1) (by omega) dL_law_329 dL_law_330 dL_law_332 (by decide) dL_law_333 dL_law_334 rfl rfl ?_
  refine x_arg C hs (i := i) (j := 2) (by omega) dL_law_335 dL_law_336 dL_law_338 (by decide) dL_law_339 dL_law_340 rfl rfl ?_
  refine x_arg C hs (i := i) (j := 3) (by omega) dL_law_341 dL_law_342 dL_law_344 (by decide) dL_law_345 dL_law_346 rfl rfl ?_
  refine x_arg C hs (i := i) (j := 4) (by omega) dL_law_347 dL_law_348 dL_law_350 (by decide) dL_law_351 dL_law_352 rfl rfl ?_
  refine x_callV (As := [_, _, _, _]) (nA := 4) (T := TX5) (NF := 15) C dL_law_353 ob_M rfl (m_mknot l E X1 Y1 (xs (i + 1)) (xs (i + 2)) (xs (i + 3)) (xs (i + 4)) (hX.mi hR.1)) gL_law_X5_knot rfl (by decide +kernel) rfl ⟨Nat.le_of_ble_eq_true rfl, Nat.le_of_ble_eq_true rfl⟩ (Nat.le_of_ble_eq_true rfl) ⟨Nat.le_trans (Nat.add_le_add_left (show 4 ≤ 4 by decide) cells) hc.1, Nat.le_trans (Nat.add_le_add_left (show 24 ≤ 24 by decide) slots) hc.2⟩ (fun v2 g2 h2 => ?_)
  obtain ⟨v, X2, rfl, hm, rfl⟩ := kb_out.om h2
  obtain ⟨s1, s2, s3⟩ := kb_s_knot hR hP hX hm
  exact kb_tail (pc := 356) C hk s1 s2 hY ⟨Nat.le_trans (Nat.add_le_add_left (show 4 ≤ 4 by decide) cells) hc.1, Nat.le_trans (Nat.add_le_add_left (show 24 ≤ 24 by decide) slots) hc.2⟩ dL_law_356 dL_law_358 dL_law_359 dL_law_362 dL_law_364 (by decide) dL_law_369 dL_law_371 (by decide) dL_law_374 dL_law_375 dL_law_376 dL_law_377 dL_law_379 dL_law_380 dL_law_381 (by decide) dL_law_386 (by decide) (q_widen (k := cells + 4) (n := slots + 24) (Nat.add_le_add_left (show 4 ≤ 4 by decide) cells) (Nat.add_le_add_left (show 24 ≤ 24 by decide) slots) (K X2 Y1 s3))
set_option maxRecDepth 100000 in
set_option maxHeartbeats 4000000 in
theorem w_shows (C : kb_C l E A cL_law 7 RL wsL_law (some .boolean) p s m args meth c) (hs : kb_scr b L xs A s) {X : Nat → Nat → Int32} {Y : Nat → Nat → Int64} {i : Nat} (hi : i + 5 ≤ L) (hR : kb_REL X) (hc : cells + 4 ≤ room_1.cells ∧ slots + 24 ≤ room_1.slots) (K : ∀ X' Y', kb_REL X' → kb_G p l e room_1 s m args below meth c E A 202 7 (kb_ent E X' Y') (cells + 4) (slots + 24) Q 1341 (kb_lvL b i E) []) : kb_G p l e room_1 s m args below meth c E A 202 7 (kb_ent E X Y) cells slots Q 389 (kb_lvL b i E) [] := by
  unfold kb_lvL
  refine q_aload_n C dL_law_389 rfl ?_
  refine x_arg C hs (i := i) (j := 1) (by omega) dL_law_390 dL_law_391 dL_law_393 (by decide) dL_law_394 dL_law_395 rfl rfl ?_
  refine x_arg C hs (i := i) (j := 2) (by omega) dL_law_396 dL_law_397 dL_law_399 (by decide) dL_law_400 dL_law_401 rfl rfl ?_
  refine x_arg C hs (i := i) (j := 3) (by omega) dL_law_402 dL_law_403 dL_law_405 (by decide) dL_law_406 dL_law_407 rfl rfl ?_
  refine q_aload_n C dL_law_408 rfl ?_
  refine q_callSW (As := [_, _, _, _, _]) (nA := 5) C dL_law_409 (h_shows l E X Y (xs (i + 1)) (xs (i + 2)) (xs (i + 3)) hR) gL_law_L_shows rfl (by decide +kernel) rfl ⟨Nat.le_of_ble_eq_true rfl, Nat.le_of_ble_eq_true rfl⟩ (Nat.le_of_ble_eq_true rfl) ⟨Nat.le_trans (Nat.add_le_add_left (show 3 ≤ 4 by decide) cells) hc.1, Nat.le_trans (Nat.add_le_add_left (show 18 ≤ 24 by decide) slots) hc.2⟩ (fun v1 g1 h1 => ?_)
  obtain ⟨k, r, X1, Y1, rfl, hk, hP, hY, rfl⟩ := h1
  have hX := kb_u_shows hR hP
  refine q_istore C dL_law_412 (by decide) rfl ?_
  refine q_aload_n C dL_law_414 rfl ?_
  refine x_arg C hs (i := i) (j := 1) (by omega) dL_law_415 dL_law_416 dL_law_418 (by decide) dL_law_419 dL_law_420 rfl rfl ?_
  refine x_arg C hs (i := i) (j := 2) (by omega) dL_law_421 dL_law_422 dL_law_424 (by decide) dL_law_425 dL_law_426 rfl rfl ?_
  refine x_arg C hs (i := i) (j := 3) (by omega) dL_law_427 dL_law_428 dL_law_430 (by decide) dL_law_431 dL_law_432 rfl rfl ?_
  refine x_callV (As := [_, _, _]) (nA := 3) (T := TX5) (NF := 15) C dL_law_433 ob_M rfl (m_mshows l E X1 Y1 (xs (i + 1)) (xs (i + 2)) (xs (i + 3)) (hX.mi hR.1)) gL_law_X5_shows rfl (by decide +kernel) rfl ⟨Nat.le_of_ble_eq_true rfl, Nat.le_of_ble_eq_true rfl⟩ (Nat.le_of_ble_eq_true rfl) ⟨Nat.le_trans (Nat.add_le_add_left (show 3 ≤ 4 by decide) cells) hc.1, Nat.le_trans (Nat.add_le_add_left (show 18 ≤ 24 by decide) slots) hc.2⟩ (fun v2 g2 h2 => ?_)
  obtain ⟨v, X2, rfl, hm, rfl⟩ := kb_out.om h2
  obtain ⟨s1, s2, s3⟩ := kb_s_shows hR hP hX hm
  exact kb_tail (pc := 436) C hk s1 s2 hY ⟨Nat.le_trans (Nat.add_le_add_left (show 3 ≤ 4 by decide) cells) hc.1, Nat.le_trans (Nat.add_le_add_left (show 18 ≤ 24 by decide) slots) hc.2⟩ dL_law_436 dL_law_438 dL_law_439 dL_law_442 dL_law_444 (by decide) dL_law_449 dL_law_451 (by decide) dL_law_454 dL_law_455 dL_law_456 dL_law_457 dL_law_459 dL_law_460 dL_law_461 (by decide) dL_law_466 (by decide) (q_widen (k := cells + 4) (n := slots + 24) (Nat.add_le_add_left (show 3 ≤ 4 by decide) cells) (Nat.add_le_add_left (show 18 ≤ 24 by decide) slots) (K X2 Y1 s3))
set_option maxRecDepth 100000 in
set_option maxHeartbeats 4000000 in
theorem w_thread (C : kb_C l E A cL_law 7 RL wsL_law (some .boolean) p s m args meth c) (hs : kb_scr b L xs A s) {X : Nat → Nat → Int32} {Y : Nat → Nat → Int64} {i : Nat} (hi : i + 5 ≤ L) (hR : kb_REL X) (hc : cells + 4 ≤ room_1.cells ∧ slots + 24 ≤ room_1.slots) (K : ∀ X' Y', kb_REL X' → kb_G p l e room_1 s m args below meth c E A 202 7 (kb_ent E X' Y') (cells + 4) (slots + 24) Q 1341 (kb_lvL b i E) []) : kb_G p l e room_1 s m args below meth c E A 202 7 (kb_ent E X Y) cells slots Q 469 (kb_lvL b i E) [] := by
  unfold kb_lvL
  refine q_aload_n C dL_law_469 rfl ?_
  refine x_arg C hs (i := i) (j := 1) (by omega) dL_law_470 dL_law_471 dL_law_473 (by decide) dL_law_474 dL_law_475 rfl rfl ?_
  refine x_arg C hs (i := i) (j := 2) (by omega) dL_law_476 dL_law_477 dL_law_479 (by decide) dL_law_480 dL_law_481 rfl rfl ?_
  refine x_arg C hs (i := i) (j := 3) (by omega) dL_law_482 dL_law_483 dL_law_485 (by decide) dL_law_486 dL_law_487 rfl rfl ?_
  refine q_aload_n C dL_law_488 rfl ?_
  refine q_callSW (As := [_, _, _, _, _]) (nA := 5) C dL_law_489 (h_thread l E X Y (xs (i + 1)) (xs (i + 2)) (xs (i + 3)) hR) gL_law_L_thread rfl (by decide +kernel) rfl ⟨Nat.le_of_ble_eq_true rfl, Nat.le_of_ble_eq_true rfl⟩ (Nat.le_of_ble_eq_true rfl) ⟨Nat.le_trans (Nat.add_le_add_left (show 3 ≤ 4 by decide) cells) hc.1, Nat.le_trans (Nat.add_le_add_left (show 18 ≤ 24 by decide) slots) hc.2⟩ (fun v1 g1 h1 => ?_)
  obtain ⟨k, r, X1, Y1, rfl, hk, hP, hY, rfl⟩ := h1
  have hX := kb_u_thread hR hP
  refine q_istore C dL_law_492 (by decide) rfl ?_
  refine q_aload_n C dL_law_494 rfl ?_
  refine x_arg C hs (i := i) (j := 1) (by omega) dL_law_495 dL_law_496 dL_law_498 (by decide) dL_law_499 dL_law_500 rfl rfl ?_
  refine x_arg C hs (i := i) (j := 2) (by omega) dL_law_501 dL_law_502 dL_law_504 (by decide) dL_law_505 dL_law_506 rfl rfl ?_
  refine x_arg C hs (i := i) (j := 3) (by omega) dL_law_507 dL_law_508 dL_law_510 (by decide) dL_law_511 dL_law_512 rfl rfl ?_
  refine x_callV (As := [_, _, _]) (nA := 3) (T := TX5) (NF := 15) C dL_law_513 ob_M rfl (m_mthread l E X1 Y1 (xs (i + 1)) (xs (i + 2)) (xs (i + 3)) (hX.mi hR.1)) gL_law_X5_thread rfl (by decide +kernel) rfl ⟨Nat.le_of_ble_eq_true rfl, Nat.le_of_ble_eq_true rfl⟩ (Nat.le_of_ble_eq_true rfl) ⟨Nat.le_trans (Nat.add_le_add_left (show 3 ≤ 4 by decide) cells) hc.1, Nat.le_trans (Nat.add_le_add_left (show 18 ≤ 24 by decide) slots) hc.2⟩ (fun v2 g2 h2 => ?_)
  obtain ⟨v, X2, rfl, hm, rfl⟩ := kb_out.om h2
  obtain ⟨s1, s2, s3⟩ := kb_s_thread hR hP hX hm
  exact kb_tail (pc := 516) C hk s1 s2 hY ⟨Nat.le_trans (Nat.add_le_add_left (show 3 ≤ 4 by decide) cells) hc.1, Nat.le_trans (Nat.add_le_add_left (show 18 ≤ 24 by decide) slots) hc.2⟩ dL_law_516 dL_law_518 dL_law_519 dL_law_522 dL_law_524 (by decide) dL_law_529 dL_law_531 (by decide) dL_law_534 dL_law_535 dL_law_536 dL_law_537 dL_law_539 dL_law_540 dL_law_541 (by decide) dL_law_546 (by decide) (q_widen (k := cells + 4) (n := slots + 24) (Nat.add_le_add_left (show 3 ≤ 4 by decide) cells) (Nat.add_le_add_left (show 18 ≤ 24 by decide) slots) (K X2 Y1 s3))
set_option maxRecDepth 100000 in
set_option maxHeartbeats 4000000 in
theorem w_used (C : kb_C l E A cL_law 7 RL wsL_law (some .boolean) p s m args meth c) (hs : kb_scr b L xs A s) {X : Nat → Nat → Int32} {Y : Nat → Nat → Int64} {i : Nat} (hi : i + 5 ≤ L) (hR : kb_REL X) (hc : cells + 4 ≤ room_1.cells ∧ slots + 24 ≤ room_1.slots) (K : ∀ X' Y', kb_REL X' → kb_G p l e room_1 s m args below meth c E A 202 7 (kb_ent E X' Y') (cells + 4) (slots + 24) Q 1341 (kb_lvL b i E) []) : kb_G p l e room_1 s m args below meth c E A 202 7 (kb_ent E X Y) cells slots Q 549 (kb_lvL b i E) [] := by
  unfold kb_lvL
  refine q_aload_n C dL_law_549 rfl ?_
  refine x_arg C hs (i := i) (j := 1) (by omega) dL_law_550 dL_law_551 dL_law_553 (by decide) dL_law_554 dL_law_555 rfl rfl ?_
  refine x_arg C hs (i := i) (j := 2) (by omega) dL_law_556 dL_law_557 dL_law_559 (by decide) dL_law_560 dL_law_561 rfl rfl ?_
  refine q_aload_n C dL_law_562 rfl ?_
  refine q_callSW (As := [_, _, _, _]) (nA := 4) C dL_law_563 (h_used l E X Y (xs (i + 1)) (xs (i + 2)) hR) gL_law_L_used rfl (by decide +kernel) rfl ⟨Nat.le_of_ble_eq_true rfl, Nat.le_of_ble_eq_true rfl⟩ (Nat.le_of_ble_eq_true rfl) ⟨Nat.le_trans (Nat.add_le_add_left (show 2 ≤ 4 by decide) cells) hc.1, Nat.le_trans (Nat.add_le_add_left (show 12 ≤ 24 by decide) slots) hc.2⟩ (fun v1 g1 h1 => ?_)
  obtain ⟨k, r, X1, Y1, rfl, hk, hP, hY, rfl⟩ := h1
  have hX := kb_u_used hR hP
  refine q_istore C dL_law_566 (by decide) rfl ?_
  refine q_aload_n C dL_law_568 rfl ?_
  refine x_arg C hs (i := i) (j := 1) (by omega) dL_law_569 dL_law_570 dL_law_572 (by decide) dL_law_573 dL_law_574 rfl rfl ?_
  refine x_arg C hs (i := i) (j := 2) (by omega) dL_law_575 dL_law_576 dL_law_578 (by decide) dL_law_579 dL_law_580 rfl rfl ?_
  refine x_callV (As := [_, _]) (nA := 2) (T := TX5) (NF := 15) C dL_law_581 ob_M rfl (m_mused l E X1 Y1 (xs (i + 1)) (xs (i + 2)) (hX.mi hR.1)) gL_law_X5_used rfl (by decide +kernel) rfl ⟨Nat.le_of_ble_eq_true rfl, Nat.le_of_ble_eq_true rfl⟩ (Nat.le_of_ble_eq_true rfl) ⟨Nat.le_trans (Nat.add_le_add_left (show 2 ≤ 4 by decide) cells) hc.1, Nat.le_trans (Nat.add_le_add_left (show 12 ≤ 24 by decide) slots) hc.2⟩ (fun v2 g2 h2 => ?_)
  obtain ⟨v, X2, rfl, hm, rfl⟩ := kb_out.om h2
  obtain ⟨s1, s2, s3⟩ := kb_s_used hR hP hX hm
  exact kb_tail (pc := 584) C hk s1 s2 hY ⟨Nat.le_trans (Nat.add_le_add_left (show 2 ≤ 4 by decide) cells) hc.1, Nat.le_trans (Nat.add_le_add_left (show 12 ≤ 24 by decide) slots) hc.2⟩ dL_law_584 dL_law_586 dL_law_587 dL_law_590 dL_law_592 (by decide) dL_law_597 dL_law_599 (by decide) dL_law_602 dL_law_603 dL_law_604 dL_law_605 dL_law_607 dL_law_608 dL_law_609 (by decide) dL_law_614 (by decide) (q_widen (k := cells + 4) (n := slots + 24) (Nat.add_le_add_left (show 2 ≤ 4 by decide) cells) (Nat.add_le_add_left (show 12 ≤ 24 by decide) slots) (K X2 Y1 s3))
set_option maxRecDepth 100000 in
set_option maxHeartbeats 4000000 in
theorem w_home (C : kb_C l E A cL_law 7 RL wsL_law (some .boolean) p s m args meth c) (hs : kb_scr b L xs A s) {X : Nat → Nat → Int32} {Y : Nat → Nat → Int64} {i : Nat} (hi : i + 5 ≤ L) (hR : kb_REL X) (hc : cells + 4 ≤ room_1.cells ∧ slots + 24 ≤ room_1.slots) (K : ∀ X' Y', kb_REL X' → kb_G p l e room_1 s m args below meth c E A 202 7 (kb_ent E X' Y') (cells + 4) (slots + 24) Q 1341 (kb_lvL b i E) []) : kb_G p l e room_1 s m args below meth c E A 202 7 (kb_ent E X Y) cells slots Q 617 (kb_lvL b i E) [] := by
  unfold kb_lvL
  refine q_aload_n C dL_law_617 rfl ?_
  refine x_arg C hs (i := i) (j := 1) (by omega) dL_law_618 dL_law_619 dL_law_621 (by decide) dL_law_622 dL_law_623 rfl rfl ?_
  refine x_arg C hs (i := i) (j := 2) (by omega) dL_law_624 dL_law_625 dL_law_627 (by decide) dL_law_628 dL_law_629 rfl rfl ?_
  refine q_aload_n C dL_law_630 rfl ?_
  refine q_callSW (As := [_, _, _, _]) (nA := 4) C dL_law_631 (h_home l E X Y (xs (i + 1)) (xs (i + 2)) hR) gL_law_L_home rfl (by decide +kernel) rfl ⟨Nat.le_of_ble_eq_true rfl, Nat.le_of_ble_eq_true rfl⟩ (Nat.le_of_ble_eq_true rfl) ⟨Nat.le_trans (Nat.add_le_add_left (show 2 ≤ 4 by decide) cells) hc.1, Nat.le_trans (Nat.add_le_add_left (show 12 ≤ 24 by decide) slots) hc.2⟩ (fun v1 g1 h1 => ?_)
  obtain ⟨k, r, X1, Y1, rfl, hk, hP, hY, rfl⟩ := h1
  have hX := kb_u_home hR hP
  refine q_istore C dL_law_634 (by decide) rfl ?_
  refine q_aload_n C dL_law_636 rfl ?_
  refine x_arg C hs (i := i) (j := 1) (by omega) dL_law_637 dL_law_638 dL_law_640 (by decide) dL_law_641 dL_law_642 rfl rfl ?_
  refine x_arg C hs (i := i) (j := 2) (by omega) dL_law_643 dL_law_644 dL_law_646 (by decide) dL_law_647 dL_law_648 rfl rfl ?_
  refine x_callV (As := [_, _]) (nA := 2) (T := TX5) (NF := 15) C dL_law_649 ob_M rfl (m_mhome l E X1 Y1 (xs (i + 1)) (xs (i + 2)) (hX.mi hR.1)) gL_law_X5_home rfl (by decide +kernel) rfl ⟨Nat.le_of_ble_eq_true rfl, Nat.le_of_ble_eq_true rfl⟩ (Nat.le_of_ble_eq_true rfl) ⟨Nat.le_trans (Nat.add_le_add_left (show 2 ≤ 4 by decide) cells) hc.1, Nat.le_trans (Nat.add_le_add_left (show 12 ≤ 24 by decide) slots) hc.2⟩ (fun v2 g2 h2 => ?_)
  obtain ⟨v, X2, rfl, hm, rfl⟩ := kb_out.om h2
  obtain ⟨s1, s2, s3⟩ := kb_s_home hR hP hX hm
  exact kb_tail (pc := 652) C hk s1 s2 hY ⟨Nat.le_trans (Nat.add_le_add_left (show 2 ≤ 4 by decide) cells) hc.1, Nat.le_trans (Nat.add_le_add_left (show 12 ≤ 24 by decide) slots) hc.2⟩ dL_law_652 dL_law_654 dL_law_655 dL_law_658 dL_law_660 (by decide) dL_law_665 dL_law_667 (by decide) dL_law_670 dL_law_671 dL_law_672 dL_law_673 dL_law_675 dL_law_676 dL_law_677 (by decide) dL_law_682 (by decide) (q_widen (k := cells + 4) (n := slots + 24) (Nat.add_le_add_left (show 2 ≤ 4 by decide) cells) (Nat.add_le_add_left (show 12 ≤ 24 by decide) slots) (K X2 Y1 s3))
set_option maxRecDepth 100000 in
set_option maxHeartbeats 4000000 in
theorem w_unlike (C : kb_C l E A cL_law 7 RL wsL_law (some .boolean) p s m args meth c) (hs : kb_scr b L xs A s) {X : Nat → Nat → Int32} {Y : Nat → Nat → Int64} {i : Nat} (hi : i + 5 ≤ L) (hR : kb_REL X) (hc : cells + 4 ≤ room_1.cells ∧ slots + 24 ≤ room_1.slots) (K : ∀ X' Y', kb_REL X' → kb_G p l e room_1 s m args below meth c E A 202 7 (kb_ent E X' Y') (cells + 4) (slots + 24) Q 1341 (kb_lvL b i E) []) : kb_G p l e room_1 s m args below meth c E A 202 7 (kb_ent E X Y) cells slots Q 685 (kb_lvL b i E) [] := by
  unfold kb_lvL
  refine q_aload_n C dL_law_685 rfl ?_
  refine x_arg C hs (i := i) (j := 1) (by omega) dL_law_686 dL_law_687 dL_law_689 (by decide) dL_law_690 dL_law_691 rfl rfl ?_
  refine x_arg C hs (i := i) (j := 2) (by omega) dL_law_692 dL_law_693 dL_law_695 (by decide) dL_law_696 dL_law_697 rfl rfl ?_
  refine q_aload_n C dL_law_698 rfl ?_
  refine q_callSW (As := [_, _, _, _]) (nA := 4) C dL_law_699 (h_unlike l E X Y (xs (i + 1)) (xs (i + 2)) hR) gL_law_L_unlike rfl (by decide +kernel) rfl ⟨Nat.le_of_ble_eq_true rfl, Nat.le_of_ble_eq_true rfl⟩ (Nat.le_of_ble_eq_true rfl) ⟨Nat.le_trans (Nat.add_le_add_left (show 3 ≤ 4 by decide) cells) hc.1, Nat.le_trans (Nat.add_le_add_left (show 18 ≤ 24 by decide) slots) hc.2⟩ (fun v1 g1 h1 => ?_)
  obtain ⟨k, r, X1, Y1, rfl, hk, hP, hY, rfl⟩ := h1
  have hX := kb_u_unlike hR hP
  refine q_istore C dL_law_702 (by decide) rfl ?_
  refine q_aload_n C dL_law_704 rfl ?_
  refine x_arg C hs (i := i) (j := 1) (by omega) dL_law_705 dL_law_706 dL_law_708 (by decide) dL_law_709 dL_law_710 rfl rfl ?_
  refine x_arg C hs (i := i) (j := 2) (by omega) dL_law_711 dL_law_712 dL_law_714 (by decide) dL_law_715 dL_law_716 rfl rfl ?_
  refine x_callV (As := [_, _]) (nA := 2) (T := TX5) (NF := 15) C dL_law_717 ob_M rfl (m_munlike l E X1 Y1 (xs (i + 1)) (xs (i + 2)) (hX.mi hR.1)) gL_law_X5_unlike rfl (by decide +kernel) rfl ⟨Nat.le_of_ble_eq_true rfl, Nat.le_of_ble_eq_true rfl⟩ (Nat.le_of_ble_eq_true rfl) ⟨Nat.le_trans (Nat.add_le_add_left (show 3 ≤ 4 by decide) cells) hc.1, Nat.le_trans (Nat.add_le_add_left (show 18 ≤ 24 by decide) slots) hc.2⟩ (fun v2 g2 h2 => ?_)
  obtain ⟨v, X2, rfl, hm, rfl⟩ := kb_out.om h2
  obtain ⟨s1, s2, s3⟩ := kb_s_unlike hR hP hX hm
  exact kb_tail (pc := 720) C hk s1 s2 hY ⟨Nat.le_trans (Nat.add_le_add_left (show 3 ≤ 4 by decide) cells) hc.1, Nat.le_trans (Nat.add_le_add_left (show 18 ≤ 24 by decide) slots) hc.2⟩ dL_law_720 dL_law_722 dL_law_723 dL_law_726 dL_law_728 (by decide) dL_law_733 dL_law_735 (by decide) dL_law_738 dL_law_739 dL_law_740 dL_law_741 dL_law_743 dL_law_744 dL_law_745 (by decide) dL_law_750 (by decide) (q_widen (k := cells + 4) (n := slots + 24) (Nat.add_le_add_left (show 3 ≤ 4 by decide) cells) (Nat.add_le_add_left (show 18 ≤ 24 by decide) slots) (K X2 Y1 s3))
set_option maxRecDepth 100000 in
set_option maxHeartbeats 4000000 in
theorem w_picture (C : kb_C l E A cL_law 7 RL wsL_law (some .boolean) p s m args meth c) (hs : kb_scr b L xs A s) {X : Nat → Nat → Int32} {Y : Nat → Nat → Int64} {i : Nat} (hi : i + 5 ≤ L) (hR : kb_REL X) (hc : cells + 4 ≤ room_1.cells ∧ slots + 24 ≤ room_1.slots) (K : ∀ X' Y', kb_REL X' → kb_G p l e room_1 s m args below meth c E A 202 7 (kb_ent E X' Y') (cells + 4) (slots + 24) Q 1341 (kb_lvL b i E) []) : kb_G p l e room_1 s m args below meth c E A 202 7 (kb_ent E X Y) cells slots Q 753 (kb_lvL b i E) [] := by
  unfold kb_lvL
  refine q_aload_n C dL_law_753 rfl ?_
  refine x_arg C hs (i := i) (j := 1) (by omega) dL_law_754 dL_law_755 dL_law_757 (by decide) dL_law_758 dL_law_759 rfl rfl ?_
  refine x_arg C hs (i := i) (j := 2) (by omega) dL_law_760 dL_law_761 dL_law_763 (by decide) dL_law_764 dL_law_765 rfl rfl ?_
  refine x_callV (As := [_, _]) (nA := 2) (T := TX4) (NF := 5) C dL_law_766 ob_K rfl (m_picture l E X Y (xs (i + 1)) (xs (i + 2)) hR.cp.1) gL_law_X4_picture rfl (by decide +kernel) rfl ⟨Nat.le_of_ble_eq_true rfl, Nat.le_of_ble_eq_true rfl⟩ (Nat.le_of_ble_eq_true rfl) ⟨Nat.le_trans (Nat.add_le_add_left (show 0 ≤ 4 by decide) cells) hc.1, Nat.le_trans (Nat.add_le_add_left (show 0 ≤ 24 by decide) slots) hc.2⟩ (fun v1 g1 h1 => ?_)
  have h1 : ∃ r X1, v1 = some (.int r) ∧ g1 = kb_ent E X1 Y ∧ ((kb_noPc X (xs (i + 1)) (xs (i + 2)) ∧ r = -1 ∧ X1 = X) ∨ (¬ kb_noPc X (xs (i + 1)) (xs (i + 2)) ∧ r = nI (kb_tn (X 0 4)) ∧ ∃ X3, kb_bgn (kb_tn (X 0 4)) (kb_tn (xs (i + 1))) (kb_tn (xs (i + 2))) 48 6 X X3 ∧ X1 = va_up X3 0 (upd (X 0) 4 (nI (kb_tn (X 0 4) + 1))))) := by
    rcases h1 with ⟨a, rfl, rfl⟩ | ⟨a, rfl, X3, h2, rfl⟩
    · exact ⟨_, _, rfl, rfl, Or.inl ⟨a, rfl, rfl⟩⟩
    · exact ⟨_, _, rfl, rfl, Or.inr ⟨a, rfl, X3, h2, rfl⟩⟩
  obtain ⟨r, X1, rfl, rfl, hP⟩ := h1
  have hX : kb_MU X X1 := fun z hz => by
    have h8 := hR.cp.1.2
    rcases hP with ⟨-, -, h⟩ | ⟨a, -, X3, h2, h⟩
    · rw [h]
    · have h9 : ¬ kb_tn (X 0 4) = 8 := fun q => a (Or.inl q)
      rw [h, kb_up_ne (by omega), h2.1 z (by omega) (by omega) (by omega)]
  refine q_aload_n C dL_law_769 rfl ?_
  refine x_arg C hs (i := i) (j := 1) (by omega) dL_law_770 dL_law_771 dL_law_773 (by decide) dL_law_774 dL_law_775 rfl rfl ?_
  refine x_arg C hs (i := i) (j := 2) (by omega) dL_law_776 dL_law_777 dL_law_779 (by decide) dL_law_780 dL_law_781 rfl rfl ?_
  refine x_callV (As := [_, _]) (nA := 2) (T := TX5) (NF := 15) C dL_law_782 ob_M rfl (m_mpicture l E X1 Y (xs (i + 1)) (xs (i + 2)) (hX.mi hR.1)) gL_law_X5_picture rfl (by decide +kernel) rfl ⟨Nat.le_of_ble_eq_true rfl, Nat.le_of_ble_eq_true rfl⟩ (Nat.le_of_ble_eq_true rfl) ⟨Nat.le_trans (Nat.add_le_add_left (show 0 ≤ 4 by decide) cells) hc.1, Nat.le_trans (Nat.add_le_add_left (show 0 ≤ 24 by decide) slots) hc.2⟩ (fun v2 g2 h2 => ?_)
  have h2 : ∃ v X2, v2 = some (.int v) ∧ g2 = kb_ent E X2 Y ∧ ((kb_noP X1 (xs (i + 1)) (xs (i + 2)) ∧ v = -1 ∧ X2 = kb_thr X1 (nI 0)) ∨ (¬ kb_noP X1 (xs (i + 1)) (xs (i + 2)) ∧ v = nI (kb_tn (X1 188 2)) ∧ ∃ X4 X5, kb_fill4 (kb_mpic0 X1 (xs (i + 1)) (xs (i + 2))) X4 195 (48 * kb_tn (X1 188 2)) 48 ∧ kb_fill4 X4 X5 196 (6 * kb_tn (X1 188 2)) 6 ∧ X2 = va_up X5 188 (upd (kb_thr X1 (nI 0) 188) 2 (nI (kb_tn (X1 188 2) + 1))))) := by
    rcases h2 with ⟨a, rfl, rfl⟩ | ⟨a, rfl, X4, X5, h3, h4, rfl⟩
    · exact ⟨_, _, rfl, rfl, Or.inl ⟨a, rfl, rfl⟩⟩
    · exact ⟨_, _, rfl, rfl, Or.inr ⟨a, rfl, X4, X5, h3, h4, rfl⟩⟩
  obtain ⟨v, X2, rfl, rfl, hm⟩ := h2
  obtain ⟨rfl, hR2⟩ := kb_s_picture hR hP hm
  exact q_icmpeq C (tgt := 1341) dL_law_785 (by decide) (fun _ => q_widen (k := cells + 4) (n := slots + 24) (Nat.le_add_right _ _) (Nat.le_add_right _ _) (K X2 Y hR2)) (fun h => absurd rfl h)
set_option maxRecDepth 100000 in
set_option maxHeartbeats 4000000 in
theorem w_see (C : kb_C l E A cL_law 7 RL wsL_law (some .boolean) p s m args meth c) (hs : kb_scr b L xs A s) {X : Nat → Nat → Int32} {Y : Nat → Nat → Int64} {i : Nat} (hi : i + 5 ≤ L) (hR : kb_REL X) (hc : cells + 4 ≤ room_1.cells ∧ slots + 24 ≤ room_1.slots) (K : ∀ X' Y', kb_REL X' → kb_G p l e room_1 s m args below meth c E A 202 7 (kb_ent E X' Y') (cells + 4) (slots + 24) Q 1341 (kb_lvL b i E) []) : kb_G p l e room_1 s m args below meth c E A 202 7 (kb_ent E X Y) cells slots Q 790 (kb_lvL b i E) [] := by
  unfold kb_lvL
  refine q_aload_n C dL_law_790 rfl ?_
  refine x_arg C hs (i := i) (j := 1) (by omega) dL_law_791 dL_law_792 dL_law_794 (by decide) dL_law_795 dL_law_796 rfl rfl ?_
  refine x_arg C hs (i := i) (j := 2) (by omega) dL_law_797 dL_law_798 dL_law_800 (by decide) dL_law_801 dL_law_802 rfl rfl ?_
  refine x_arg C hs (i := i) (j := 3) (by omega) dL_law_803 dL_law_804 dL_law_806 (by decide) dL_law_807 dL_law_808 rfl rfl ?_
  refine x_arg C hs (i := i) (j := 4) (by omega) dL_law_809 dL_law_810 dL_law_812 (by decide) dL_law_813 dL_law_814 rfl rfl ?_
  refine q_aload_n C dL_law_815 rfl ?_
  refine q_callSW (As := [_, _, _, _, _, _]) (nA := 6) C dL_law_816 (h_see l E X Y (xs (i + 1)) (xs (i + 2)) (xs (i + 3)) (xs (i + 4)) hR) gL_law_L_see rfl (by decide +kernel) rfl ⟨Nat.le_of_ble_eq_true rfl, Nat.le_of_ble_eq_true rfl⟩ (Nat.le_of_ble_eq_true rfl) ⟨Nat.le_trans (Nat.add_le_add_left (show 4 ≤ 4 by decide) cells) hc.1, Nat.le_trans (Nat.add_le_add_left (show 24 ≤ 24 by decide) slots) hc.2⟩ (fun v1 g1 h1 => ?_)
  obtain ⟨k, r, X1, Y1, rfl, hk, hP, hY, rfl⟩ := h1
  have hX := kb_u_see hR hP
  refine q_istore C dL_law_819 (by decide) rfl ?_
  refine q_aload_n C dL_law_821 rfl ?_
  refine x_arg C hs (i := i) (j := 1) (by omega) dL_law_822 dL_law_823 dL_law_825 (by decide) dL_law_826 dL_law_827 rfl rfl ?_
  refine x_arg C hs (i := i) (j := 2) (by omega) dL_law_828 dL_law_829 dL_law_831 (by decide) dL_law_832 dL_law_833 rfl rfl ?_
  refine x_arg C hs (i := i) (j := 3) (by omega) dL_law_834 dL_law_835 dL_law_837 (by decide) dL_law_838 dL_law_839 rfl rfl ?_
  refine x_arg C hs (i := i) (j := 4) (by omega) dL_law_840 dL_law_841 dL_law_843 (by decide) dL_law_844 dL_law_845 rfl rfl ?_
  refine x_callV (As := [_, _, _, _]) (nA := 4) (T := TX5) (NF := 15) C dL_law_846 ob_M rfl (m_msee l E X1 Y1 (xs (i + 1)) (xs (i + 2)) (xs (i + 3)) (xs (i + 4)) (hX.mi hR.1)) gL_law_X5_see rfl (by decide +kernel) rfl ⟨Nat.le_of_ble_eq_true rfl, Nat.le_of_ble_eq_true rfl⟩ (Nat.le_of_ble_eq_true rfl) ⟨Nat.le_trans (Nat.add_le_add_left (show 4 ≤ 4 by decide) cells) hc.1, Nat.le_trans (Nat.add_le_add_left (show 24 ≤ 24 by decide) slots) hc.2⟩ (fun v2 g2 h2 => ?_)
  obtain ⟨v, X2, rfl, hm, rfl⟩ := kb_out.om h2
  obtain ⟨s1, s2, s3⟩ := kb_s_see hR hP hX hm
  exact kb_tail (pc := 849) C hk s1 s2 hY ⟨Nat.le_trans (Nat.add_le_add_left (show 4 ≤ 4 by decide) cells) hc.1, Nat.le_trans (Nat.add_le_add_left (show 24 ≤ 24 by decide) slots) hc.2⟩ dL_law_849 dL_law_851 dL_law_852 dL_law_855 dL_law_857 (by decide) dL_law_862 dL_law_864 (by decide) dL_law_867 dL_law_868 dL_law_869 dL_law_870 dL_law_872 dL_law_873 dL_law_874 (by decide) dL_law_879 (by decide) (q_widen (k := cells + 4) (n := slots + 24) (Nat.add_le_add_left (show 4 ≤ 4 by decide) cells) (Nat.add_le_add_left (show 24 ≤ 24 by decide) slots) (K X2 Y1 s3))
set_option maxRecDepth 100000 in
set_option maxHeartbeats 4000000 in
theorem w_must (C : kb_C l E A cL_law 7 RL wsL_law (some .boolean) p s m args meth c) (hs : kb_scr b L xs A s) {X : Nat → Nat → Int32} {Y : Nat → Nat → Int64} {i : Nat} (hi : i + 5 ≤ L) (hR : kb_REL X) (hc : cells + 4 ≤ room_1.cells ∧ slots + 24 ≤ room_1.slots) (K : ∀ X' Y', kb_REL X' → kb_G p l e room_1 s m args below meth c E A 202 7 (kb_ent E X' Y') (cells + 4) (slots + 24) Q 1341 (kb_lvL b i E) []) : kb_G p l e room_1 s m args below meth c E A 202 7 (kb_ent E X Y) cells slots Q 882 (kb_lvL b i E) [] := by
  unfold kb_lvL
  refine q_aload_n C dL_law_882 rfl ?_
  refine x_arg C hs (i := i) (j := 1) (by omega) dL_law_883 dL_law_884 dL_law_886 (by decide) dL_law_887 dL_law_888 rfl rfl ?_
  refine x_arg C hs (i := i) (j := 2) (by omega) dL_law_889 dL_law_890 dL_law_892 (by decide) dL_law_893 dL_law_894 rfl rfl ?_
  refine x_arg C hs (i := i) (j := 3) (by omega) dL_law_895 dL_law_896 dL_law_898 (by decide) dL_law_899 dL_law_900 rfl rfl ?_
  refine q_aload_n C dL_law_901 rfl ?_
  refine q_callSW (As := [_, _, _, _, _]) (nA := 5) C dL_law_902 (h_must l E X Y (xs (i + 1)) (xs (i + 2)) (xs (i + 3)) hR) gL_law_L_must rfl (by decide +kernel) rfl ⟨Nat.le_of_ble_eq_true rfl, Nat.le_of_ble_eq_true rfl⟩ (Nat.le_of_ble_eq_true rfl) ⟨Nat.le_trans (Nat.add_le_add_left (show 3 ≤ 4 by decide) cells) hc.1, Nat.le_trans (Nat.add_le_add_left (show 18 ≤ 24 by decide) slots) hc.2⟩ (fun v1 g1 h1 => ?_)
  obtain ⟨k, r, X1, Y1, rfl, hk, hP, hY, rfl⟩ := h1
  have hX := kb_u_must hR hP
  refine q_istore C dL_law_905 (by decide) rfl ?_
  refine q_aload_n C dL_law_907 rfl ?_
  refine x_arg C hs (i := i) (j := 1) (by omega) dL_law_908 dL_law_909 dL_law_911 (by decide) dL_law_912 dL_law_913 rfl rfl ?_
  refine x_arg C hs (i := i) (j := 2) (by omega) dL_law_914 dL_law_915 dL_law_917 (by decide) dL_law_918 dL_law_919 rfl rfl ?_
  refine x_arg C hs (i := i) (j := 3) (by omega) dL_law_920 dL_law_921 dL_law_923 (by decide) dL_law_924 dL_law_925 rfl rfl ?_
  refine x_callV (As := [_, _, _]) (nA := 3) (T := TX5) (NF := 15) C dL_law_926 ob_M rfl (m_mmust l E X1 Y1 (xs (i + 1)) (xs (i + 2)) (xs (i + 3)) (hX.mi hR.1)) gL_law_X5_must rfl (by decide +kernel) rfl ⟨Nat.le_of_ble_eq_true rfl, Nat.le_of_ble_eq_true rfl⟩ (Nat.le_of_ble_eq_true rfl) ⟨Nat.le_trans (Nat.add_le_add_left (show 3 ≤ 4 by decide) cells) hc.1, Nat.le_trans (Nat.add_le_add_left (show 18 ≤ 24 by decide) slots) hc.2⟩ (fun v2 g2 h2 => ?_)
  obtain ⟨v, X2, rfl, hm, rfl⟩ := kb_out.om h2
  obtain ⟨s1, s2, s3⟩ := kb_s_must hR hP hX hm
  exact kb_tail (pc := 929) C hk s1 s2 hY ⟨Nat.le_trans (Nat.add_le_add_left (show 3 ≤ 4 by decide) cells) hc.1, Nat.le_trans (Nat.add_le_add_left (show 18 ≤ 24 by decide) slots) hc.2⟩ dL_law_929 dL_law_931 dL_law_932 dL_law_935 dL_law_937 (by decide) dL_law_942 dL_law_944 (by decide) dL_law_947 dL_law_948 dL_law_949 dL_law_950 dL_law_952 dL_law_953 dL_law_954 (by decide) dL_law_959 (by decide) (q_widen (k := cells + 4) (n := slots + 24) (Nat.add_le_add_left (show 3 ≤ 4 by decide) cells) (Nat.add_le_add_left (show 18 ≤ 24 by decide) slots) (K X2 Y1 s3))
set_option maxRecDepth 100000 in
set_option maxHeartbeats 4000000 in
theorem w_copy (C : kb_C l E A cL_law 7 RL wsL_law (some .boolean) p s m args meth c) (hs : kb_scr b L xs A s) {X : Nat → Nat → Int32} {Y : Nat → Nat → Int64} {i : Nat} (hi : i + 5 ≤ L) (hR : kb_REL X) (hc : cells + 4 ≤ room_1.cells ∧ slots + 24 ≤ room_1.slots) (K : ∀ X' Y', kb_REL X' → kb_G p l e room_1 s m args below meth c E A 202 7 (kb_ent E X' Y') (cells + 4) (slots + 24) Q 1341 (kb_lvL b i E) []) : kb_G p l e room_1 s m args below meth c E A 202 7 (kb_ent E X Y) cells slots Q 962 (kb_lvL b i E) [] := by
  unfold kb_lvL
  refine q_aload_n C dL_law_962 rfl ?_
  refine x_arg C hs (i := i) (j := 1) (by omega) dL_law_963 dL_law_964 dL_law_966 (by decide) dL_law_967 dL_law_968 rfl rfl ?_
  refine x_arg C hs (i := i) (j := 2) (by omega) dL_law_969 dL_law_970 dL_law_972 (by decide) dL_law_973 dL_law_974 rfl rfl ?_
  refine q_aload_n C dL_law_975 rfl ?_
  refine q_callSW (As := [_, _, _, _]) (nA := 4) C dL_law_976 (h_copy l E X Y (xs (i + 1)) (xs (i + 2)) hR) gL_law_L_copy rfl (by decide +kernel) rfl ⟨Nat.le_of_ble_eq_true rfl, Nat.le_of_ble_eq_true rfl⟩ (Nat.le_of_ble_eq_true rfl) ⟨Nat.le_trans (Nat.add_le_add_left (show 2 ≤ 4 by decide) cells) hc.1, Nat.le_trans (Nat.add_le_add_left (show 12 ≤ 24 by decide) slots) hc.2⟩ (fun v1 g1 h1 => ?_)
  obtain ⟨k, r, X1, Y1, rfl, hk, hP, hY, rfl⟩ := h1
  have hX := kb_u_copy hR hP
  refine q_istore C dL_law_979 (by decide) rfl ?_
  refine q_aload_n C dL_law_981 rfl ?_
  refine x_arg C hs (i := i) (j := 1) (by omega) dL_law_982 dL_law_983 dL_law_985 (by decide) dL_law_986 dL_law_987 rfl rfl ?_
  refine x_arg C hs (i := i) (j := 2) (by omega) dL_law_988 dL_law_989 dL_law_991 (by decide) dL_law_992 dL_law_993 rfl rfl ?_
  refine x_callV (As := [_, _]) (nA := 2) (T := TX5) (NF := 15) C dL_law_994 ob_M rfl (m_mcopy l E X1 Y1 (xs (i + 1)) (xs (i + 2)) (hX.mi hR.1)) gL_law_X5_copy rfl (by decide +kernel) rfl ⟨Nat.le_of_ble_eq_true rfl, Nat.le_of_ble_eq_true rfl⟩ (Nat.le_of_ble_eq_true rfl) ⟨Nat.le_trans (Nat.add_le_add_left (show 2 ≤ 4 by decide) cells) hc.1, Nat.le_trans (Nat.add_le_add_left (show 12 ≤ 24 by decide) slots) hc.2⟩ (fun v2 g2 h2 => ?_)
  obtain ⟨v, X2, rfl, hm, rfl⟩ := kb_out.om h2
  obtain ⟨s1, s2, s3⟩ := kb_s_copy hR hP hX hm
  have h01 : k = 0 → v = nI 0 ∨ v = nI 1 := fun hk0 => by
    rw [← s2 hk0]
    rcases hP with ⟨-, -, -, ⟨-, h, -⟩ | ⟨-, h, -⟩⟩ | ⟨-, h, -⟩ | ⟨-, -, h, -⟩
    · exact Or.inl h
    · exact Or.inr h
    · omega
    · omega
  have J : kb_G p l e room_1 s m args below meth c E A 202 7 (kb_ent E X2 Y1) (cells + 2) (slots + 12) Q 1034 [some (.ref b), some (.ref (E.2.2.2 0)), some (.ref (E.2.2.2 188)), some (.ref (E.2.2.2 201)), some (.int (nI i)), some (.int (nI k)), some (.int v)] [] := q_goto C dL_law_1034 (by decide) (q_mask [true, true, true, true, true, false, false] (q_widen (k := cells + 4) (n := slots + 24) (Nat.add_le_add_left (show 2 ≤ 4 by decide) cells) (Nat.add_le_add_left (show 12 ≤ 24 by decide) slots) (K X2 Y1 s3)))
  refine q_istore C dL_law_997 (by decide) rfl ?_
  refine q_aload_n C dL_law_999 rfl ?_
  refine x_callV (As := []) (nA := 0) (T := TX5) (NF := 15) C dL_law_1000 ob_M rfl (m_thrown l E X2 Y1) gL_law_X5_thrown rfl (by decide +kernel) rfl ⟨Nat.le_of_ble_eq_true rfl, Nat.le_of_ble_eq_true rfl⟩ (Nat.le_of_ble_eq_true rfl) ⟨Nat.le_trans (Nat.add_le_add_left (show 2 ≤ 4 by decide) cells) hc.1, Nat.le_trans (Nat.add_le_add_left (show 12 ≤ 24 by decide) slots) hc.2⟩ (fun v3 g3 h3 => ?_)
  obtain ⟨rfl, rfl⟩ := h3
  refine q_top (show Value.int _ = Value.int _ from congrArg Value.int s1) ?_
  refine q_iload C dL_law_1003 rfl ?_
  refine q_icmpeqN C (tgt := 1010) dL_law_1005 (by decide) (by omega) (by omega) (fun _ => ?_) (fun h => absurd rfl h)
  refine q_iload C dL_law_1010 rfl ?_
  refine q_ifne C (tgt := 1034) dL_law_1012 (by decide) (fun _ => J) (fun h0 => ?_)
  have hk0 : k = 0 := by
    rcases Nat.eq_zero_or_pos k with z | z
    · exact z
    · exact absurd h0 (nI_ne0 z (by omega))
  refine q_aload_n C dL_law_1015 rfl ?_
  refine q_iconst C (v := nI 0) dL_law_1016 (by decide) ?_
  refine x_laldN C dL_law_1017 la_out (by decide) (by decide) ?_
  refine q_iload C dL_law_1018 rfl ?_
  have hYv := hY hk0
  rw [s2 hk0] at hYv
  refine q_ifeq C (tgt := 1027) dL_law_1020 (by decide) (fun hv => ?_) (fun hv => ?_)
  · refine q_lconst C (v := 0) dL_law_1027 rfl ?_
    refine q_lcmp C dL_law_1028 ?_
    refine q_ifeq C (tgt := 1034) dL_law_1029 (by decide) (fun _ => J) (fun h => absurd ?_ h)
    rw [hYv, hv]
    decide
  · refine q_lconst C (v := 1) dL_law_1023 rfl ?_
    refine q_goto C (tgt := 1028) dL_law_1024 (by decide) ?_
    refine q_lcmp C dL_law_1028 ?_
    refine q_ifeq C (tgt := 1034) dL_law_1029 (by decide) (fun _ => J) (fun h => absurd ?_ h)
    rcases h01 hk0 with z | z
    · exact absurd z hv
    · rw [hYv, z]
      decide
set_option maxRecDepth 100000 in
set_option maxHeartbeats 4000000 in
theorem w_starts (C : kb_C l E A cL_law 7 RL wsL_law (some .boolean) p s m args meth c) (hs : kb_scr b L xs A s) {X : Nat → Nat → Int32} {Y : Nat → Nat → Int64} {i : Nat} (hi : i + 5 ≤ L) (hR : kb_REL X) (hc : cells + 4 ≤ room_1.cells ∧ slots + 24 ≤ room_1.slots) (K : ∀ X' Y', kb_REL X' → kb_G p l e room_1 s m args below meth c E A 202 7 (kb_ent E X' Y') (cells + 4) (slots + 24) Q 1341 (kb_lvL b i E) []) : kb_G p l e room_1 s m args below meth c E A 202 7 (kb_ent E X Y) cells slots Q 1037 (kb_lvL b i E) [] := by
  unfold kb_lvL
  refine q_aload_n C dL_law_1037 rfl ?_
  refine x_arg C hs (i := i) (j := 1) (by omega) dL_law_1038 dL_law_1039 dL_law_1041 (by decide) dL_law_1042 dL_law_1043 rfl rfl ?_
  refine q_aload_n C dL_law_1044 rfl ?_
  refine q_callSW (As := [_, _, _]) (nA := 3) C dL_law_1045 (h_starts l E X Y (xs (i + 1)) hR) gL_law_L_starts rfl (by decide +kernel) rfl ⟨Nat.le_of_ble_eq_true rfl, Nat.le_of_ble_eq_true rfl⟩ (Nat.le_of_ble_eq_true rfl) ⟨Nat.le_trans (Nat.add_le_add_left (show 1 ≤ 4 by decide) cells) hc.1, Nat.le_trans (Nat.add_le_add_left (show 6 ≤ 24 by decide) slots) hc.2⟩ (fun v1 g1 h1 => ?_)
  obtain ⟨k, r, X1, Y1, rfl, hk, hP, hY, rfl⟩ := h1
  have hX := kb_u_starts hR hP
  refine q_istore C dL_law_1048 (by decide) rfl ?_
  refine q_aload_n C dL_law_1050 rfl ?_
  refine x_arg C hs (i := i) (j := 1) (by omega) dL_law_1051 dL_law_1052 dL_law_1054 (by decide) dL_law_1055 dL_law_1056 rfl rfl ?_
  refine x_callV (As := [_]) (nA := 1) (T := TX5) (NF := 15) C dL_law_1057 ob_M rfl (m_mstarts l E X1 Y1 (xs (i + 1)) (hX.mi hR.1)) gL_law_X5_starts rfl (by decide +kernel) rfl ⟨Nat.le_of_ble_eq_true rfl, Nat.le_of_ble_eq_true rfl⟩ (Nat.le_of_ble_eq_true rfl) ⟨Nat.le_trans (Nat.add_le_add_left (show 1 ≤ 4 by decide) cells) hc.1, Nat.le_trans (Nat.add_le_add_left (show 6 ≤ 24 by decide) slots) hc.2⟩ (fun v2 g2 h2 => ?_)
  obtain ⟨v, X2, rfl, hm, rfl⟩ := kb_out.om h2
  obtain ⟨s1, s2, s3⟩ := kb_s_starts hR hP hX hm
  exact kb_tail (pc := 1060) C hk s1 s2 hY ⟨Nat.le_trans (Nat.add_le_add_left (show 1 ≤ 4 by decide) cells) hc.1, Nat.le_trans (Nat.add_le_add_left (show 6 ≤ 24 by decide) slots) hc.2⟩ dL_law_1060 dL_law_1062 dL_law_1063 dL_law_1066 dL_law_1068 (by decide) dL_law_1073 dL_law_1075 (by decide) dL_law_1078 dL_law_1079 dL_law_1080 dL_law_1081 dL_law_1083 dL_law_1084 dL_law_1085 (by decide) dL_law_1090 (by decide) (q_widen (k := cells + 4) (n := slots + 24) (Nat.add_le_add_left (show 1 ≤ 4 by decide) cells) (Nat.add_le_add_left (show 6 ≤ 24 by decide) slots) (K X2 Y1 s3))
set_option maxRecDepth 100000 in
set_option maxHeartbeats 4000000 in
theorem w_start (C : kb_C l E A cL_law 7 RL wsL_law (some .boolean) p s m args meth c) (hs : kb_scr b L xs A s) {X : Nat → Nat → Int32} {Y : Nat → Nat → Int64} {i : Nat} (hi : i + 5 ≤ L) (hR : kb_REL X) (hc : cells + 4 ≤ room_1.cells ∧ slots + 24 ≤ room_1.slots) (K : ∀ X' Y', kb_REL X' → kb_G p l e room_1 s m args below meth c E A 202 7 (kb_ent E X' Y') (cells + 4) (slots + 24) Q 1341 (kb_lvL b i E) []) : kb_G p l e room_1 s m args below meth c E A 202 7 (kb_ent E X Y) cells slots Q 1093 (kb_lvL b i E) [] := by
  unfold kb_lvL
  refine q_aload_n C dL_law_1093 rfl ?_
  refine x_arg C hs (i := i) (j := 1) (by omega) dL_law_1094 dL_law_1095 dL_law_1097 (by decide) dL_law_1098 dL_law_1099 rfl rfl ?_
  refine x_arg C hs (i := i) (j := 2) (by omega) dL_law_1100 dL_law_1101 dL_law_1103 (by decide) dL_law_1104 dL_law_1105 rfl rfl ?_
  refine q_aload_n C dL_law_1106 rfl ?_
  refine q_callSW (As := [_, _, _, _]) (nA := 4) C dL_law_1107 (h_start l E X Y (xs (i + 1)) (xs (i + 2)) hR) gL_law_L_start rfl (by decide +kernel) rfl ⟨Nat.le_of_ble_eq_true rfl, Nat.le_of_ble_eq_true rfl⟩ (Nat.le_of_ble_eq_true rfl) ⟨Nat.le_trans (Nat.add_le_add_left (show 3 ≤ 4 by decide) cells) hc.1, Nat.le_trans (Nat.add_le_add_left (show 18 ≤ 24 by decide) slots) hc.2⟩ (fun v1 g1 h1 => ?_)
  obtain ⟨k, r, X1, Y1, rfl, hk, hP, hY, rfl⟩ := h1
  have hX := kb_u_start hR hP
  refine q_istore C dL_law_1110 (by decide) rfl ?_
  refine q_aload_n C dL_law_1112 rfl ?_
  refine x_arg C hs (i := i) (j := 1) (by omega) dL_law_1113 dL_law_1114 dL_law_1116 (by decide) dL_law_1117 dL_law_1118 rfl rfl ?_
  refine x_arg C hs (i := i) (j := 2) (by omega) dL_law_1119 dL_law_1120 dL_law_1122 (by decide) dL_law_1123 dL_law_1124 rfl rfl ?_
  refine x_callV (As := [_, _]) (nA := 2) (T := TX5) (NF := 15) C dL_law_1125 ob_M rfl (m_mstart l E X1 Y1 (xs (i + 1)) (xs (i + 2)) (hX.mi hR.1)) gL_law_X5_start rfl (by decide +kernel) rfl ⟨Nat.le_of_ble_eq_true rfl, Nat.le_of_ble_eq_true rfl⟩ (Nat.le_of_ble_eq_true rfl) ⟨Nat.le_trans (Nat.add_le_add_left (show 3 ≤ 4 by decide) cells) hc.1, Nat.le_trans (Nat.add_le_add_left (show 18 ≤ 24 by decide) slots) hc.2⟩ (fun v2 g2 h2 => ?_)
  obtain ⟨v, X2, rfl, hm, rfl⟩ := kb_out.om h2
  obtain ⟨s1, s2, s3⟩ := kb_s_start hR hP hX hm
  exact kb_tail (pc := 1128) C hk s1 s2 hY ⟨Nat.le_trans (Nat.add_le_add_left (show 3 ≤ 4 by decide) cells) hc.1, Nat.le_trans (Nat.add_le_add_left (show 18 ≤ 24 by decide) slots) hc.2⟩ dL_law_1128 dL_law_1130 dL_law_1131 dL_law_1134 dL_law_1136 (by decide) dL_law_1141 dL_law_1143 (by decide) dL_law_1146 dL_law_1147 dL_law_1148 dL_law_1149 dL_law_1151 dL_law_1152 dL_law_1153 (by decide) dL_law_1158 (by decide) (q_widen (k := cells + 4) (n := slots + 24) (Nat.add_le_add_left (show 3 ≤ 4 by decide) cells) (Nat.add_le_add_left (show 18 ≤ 24 by decide) slots) (K X2 Y1 s3))
set_option maxRecDepth 100000 in
set_option maxHeartbeats 4000000 in
theorem w_tie (C : kb_C l E A cL_law 7 RL wsL_law (some .boolean) p s m args meth c) (hs : kb_scr b L xs A s) {X : Nat → Nat → Int32} {Y : Nat → Nat → Int64} {i : Nat} (hi : i + 5 ≤ L) (hR : kb_REL X) (hc : cells + 4 ≤ room_1.cells ∧ slots + 24 ≤ room_1.slots) (K : ∀ X' Y', kb_REL X' → kb_G p l e room_1 s m args below meth c E A 202 7 (kb_ent E X' Y') (cells + 4) (slots + 24) Q 1341 (kb_lvL b i E) []) : kb_G p l e room_1 s m args below meth c E A 202 7 (kb_ent E X Y) cells slots Q 1161 (kb_lvL b i E) [] := by
  unfold kb_lvL
  refine q_aload_n C dL_law_1161 rfl ?_
  refine x_arg C hs (i := i) (j := 1) (by omega) dL_law_1162 dL_law_1163 dL_law_1165 (by decide) dL_law_1166 dL_law_1167 rfl rfl ?_
  refine q_aload_n C dL_law_1168 rfl ?_
  refine q_callSW (As := [_, _, _]) (nA := 3) C dL_law_1169 (h_tie l E X Y (xs (i + 1)) hR) gL_law_L_tie rfl (by decide +kernel) rfl ⟨Nat.le_of_ble_eq_true rfl, Nat.le_of_ble_eq_true rfl⟩ (Nat.le_of_ble_eq_true rfl) ⟨Nat.le_trans (Nat.add_le_add_left (show 1 ≤ 4 by decide) cells) hc.1, Nat.le_trans (Nat.add_le_add_left (show 6 ≤ 24 by decide) slots) hc.2⟩ (fun v1 g1 h1 => ?_)
  obtain ⟨k, r, X1, Y1, rfl, hk, hP, hY, rfl⟩ := h1
  have hX := kb_u_tie hR hP
  refine q_istore C dL_law_1172 (by decide) rfl ?_
  refine q_aload_n C dL_law_1174 rfl ?_
  refine x_arg C hs (i := i) (j := 1) (by omega) dL_law_1175 dL_law_1176 dL_law_1178 (by decide) dL_law_1179 dL_law_1180 rfl rfl ?_
  refine x_callV (As := [_]) (nA := 1) (T := TX5) (NF := 15) C dL_law_1181 ob_M rfl (m_mtie l E X1 Y1 (xs (i + 1)) (hX.mi hR.1)) gL_law_X5_tie rfl (by decide +kernel) rfl ⟨Nat.le_of_ble_eq_true rfl, Nat.le_of_ble_eq_true rfl⟩ (Nat.le_of_ble_eq_true rfl) ⟨Nat.le_trans (Nat.add_le_add_left (show 1 ≤ 4 by decide) cells) hc.1, Nat.le_trans (Nat.add_le_add_left (show 6 ≤ 24 by decide) slots) hc.2⟩ (fun v2 g2 h2 => ?_)
  obtain ⟨v, X2, rfl, hm, rfl⟩ := kb_out.om h2
  obtain ⟨s1, s2, s3⟩ := kb_s_tie hR hP hX hm
  exact kb_tail (pc := 1184) C hk s1 s2 hY ⟨Nat.le_trans (Nat.add_le_add_left (show 1 ≤ 4 by decide) cells) hc.1, Nat.le_trans (Nat.add_le_add_left (show 6 ≤ 24 by decide) slots) hc.2⟩ dL_law_1184 dL_law_1186 dL_law_1187 dL_law_1190 dL_law_1192 (by decide) dL_law_1197 dL_law_1199 (by decide) dL_law_1202 dL_law_1203 dL_law_1204 dL_law_1205 dL_law_1207 dL_law_1208 dL_law_1209 (by decide) dL_law_1214 (by decide) (q_widen (k := cells + 4) (n := slots + 24) (Nat.add_le_add_left (show 1 ≤ 4 by decide) cells) (Nat.add_le_add_left (show 6 ≤ 24 by decide) slots) (K X2 Y1 s3))
set_option maxRecDepth 100000 in
set_option maxHeartbeats 4000000 in
theorem w_suspect (C : kb_C l E A cL_law 7 RL wsL_law (some .boolean) p s m args meth c) (hs : kb_scr b L xs A s) {X : Nat → Nat → Int32} {Y : Nat → Nat → Int64} {i : Nat} (hi : i + 5 ≤ L) (hR : kb_REL X) (hc : cells + 4 ≤ room_1.cells ∧ slots + 24 ≤ room_1.slots) (K : ∀ X' Y', kb_REL X' → kb_G p l e room_1 s m args below meth c E A 202 7 (kb_ent E X' Y') (cells + 4) (slots + 24) Q 1341 (kb_lvL b i E) []) : kb_G p l e room_1 s m args below meth c E A 202 7 (kb_ent E X Y) cells slots Q 1217 (kb_lvL b i E) [] := by
  unfold kb_lvL
  refine q_aload_n C dL_law_1217 rfl ?_
  refine x_arg C hs (i := i) (j := 1) (by omega) dL_law_1218 dL_law_1219 dL_law_1221 (by decide) dL_law_1222 dL_law_1223 rfl rfl ?_
  refine x_arg C hs (i := i) (j := 2) (by omega) dL_law_1224 dL_law_1225 dL_law_1227 (by decide) dL_law_1228 dL_law_1229 rfl rfl ?_
  refine q_aload_n C dL_law_1230 rfl ?_
  refine q_callSW (As := [_, _, _, _]) (nA := 4) C dL_law_1231 (h_suspect l E X Y (xs (i + 1)) (xs (i + 2)) hR) gL_law_L_suspect rfl (by decide +kernel) rfl ⟨Nat.le_of_ble_eq_true rfl, Nat.le_of_ble_eq_true rfl⟩ (Nat.le_of_ble_eq_true rfl) ⟨Nat.le_trans (Nat.add_le_add_left (show 2 ≤ 4 by decide) cells) hc.1, Nat.le_trans (Nat.add_le_add_left (show 12 ≤ 24 by decide) slots) hc.2⟩ (fun v1 g1 h1 => ?_)
  obtain ⟨k, r, X1, Y1, rfl, hk, hP, hY, rfl⟩ := h1
  have hX := kb_u_suspect hR hP
  refine q_istore C dL_law_1234 (by decide) rfl ?_
  refine q_aload_n C dL_law_1236 rfl ?_
  refine x_arg C hs (i := i) (j := 1) (by omega) dL_law_1237 dL_law_1238 dL_law_1240 (by decide) dL_law_1241 dL_law_1242 rfl rfl ?_
  refine x_arg C hs (i := i) (j := 2) (by omega) dL_law_1243 dL_law_1244 dL_law_1246 (by decide) dL_law_1247 dL_law_1248 rfl rfl ?_
  refine x_callV (As := [_, _]) (nA := 2) (T := TX5) (NF := 15) C dL_law_1249 ob_M rfl (m_msuspect l E X1 Y1 (xs (i + 1)) (xs (i + 2)) (hX.mi hR.1)) gL_law_X5_suspect rfl (by decide +kernel) rfl ⟨Nat.le_of_ble_eq_true rfl, Nat.le_of_ble_eq_true rfl⟩ (Nat.le_of_ble_eq_true rfl) ⟨Nat.le_trans (Nat.add_le_add_left (show 2 ≤ 4 by decide) cells) hc.1, Nat.le_trans (Nat.add_le_add_left (show 12 ≤ 24 by decide) slots) hc.2⟩ (fun v2 g2 h2 => ?_)
  obtain ⟨v, X2, rfl, hm, rfl⟩ := kb_sus_om h2
  obtain ⟨s1, s2, s3⟩ := kb_s_suspect hR hP hX hm
  exact kb_tail (pc := 1252) C hk s1 s2 hY ⟨Nat.le_trans (Nat.add_le_add_left (show 2 ≤ 4 by decide) cells) hc.1, Nat.le_trans (Nat.add_le_add_left (show 12 ≤ 24 by decide) slots) hc.2⟩ dL_law_1252 dL_law_1254 dL_law_1255 dL_law_1258 dL_law_1260 (by decide) dL_law_1265 dL_law_1267 (by decide) dL_law_1270 dL_law_1271 dL_law_1272 dL_law_1273 dL_law_1275 dL_law_1276 dL_law_1277 (by decide) dL_law_1282 (by decide) (q_widen (k := cells + 4) (n := slots + 24) (Nat.add_le_add_left (show 2 ≤ 4 by decide) cells) (Nat.add_le_add_left (show 12 ≤ 24 by decide) slots) (K X2 Y1 s3))
set_option maxRecDepth 100000 in
set_option maxHeartbeats 4000000 in
theorem w_count (C : kb_C l E A cL_law 7 RL wsL_law (some .boolean) p s m args meth c) (hs : kb_scr b L xs A s) {X : Nat → Nat → Int32} {Y : Nat → Nat → Int64} {i : Nat} (hi : i + 5 ≤ L) (hR : kb_REL X) (hc : cells + 4 ≤ room_1.cells ∧ slots + 24 ≤ room_1.slots) (K : ∀ X' Y', kb_REL X' → kb_G p l e room_1 s m args below meth c E A 202 7 (kb_ent E X' Y') (cells + 4) (slots + 24) Q 1341 (kb_lvL b i E) []) : kb_G p l e room_1 s m args below meth c E A 202 7 (kb_ent E X Y) cells slots Q 1285 (kb_lvL b i E) [] := by
  unfold kb_lvL
  refine q_aload_n C dL_law_1285 rfl ?_
  refine x_arg C hs (i := i) (j := 1) (by omega) dL_law_1286 dL_law_1287 dL_law_1289 (by decide) dL_law_1290 dL_law_1291 rfl rfl ?_
  refine q_aload_n C dL_law_1292 rfl ?_
  refine q_callSW (As := [_, _, _]) (nA := 3) C dL_law_1293 (h_count l E X Y (xs (i + 1)) hR) gL_law_L_count rfl (by decide +kernel) rfl ⟨Nat.le_of_ble_eq_true rfl, Nat.le_of_ble_eq_true rfl⟩ (Nat.le_of_ble_eq_true rfl) ⟨Nat.le_trans (Nat.add_le_add_left (show 1 ≤ 4 by decide) cells) hc.1, Nat.le_trans (Nat.add_le_add_left (show 6 ≤ 24 by decide) slots) hc.2⟩ (fun v1 g1 h1 => ?_)
  obtain ⟨k, r, X1, Y1, rfl, hk, hP, hY, rfl⟩ := h1
  have hX := kb_u_count hR hP
  refine q_istore C dL_law_1296 (by decide) rfl ?_
  refine q_aload_n C dL_law_1298 rfl ?_
  refine x_arg C hs (i := i) (j := 1) (by omega) dL_law_1299 dL_law_1300 dL_law_1302 (by decide) dL_law_1303 dL_law_1304 rfl rfl ?_
  refine x_callV (As := [_]) (nA := 1) (T := TX5) (NF := 15) C dL_law_1305 ob_M rfl (m_mcount l E X1 Y1 (xs (i + 1))) gL_law_X5_count rfl (by decide +kernel) rfl ⟨Nat.le_of_ble_eq_true rfl, Nat.le_of_ble_eq_true rfl⟩ (Nat.le_of_ble_eq_true rfl) ⟨Nat.le_trans (Nat.add_le_add_left (show 1 ≤ 4 by decide) cells) hc.1, Nat.le_trans (Nat.add_le_add_left (show 6 ≤ 24 by decide) slots) hc.2⟩ (fun v2 g2 h2 => ?_)
  obtain ⟨v, X2, rfl, hm, rfl⟩ := kb_out.om h2
  obtain ⟨s1, s2, s3⟩ := kb_s_count hR hP hm
  exact kb_tail (pc := 1308) C hk s1 s2 hY ⟨Nat.le_trans (Nat.add_le_add_left (show 1 ≤ 4 by decide) cells) hc.1, Nat.le_trans (Nat.add_le_add_left (show 6 ≤ 24 by decide) slots) hc.2⟩ dL_law_1308 dL_law_1310 dL_law_1311 dL_law_1314 dL_law_1316 (by decide) dL_law_1321 dL_law_1323 (by decide) dL_law_1326 dL_law_1327 dL_law_1328 dL_law_1329 dL_law_1331 dL_law_1332 dL_law_1333 (by decide) dL_law_1338 (by decide) (q_widen (k := cells + 4) (n := slots + 24) (Nat.add_le_add_left (show 1 ≤ 4 by decide) cells) (Nat.add_le_add_left (show 6 ≤ 24 by decide) slots) (K X2 Y1 s3))
end KBL

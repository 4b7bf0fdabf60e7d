/-! The law's cases. -/
theorem W1_un {E : String} {c c' : Int} (h : W1 E c) (h' : W1 E c') : c = c' := by rw [h.2, h'.2]
theorem W2_un {E : String} {c c' : Int} (h : W2 E c) (h' : W2 E c') : c = c' := by
  obtain ⟨rfl, h⟩ := h
  obtain ⟨e, h'⟩ := h'
  rcases h with rfl | rfl <;> rcases h' with rfl | rfl <;> first | rfl | exact absurd e (by decide)
theorem W3_un {E : String} {c c' : Int} (h : W3 E c) (h' : W3 E c') : c = c' := by
  obtain ⟨rfl, h⟩ := h
  obtain ⟨e, h'⟩ := h'
  rcases h with rfl | rfl | rfl <;> rcases h' with rfl | rfl | rfl <;> first | rfl | exact absurd e (by decide)
theorem Wc_un {E : String} {c c' : Int} (h : Wc E c) (h' : Wc E c') : c = c' := by
  rcases h with ⟨rfl, rfl⟩ | ⟨rfl, rfl⟩ <;> rcases h' with ⟨e, rfl⟩ | ⟨e, rfl⟩ <;> first | rfl | exact absurd e (by decide)
theorem Wl_un {E : String} {c c' : Int} (h : Wl E c) (h' : Wl E c') : c = c' := by
  rcases h with ⟨rfl, rfl⟩ | ⟨rfl, rfl⟩ <;> rcases h' with ⟨e, rfl⟩ | ⟨e, rfl⟩ <;> first | rfl | exact absurd e (by decide)
theorem Wr_un {E : String} {c c' : Int} (h : Wr E c) (h' : Wr E c') : c = c' := by
  rcases h with ⟨rfl, rfl⟩ | ⟨rfl, rfl⟩ <;> rcases h' with ⟨e, rfl⟩ | ⟨e, rfl⟩ <;> first | rfl | exact absurd e (by decide)
theorem Wt_un {E : String} {c c' : Int} (h : Wt E c) (h' : Wt E c') : c = c' := by rw [h.2, h'.2]
theorem W1_z {E : String} {c : Int} (h : W1 E c) : ¬ zI c = 0 := by rw [h.2]; decide
theorem W2_z {E : String} {c : Int} (h : W2 E c) : ¬ zI c = 0 := by rcases h.2 with rfl | rfl <;> decide
theorem W3_z {E : String} {c : Int} (h : W3 E c) : ¬ zI c = 0 := by rcases h.2 with rfl | rfl | rfl <;> decide
theorem Wc_z {E : String} {c : Int} (h : Wc E c) : ¬ zI c = 0 := by rcases h with ⟨_, rfl⟩ | ⟨_, rfl⟩ <;> decide
theorem Wl_z {E : String} {c : Int} (h : Wl E c) : ¬ zI c = 0 := by rcases h with ⟨_, rfl⟩ | ⟨_, rfl⟩ <;> decide
theorem Wr_z {E : String} {c : Int} (h : Wr E c) : ¬ zI c = 0 := by rcases h with ⟨_, rfl⟩ | ⟨_, rfl⟩ <;> decide
theorem Wt_z {E : String} {c : Int} (h : Wt E c) : ¬ zI c = 0 := by rw [h.2]; decide
theorem gq1 {G g' : Int} (e : g' = G) (r : G = 0 ∨ G = 1) : (G = 0 → g' = 0) ∧ (G ≠ 0 → g' ≠ 0 ∧ W1 (exN G) g') := by
  subst e
  exact ⟨id, fun h => ⟨h, rfl, by omega⟩⟩
theorem rgT1 {M : qM} : gor (gText M) 0 = 0 ∨ gor (gText M) 0 = 1 := by
  rw [gor_z]
  unfold gText
  by_cases g : M 0 9 = 1
  · rw [if_pos g]; exact Or.inl rfl
  · rw [if_neg g]; exact Or.inr rfl
set_option maxHeartbeats 1000000 in
theorem p_cheapest1 {M : qM} (hI : Inv M)  : qPr W1 mX7_cheapest mX8_cheapest 1 9 9 [] M := by
  obtain ⟨hC, hM, _⟩ := id hI
  obtain ⟨L, hR, hL4, h6, h11⟩ := Inv_L hI
  have hpL := p4_in (L : Int)
  refine pr_q (R' := fun M1 z' M2 => _) hI (k_cheapest hC hR.1 ) (fun z M1 q => q.2) (fun M1 e i l => o_cheapest i (by rw [l]; exact hR.2.1) ) (fun M1 e37 es e => ?_) (fun z M1 z' M2 es e37 e g q q' => ?_)
  · refine gq1 ?_ rgT1
    rw [gT_e hR]
    simp only [gG, gor_as, gor_z]
    unfold mT  
    rw [e37]
  · rw [es] at q'
    obtain ⟨q1, q2⟩ := q
    obtain ⟨q3, q4⟩ := q'
    refine ⟨?_, q4⟩
    simp only [gor_00] at g
    obtain ⟨gT, _⟩ := g
    rw [q3, q1, e37, h11]
    exact (bst_e (Int.le_refl 0) _ (fun i i0 i1 => tsz_eL hL4 (R_c hR ⟨i0, by omega⟩))).symm
section CASES
variable {X : qX} {rt : Option FieldType} {cy : ClassId × ClassId} {A : Nat → Prop} {Q : State → Prop} {kc ks : Nat} {Ls : Nat} {xs : Nat → Int32} {i : Int} {w : lM}
set_option maxHeartbeats 1000000 in
theorem lc_0 (hs : lScr X A Ls xs) (h2 : Ls ≤ 3072) (i0 : 0 ≤ i) (i6 : i + 6 ≤ Ls) (hI : Inv w.1) (hkc : kc + 6 ≤ 601024) (hks : ks + 36 ≤ 7293033) (loop : ∀ w' : lM, Inv w'.1 → LW X (cL_law, 9, rt, room_1, [], cy, A, Q) (kc + 6) (ks + 36) 3627 [some (.ref 54), some (.ref 0), some (.ref 37), some (.ref 52), some (.ref 53), some (.int (zI i)), none, none, none] [] w') : LW X (cL_law, 9, rt, room_1, [], cy, A, Q) kc ks 268 [some (.ref 54), some (.ref 0), some (.ref 37), some (.ref 52), some (.ref 53), some (.int (zI i)), none, none, none] [] w := by
  obtain ⟨P', hC, hP1, hP2⟩ := p_append hI 
  refine l_aload_n dL_law_268 rfl ?_
  refine l_arg (j := 1) hs (by omega) (by omega) h2 dL_law_269 dL_law_270 dL_law_272 dL_law_273 dL_law_274 rfl rfl ?_
  refine l_arg (j := 2) hs (by omega) (by omega) h2 dL_law_275 dL_law_276 dL_law_278 dL_law_279 dL_law_280 rfl rfl ?_
  refine l_arg (j := 3) hs (by omega) (by omega) h2 dL_law_281 dL_law_282 dL_law_284 dL_law_285 dL_law_286 rfl rfl ?_
  refine l_arg (j := 4) hs (by omega) (by omega) h2 dL_law_287 dL_law_288 dL_law_290 dL_law_291 dL_law_292 rfl rfl ?_
  refine l_arg (j := 5) hs (by omega) (by omega) h2 dL_law_293 dL_law_294 dL_law_296 dL_law_297 dL_law_298 rfl rfl ?_
  refine l_callM (av := [.int (zI (xs (i + 1).toNat).toInt), .int (zI (xs (i + 2).toNat).toInt), .int (zI (xs (i + 3).toNat).toInt), .int (zI (xs (i + 4).toNat).toInt), .int (zI (xs (i + 5).toNat).toInt)]) (o := 0) (rest := []) dL_law_299 mlL_168 md_X7_append hC rfl rfl rfl (by decide) (by decide) (by show _ ≤ 601024; omega) (by show _ ≤ 7293033; omega) (Nat.le_of_ble_eq_true rfl) (fun E M' h => (hP2 E M' h).elim fun c hc => hc.1) (fun v M' hp => ?_)
  obtain ⟨z, rfl, hM⟩ := hP1 v M' hp
  refine l_aload_n dL_law_302 rfl ?_
  refine l_arg (j := 1) hs (by omega) (by omega) h2 dL_law_303 dL_law_304 dL_law_306 dL_law_307 dL_law_308 rfl rfl ?_
  refine l_arg (j := 2) hs (by omega) (by omega) h2 dL_law_309 dL_law_310 dL_law_312 dL_law_313 dL_law_314 rfl rfl ?_
  refine l_arg (j := 3) hs (by omega) (by omega) h2 dL_law_315 dL_law_316 dL_law_318 dL_law_319 dL_law_320 rfl rfl ?_
  refine l_arg (j := 4) hs (by omega) (by omega) h2 dL_law_321 dL_law_322 dL_law_324 dL_law_325 dL_law_326 rfl rfl ?_
  refine l_arg (j := 5) hs (by omega) (by omega) h2 dL_law_327 dL_law_328 dL_law_330 dL_law_331 dL_law_332 rfl rfl ?_
  refine l_callM (av := [.int (zI (xs (i + 1).toNat).toInt), .int (zI (xs (i + 2).toNat).toInt), .int (zI (xs (i + 3).toNat).toInt), .int (zI (xs (i + 4).toNat).toInt), .int (zI (xs (i + 5).toNat).toInt)]) (o := 37) (rest := [.int (zI z)]) dL_law_333 mlL_172 md_X8_append hM rfl rfl rfl (by decide) (by decide) (by show _ ≤ 601024; omega) (by show _ ≤ 7293033; omega) (Nat.le_of_ble_eq_true rfl) (fun E M' h => h) (fun v M2 hq => ?_)
  obtain ⟨z', rfl, rfl, h0, hI2⟩ := hq
  refine l_icmp_eqT (tgt := 3627) dL_law_336 rfl rfl ?_
  refine l_weak (L' := [some (.ref 54), some (.ref 0), some (.ref 37), some (.ref 52), some (.ref 53), some (.int (zI i)), none, none, none]) (by simp [wkB]) (l_widen (by omega) (by omega) (loop _ ?_))
  exact hI2
set_option maxHeartbeats 1000000 in
theorem lc_1 (hs : lScr X A Ls xs) (h2 : Ls ≤ 3072) (i0 : 0 ≤ i) (i6 : i + 6 ≤ Ls) (hI : Inv w.1) (hkc : kc + 6 ≤ 601024) (hks : ks + 36 ≤ 7293033) (loop : ∀ w' : lM, Inv w'.1 → LW X (cL_law, 9, rt, room_1, [], cy, A, Q) (kc + 6) (ks + 36) 3627 [some (.ref 54), some (.ref 0), some (.ref 37), some (.ref 52), some (.ref 53), some (.int (zI i)), none, none, none] [] w') : LW X (cL_law, 9, rt, room_1, [], cy, A, Q) kc ks 341 [some (.ref 54), some (.ref 0), some (.ref 37), some (.ref 52), some (.ref 53), some (.int (zI i)), none, none, none] [] w := by
  obtain ⟨P', hC, hP1, hP2⟩ := p_load hI (zR_of (xs (i + 1).toNat))
  refine l_aload_n dL_law_341 rfl ?_
  refine l_arg (j := 1) hs (by omega) (by omega) h2 dL_law_342 dL_law_343 dL_law_345 dL_law_346 dL_law_347 rfl rfl ?_
  refine l_aload_n dL_law_348 rfl ?_
  refine l_callW (av := [.ref 0, .int (zI (xs (i + 1).toNat).toInt), .ref 52]) (rest := []) dL_law_349 mlL_173 mdL_load (w_load hC (fun v M' h => (hP1 v M' h).elim fun z hz => ⟨z, hz.1⟩) (fun E M' h => (hP2 E M' h).elim fun c hc => ⟨c, hc.1⟩)) rfl (by decide) (by decide) (by show _ ≤ 601024; omega) (by show _ ≤ 7293033; omega) (Nat.le_of_ble_eq_true rfl) (fun v w' hq => ?_)
  rcases hq with ⟨z, M', rfl, hz, hw1, hw2⟩ | ⟨E, M', c, hWc, hE, rfl, rfl⟩
  · obtain ⟨z2, e2, hM⟩ := hP1 _ _ hz
    have e3 : zI z = zI z2 := by simpa using e2
    rw [← hw1] at hM
    refine l_istore dL_law_352 (by decide) rfl ?_
    refine l_aload_n dL_law_354 rfl ?_
    refine l_arg (j := 1) hs (by omega) (by omega) h2 dL_law_355 dL_law_356 dL_law_358 dL_law_359 dL_law_360 rfl rfl ?_
    refine l_callM (av := [.int (zI (xs (i + 1).toNat).toInt)]) (o := 37) (rest := []) dL_law_361 mlL_178 md_X8_load hM rfl rfl rfl (by decide) (by decide) (by show _ ≤ 601024; omega) (by show _ ≤ 7293033; omega) (Nat.le_of_ble_eq_true rfl) (fun E M' h => h) (fun v M2 hq => ?_)
    obtain ⟨z', rfl, hz', h0, hI2⟩ := hq
    refine l_istore dL_law_364 (by decide) rfl ?_
    refine l_aload_n dL_law_366 rfl ?_
    refine l_callM (av := []) (o := 37) (rest := []) dL_law_367 mlL_179 md_X8_thrown (m_thrown (M := M2)) rfl rfl rfl (by decide) (by decide) (by show _ ≤ 601024; omega) (by show _ ≤ 7293033; omega) (Nat.le_of_ble_eq_true rfl) (fun E M' h => h) (fun v M3 hq => ?_)
    obtain ⟨rfl, rfl⟩ := hq
    refine l_iload dL_law_370 rfl ?_
    refine l_icmp_eqT (tgt := 377) dL_law_372 rfl (by rw [h0]) ?_
    refine l_iload dL_law_377 rfl ?_
    refine l_if_ne (tgt := 394) dL_law_379 rfl (fun h => absurd (by decide) h) (fun _ => ?_)
    refine l_aload_n dL_law_382 rfl ?_
    refine l_iconst dL_law_383 ?_
    refine l_laload dL_law_384 ?_
    refine l_iload dL_law_385 rfl ?_
    refine l_i2l dL_law_387 ?_
    refine l_lcmpE dL_law_388 (by show w'.2.1 0 = (zI z').toInt64; rw [hw2, e3, hz']) ?_
    refine l_if_eq (tgt := 394) dL_law_389 rfl (fun _ => ?_) (fun h => absurd (by decide) h)
    refine l_goto (tgt := 3627) dL_law_394 rfl ?_
    refine l_weak (L' := [some (.ref 54), some (.ref 0), some (.ref 37), some (.ref 52), some (.ref 53), some (.int (zI i)), none, none, none]) (by simp [wkB]) (l_widen (by omega) (by omega) (loop _ ?_))
    exact hI2
  · obtain ⟨c2, hW2, hM⟩ := hP2 _ _ hE
    have ec : c2 = c := Wl_un hW2 hWc
    subst ec
    refine l_istore dL_law_352 (by decide) rfl ?_
    refine l_aload_n dL_law_354 rfl ?_
    refine l_arg (j := 1) hs (by omega) (by omega) h2 dL_law_355 dL_law_356 dL_law_358 dL_law_359 dL_law_360 rfl rfl ?_
    refine l_callM (av := [.int (zI (xs (i + 1).toNat).toInt)]) (o := 37) (rest := []) dL_law_361 mlL_178 md_X8_load hM rfl rfl rfl (by decide) (by decide) (by show _ ≤ 601024; omega) (by show _ ≤ 7293033; omega) (Nat.le_of_ble_eq_true rfl) (fun E M' h => h) (fun v M2 hq => ?_)
    obtain ⟨z', rfl, h0, hI2⟩ := hq
    refine l_istore dL_law_364 (by decide) rfl ?_
    refine l_aload_n dL_law_366 rfl ?_
    refine l_callM (av := []) (o := 37) (rest := []) dL_law_367 mlL_179 md_X8_thrown (m_thrown (M := M2)) rfl rfl rfl (by decide) (by decide) (by show _ ≤ 601024; omega) (by show _ ≤ 7293033; omega) (Nat.le_of_ble_eq_true rfl) (fun E M' h => h) (fun v M3 hq => ?_)
    obtain ⟨rfl, rfl⟩ := hq
    refine l_iload dL_law_370 rfl ?_
    refine l_icmp_eqT (tgt := 377) dL_law_372 rfl (by rw [h0]) ?_
    refine l_iload dL_law_377 rfl ?_
    refine l_if_ne (tgt := 394) dL_law_379 rfl (fun _ => ?_) (fun h => absurd h (Wl_z hWc))
    refine l_goto (tgt := 3627) dL_law_394 rfl ?_
    refine l_weak (L' := [some (.ref 54), some (.ref 0), some (.ref 37), some (.ref 52), some (.ref 53), some (.int (zI i)), none, none, none]) (by simp [wkB]) (l_widen (by omega) (by omega) (loop _ ?_))
    exact hI2
set_option maxHeartbeats 1000000 in
theorem lc_2 (hs : lScr X A Ls xs) (h2 : Ls ≤ 3072) (i0 : 0 ≤ i) (i6 : i + 6 ≤ Ls) (hI : Inv w.1) (hkc : kc + 6 ≤ 601024) (hks : ks + 36 ≤ 7293033) (loop : ∀ w' : lM, Inv w'.1 → LW X (cL_law, 9, rt, room_1, [], cy, A, Q) (kc + 6) (ks + 36) 3627 [some (.ref 54), some (.ref 0), some (.ref 37), some (.ref 52), some (.ref 53), some (.int (zI i)), none, none, none] [] w') : LW X (cL_law, 9, rt, room_1, [], cy, A, Q) kc ks 397 [some (.ref 54), some (.ref 0), some (.ref 37), some (.ref 52), some (.ref 53), some (.int (zI i)), none, none, none] [] w := by
  obtain ⟨P', hC, hP1, hP2⟩ := p_parseError hI 
  refine l_aload_n dL_law_397 rfl ?_
  refine l_callM (av := []) (o := 0) (rest := []) dL_law_398 mlL_182 md_X7_parseError hC rfl rfl rfl (by decide) (by decide) (by show _ ≤ 601024; omega) (by show _ ≤ 7293033; omega) (Nat.le_of_ble_eq_true rfl) (fun E M' h => (hP2 E M' h).elim fun c hc => hc.1) (fun v M' hp => ?_)
  obtain ⟨z, rfl, hM⟩ := hP1 v M' hp
  refine l_aload_n dL_law_401 rfl ?_
  refine l_callM (av := []) (o := 37) (rest := [.int (zI z)]) dL_law_402 mlL_185 md_X8_parseError hM rfl rfl rfl (by decide) (by decide) (by show _ ≤ 601024; omega) (by show _ ≤ 7293033; omega) (Nat.le_of_ble_eq_true rfl) (fun E M' h => h) (fun v M2 hq => ?_)
  obtain ⟨z', rfl, rfl, h0, hI2⟩ := hq
  refine l_icmp_eqT (tgt := 3627) dL_law_405 rfl rfl ?_
  refine l_weak (L' := [some (.ref 54), some (.ref 0), some (.ref 37), some (.ref 52), some (.ref 53), some (.int (zI i)), none, none, none]) (by simp [wkB]) (l_widen (by omega) (by omega) (loop _ ?_))
  exact hI2
set_option maxHeartbeats 1000000 in
theorem lc_3 (hs : lScr X A Ls xs) (h2 : Ls ≤ 3072) (i0 : 0 ≤ i) (i6 : i + 6 ≤ Ls) (hI : Inv w.1) (hkc : kc + 6 ≤ 601024) (hks : ks + 36 ≤ 7293033) (loop : ∀ w' : lM, Inv w'.1 → LW X (cL_law, 9, rt, room_1, [], cy, A, Q) (kc + 6) (ks + 36) 3627 [some (.ref 54), some (.ref 0), some (.ref 37), some (.ref 52), some (.ref 53), some (.int (zI i)), none, none, none] [] w') : LW X (cL_law, 9, rt, room_1, [], cy, A, Q) kc ks 410 [some (.ref 54), some (.ref 0), some (.ref 37), some (.ref 52), some (.ref 53), some (.int (zI i)), none, none, none] [] w := by
  obtain ⟨P', hC, hP1, hP2⟩ := p_errorPosition hI 
  refine l_aload_n dL_law_410 rfl ?_
  refine l_callM (av := []) (o := 0) (rest := []) dL_law_411 mlL_186 md_X7_errorPosition hC rfl rfl rfl (by decide) (by decide) (by show _ ≤ 601024; omega) (by show _ ≤ 7293033; omega) (Nat.le_of_ble_eq_true rfl) (fun E M' h => (hP2 E M' h).elim fun c hc => hc.1) (fun v M' hp => ?_)
  obtain ⟨z, rfl, hM⟩ := hP1 v M' hp
  refine l_aload_n dL_law_414 rfl ?_
  refine l_callM (av := []) (o := 37) (rest := [.int (zI z)]) dL_law_415 mlL_189 md_X8_errorPosition hM rfl rfl rfl (by decide) (by decide) (by show _ ≤ 601024; omega) (by show _ ≤ 7293033; omega) (Nat.le_of_ble_eq_true rfl) (fun E M' h => h) (fun v M2 hq => ?_)
  obtain ⟨z', rfl, rfl, h0, hI2⟩ := hq
  refine l_icmp_eqT (tgt := 3627) dL_law_418 rfl rfl ?_
  refine l_weak (L' := [some (.ref 54), some (.ref 0), some (.ref 37), some (.ref 52), some (.ref 53), some (.int (zI i)), none, none, none]) (by simp [wkB]) (l_widen (by omega) (by omega) (loop _ ?_))
  exact hI2
set_option maxHeartbeats 1000000 in
theorem lc_4 (hs : lScr X A Ls xs) (h2 : Ls ≤ 3072) (i0 : 0 ≤ i) (i6 : i + 6 ≤ Ls) (hI : Inv w.1) (hkc : kc + 6 ≤ 601024) (hks : ks + 36 ≤ 7293033) (loop : ∀ w' : lM, Inv w'.1 → LW X (cL_law, 9, rt, room_1, [], cy, A, Q) (kc + 6) (ks + 36) 3627 [some (.ref 54), some (.ref 0), some (.ref 37), some (.ref 52), some (.ref 53), some (.int (zI i)), none, none, none] [] w') : LW X (cL_law, 9, rt, room_1, [], cy, A, Q) kc ks 423 [some (.ref 54), some (.ref 0), some (.ref 37), some (.ref 52), some (.ref 53), some (.int (zI i)), none, none, none] [] w := by
  obtain ⟨P', hC, hP1, hP2⟩ := p_buffered hI 
  refine l_aload_n dL_law_423 rfl ?_
  refine l_callM (av := []) (o := 0) (rest := []) dL_law_424 mlL_190 md_X7_buffered hC rfl rfl rfl (by decide) (by decide) (by show _ ≤ 601024; omega) (by show _ ≤ 7293033; omega) (Nat.le_of_ble_eq_true rfl) (fun E M' h => (hP2 E M' h).elim fun c hc => hc.1) (fun v M' hp => ?_)
  obtain ⟨z, rfl, hM⟩ := hP1 v M' hp
  refine l_aload_n dL_law_427 rfl ?_
  refine l_callM (av := []) (o := 37) (rest := [.int (zI z)]) dL_law_428 mlL_193 md_X8_buffered hM rfl rfl rfl (by decide) (by decide) (by show _ ≤ 601024; omega) (by show _ ≤ 7293033; omega) (Nat.le_of_ble_eq_true rfl) (fun E M' h => h) (fun v M2 hq => ?_)
  obtain ⟨z', rfl, rfl, h0, hI2⟩ := hq
  refine l_icmp_eqT (tgt := 3627) dL_law_431 rfl rfl ?_
  refine l_weak (L' := [some (.ref 54), some (.ref 0), some (.ref 37), some (.ref 52), some (.ref 53), some (.int (zI i)), none, none, none]) (by simp [wkB]) (l_widen (by omega) (by omega) (loop _ ?_))
  exact hI2
set_option maxHeartbeats 1000000 in
theorem lc_5 (hs : lScr X A Ls xs) (h2 : Ls ≤ 3072) (i0 : 0 ≤ i) (i6 : i + 6 ≤ Ls) (hI : Inv w.1) (hkc : kc + 6 ≤ 601024) (hks : ks + 36 ≤ 7293033) (loop : ∀ w' : lM, Inv w'.1 → LW X (cL_law, 9, rt, room_1, [], cy, A, Q) (kc + 6) (ks + 36) 3627 [some (.ref 54), some (.ref 0), some (.ref 37), some (.ref 52), some (.ref 53), some (.int (zI i)), none, none, none] [] w') : LW X (cL_law, 9, rt, room_1, [], cy, A, Q) kc ks 436 [some (.ref 54), some (.ref 0), some (.ref 37), some (.ref 52), some (.ref 53), some (.int (zI i)), none, none, none] [] w := by
  obtain ⟨P', hC, hP1, hP2⟩ := p_find hI (zR_of (xs (i + 1).toNat))
  refine l_aload_n dL_law_436 rfl ?_
  refine l_arg (j := 1) hs (by omega) (by omega) h2 dL_law_437 dL_law_438 dL_law_440 dL_law_441 dL_law_442 rfl rfl ?_
  refine l_aload_n dL_law_443 rfl ?_
  refine l_callW (av := [.ref 0, .int (zI (xs (i + 1).toNat).toInt), .ref 52]) (rest := []) dL_law_444 mlL_194 mdL_find (w_find hC (fun v M' h => (hP1 v M' h).elim fun z hz => ⟨z, hz.1⟩) (fun E M' h => (hP2 E M' h).elim fun c hc => ⟨c, hc.1⟩)) rfl (by decide) (by decide) (by show _ ≤ 601024; omega) (by show _ ≤ 7293033; omega) (Nat.le_of_ble_eq_true rfl) (fun v w' hq => ?_)
  rcases hq with ⟨z, M', rfl, hz, hw1, hw2⟩ | ⟨E, M', c, hWc, hE, rfl, rfl⟩
  · obtain ⟨z2, e2, hM⟩ := hP1 _ _ hz
    have e3 : zI z = zI z2 := by simpa using e2
    rw [← hw1] at hM
    refine l_istore dL_law_447 (by decide) rfl ?_
    refine l_aload_n dL_law_449 rfl ?_
    refine l_arg (j := 1) hs (by omega) (by omega) h2 dL_law_450 dL_law_451 dL_law_453 dL_law_454 dL_law_455 rfl rfl ?_
    refine l_callM (av := [.int (zI (xs (i + 1).toNat).toInt)]) (o := 37) (rest := []) dL_law_456 mlL_196 md_X8_find hM rfl rfl rfl (by decide) (by decide) (by show _ ≤ 601024; omega) (by show _ ≤ 7293033; omega) (Nat.le_of_ble_eq_true rfl) (fun E M' h => h) (fun v M2 hq => ?_)
    obtain ⟨z', rfl, hz', h0, hI2⟩ := hq
    refine l_istore dL_law_459 (by decide) rfl ?_
    refine l_aload_n dL_law_461 rfl ?_
    refine l_callM (av := []) (o := 37) (rest := []) dL_law_462 mlL_179 md_X8_thrown (m_thrown (M := M2)) rfl rfl rfl (by decide) (by decide) (by show _ ≤ 601024; omega) (by show _ ≤ 7293033; omega) (Nat.le_of_ble_eq_true rfl) (fun E M' h => h) (fun v M3 hq => ?_)
    obtain ⟨rfl, rfl⟩ := hq
    refine l_iload dL_law_465 rfl ?_
    refine l_icmp_eqT (tgt := 472) dL_law_467 rfl (by rw [h0]) ?_
    refine l_iload dL_law_472 rfl ?_
    refine l_if_ne (tgt := 489) dL_law_474 rfl (fun h => absurd (by decide) h) (fun _ => ?_)
    refine l_aload_n dL_law_477 rfl ?_
    refine l_iconst dL_law_478 ?_
    refine l_laload dL_law_479 ?_
    refine l_iload dL_law_480 rfl ?_
    refine l_i2l dL_law_482 ?_
    refine l_lcmpE dL_law_483 (by show w'.2.1 0 = (zI z').toInt64; rw [hw2, e3, hz']) ?_
    refine l_if_eq (tgt := 489) dL_law_484 rfl (fun _ => ?_) (fun h => absurd (by decide) h)
    refine l_goto (tgt := 3627) dL_law_489 rfl ?_
    refine l_weak (L' := [some (.ref 54), some (.ref 0), some (.ref 37), some (.ref 52), some (.ref 53), some (.int (zI i)), none, none, none]) (by simp [wkB]) (l_widen (by omega) (by omega) (loop _ ?_))
    exact hI2
  · obtain ⟨c2, hW2, hM⟩ := hP2 _ _ hE
    have ec : c2 = c := W2_un hW2 hWc
    subst ec
    refine l_istore dL_law_447 (by decide) rfl ?_
    refine l_aload_n dL_law_449 rfl ?_
    refine l_arg (j := 1) hs (by omega) (by omega) h2 dL_law_450 dL_law_451 dL_law_453 dL_law_454 dL_law_455 rfl rfl ?_
    refine l_callM (av := [.int (zI (xs (i + 1).toNat).toInt)]) (o := 37) (rest := []) dL_law_456 mlL_196 md_X8_find hM rfl rfl rfl (by decide) (by decide) (by show _ ≤ 601024; omega) (by show _ ≤ 7293033; omega) (Nat.le_of_ble_eq_true rfl) (fun E M' h => h) (fun v M2 hq => ?_)
    obtain ⟨z', rfl, h0, hI2⟩ := hq
    refine l_istore dL_law_459 (by decide) rfl ?_
    refine l_aload_n dL_law_461 rfl ?_
    refine l_callM (av := []) (o := 37) (rest := []) dL_law_462 mlL_179 md_X8_thrown (m_thrown (M := M2)) rfl rfl rfl (by decide) (by decide) (by show _ ≤ 601024; omega) (by show _ ≤ 7293033; omega) (Nat.le_of_ble_eq_true rfl) (fun E M' h => h) (fun v M3 hq => ?_)
    obtain ⟨rfl, rfl⟩ := hq
    refine l_iload dL_law_465 rfl ?_
    refine l_icmp_eqT (tgt := 472) dL_law_467 rfl (by rw [h0]) ?_
    refine l_iload dL_law_472 rfl ?_
    refine l_if_ne (tgt := 489) dL_law_474 rfl (fun _ => ?_) (fun h => absurd h (W2_z hWc))
    refine l_goto (tgt := 3627) dL_law_489 rfl ?_
    refine l_weak (L' := [some (.ref 54), some (.ref 0), some (.ref 37), some (.ref 52), some (.ref 53), some (.int (zI i)), none, none, none]) (by simp [wkB]) (l_widen (by omega) (by omega) (loop _ ?_))
    exact hI2
set_option maxHeartbeats 1000000 in
theorem lc_6 (hs : lScr X A Ls xs) (h2 : Ls ≤ 3072) (i0 : 0 ≤ i) (i6 : i + 6 ≤ Ls) (hI : Inv w.1) (hkc : kc + 6 ≤ 601024) (hks : ks + 36 ≤ 7293033) (loop : ∀ w' : lM, Inv w'.1 → LW X (cL_law, 9, rt, room_1, [], cy, A, Q) (kc + 6) (ks + 36) 3627 [some (.ref 54), some (.ref 0), some (.ref 37), some (.ref 52), some (.ref 53), some (.int (zI i)), none, none, none] [] w') : LW X (cL_law, 9, rt, room_1, [], cy, A, Q) kc ks 492 [some (.ref 54), some (.ref 0), some (.ref 37), some (.ref 52), some (.ref 53), some (.int (zI i)), none, none, none] [] w := by
  obtain ⟨P', hC, hP1, hP2⟩ := p_checks hI (zR_of (xs (i + 1).toNat))
  refine l_aload_n dL_law_492 rfl ?_
  refine l_arg (j := 1) hs (by omega) (by omega) h2 dL_law_493 dL_law_494 dL_law_496 dL_law_497 dL_law_498 rfl rfl ?_
  refine l_aload_n dL_law_499 rfl ?_
  refine l_callW (av := [.ref 0, .int (zI (xs (i + 1).toNat).toInt), .ref 52]) (rest := []) dL_law_500 mlL_197 mdL_checks (w_checks hC (fun v M' h => (hP1 v M' h).elim fun z hz => ⟨z, hz.1⟩) (fun E M' h => (hP2 E M' h).elim fun c hc => ⟨c, hc.1⟩)) rfl (by decide) (by decide) (by show _ ≤ 601024; omega) (by show _ ≤ 7293033; omega) (Nat.le_of_ble_eq_true rfl) (fun v w' hq => ?_)
  rcases hq with ⟨z, M', rfl, hz, hw1, hw2⟩ | ⟨E, M', c, hWc, hE, rfl, rfl⟩
  · obtain ⟨z2, e2, hM⟩ := hP1 _ _ hz
    have e3 : zI z = zI z2 := by simpa using e2
    rw [← hw1] at hM
    refine l_istore dL_law_503 (by decide) rfl ?_
    refine l_aload_n dL_law_505 rfl ?_
    refine l_arg (j := 1) hs (by omega) (by omega) h2 dL_law_506 dL_law_507 dL_law_509 dL_law_510 dL_law_511 rfl rfl ?_
    refine l_callM (av := [.int (zI (xs (i + 1).toNat).toInt)]) (o := 37) (rest := []) dL_law_512 mlL_199 md_X8_checks hM rfl rfl rfl (by decide) (by decide) (by show _ ≤ 601024; omega) (by show _ ≤ 7293033; omega) (Nat.le_of_ble_eq_true rfl) (fun E M' h => h) (fun v M2 hq => ?_)
    obtain ⟨z', rfl, hz', h0, hI2⟩ := hq
    refine l_istore dL_law_515 (by decide) rfl ?_
    refine l_aload_n dL_law_517 rfl ?_
    refine l_callM (av := []) (o := 37) (rest := []) dL_law_518 mlL_179 md_X8_thrown (m_thrown (M := M2)) rfl rfl rfl (by decide) (by decide) (by show _ ≤ 601024; omega) (by show _ ≤ 7293033; omega) (Nat.le_of_ble_eq_true rfl) (fun E M' h => h) (fun v M3 hq => ?_)
    obtain ⟨rfl, rfl⟩ := hq
    refine l_iload dL_law_521 rfl ?_
    refine l_icmp_eqT (tgt := 528) dL_law_523 rfl (by rw [h0]) ?_
    refine l_iload dL_law_528 rfl ?_
    refine l_if_ne (tgt := 545) dL_law_530 rfl (fun h => absurd (by decide) h) (fun _ => ?_)
    refine l_aload_n dL_law_533 rfl ?_
    refine l_iconst dL_law_534 ?_
    refine l_laload dL_law_535 ?_
    refine l_iload dL_law_536 rfl ?_
    refine l_i2l dL_law_538 ?_
    refine l_lcmpE dL_law_539 (by show w'.2.1 0 = (zI z').toInt64; rw [hw2, e3, hz']) ?_
    refine l_if_eq (tgt := 545) dL_law_540 rfl (fun _ => ?_) (fun h => absurd (by decide) h)
    refine l_goto (tgt := 3627) dL_law_545 rfl ?_
    refine l_weak (L' := [some (.ref 54), some (.ref 0), some (.ref 37), some (.ref 52), some (.ref 53), some (.int (zI i)), none, none, none]) (by simp [wkB]) (l_widen (by omega) (by omega) (loop _ ?_))
    exact hI2
  · obtain ⟨c2, hW2, hM⟩ := hP2 _ _ hE
    have ec : c2 = c := W2_un hW2 hWc
    subst ec
    refine l_istore dL_law_503 (by decide) rfl ?_
    refine l_aload_n dL_law_505 rfl ?_
    refine l_arg (j := 1) hs (by omega) (by omega) h2 dL_law_506 dL_law_507 dL_law_509 dL_law_510 dL_law_511 rfl rfl ?_
    refine l_callM (av := [.int (zI (xs (i + 1).toNat).toInt)]) (o := 37) (rest := []) dL_law_512 mlL_199 md_X8_checks hM rfl rfl rfl (by decide) (by decide) (by show _ ≤ 601024; omega) (by show _ ≤ 7293033; omega) (Nat.le_of_ble_eq_true rfl) (fun E M' h => h) (fun v M2 hq => ?_)
    obtain ⟨z', rfl, h0, hI2⟩ := hq
    refine l_istore dL_law_515 (by decide) rfl ?_
    refine l_aload_n dL_law_517 rfl ?_
    refine l_callM (av := []) (o := 37) (rest := []) dL_law_518 mlL_179 md_X8_thrown (m_thrown (M := M2)) rfl rfl rfl (by decide) (by decide) (by show _ ≤ 601024; omega) (by show _ ≤ 7293033; omega) (Nat.le_of_ble_eq_true rfl) (fun E M' h => h) (fun v M3 hq => ?_)
    obtain ⟨rfl, rfl⟩ := hq
    refine l_iload dL_law_521 rfl ?_
    refine l_icmp_eqT (tgt := 528) dL_law_523 rfl (by rw [h0]) ?_
    refine l_iload dL_law_528 rfl ?_
    refine l_if_ne (tgt := 545) dL_law_530 rfl (fun _ => ?_) (fun h => absurd h (W2_z hWc))
    refine l_goto (tgt := 3627) dL_law_545 rfl ?_
    refine l_weak (L' := [some (.ref 54), some (.ref 0), some (.ref 37), some (.ref 52), some (.ref 53), some (.int (zI i)), none, none, none]) (by simp [wkB]) (l_widen (by omega) (by omega) (loop _ ?_))
    exact hI2
set_option maxHeartbeats 1000000 in
theorem lc_7 (hs : lScr X A Ls xs) (h2 : Ls ≤ 3072) (i0 : 0 ≤ i) (i6 : i + 6 ≤ Ls) (hI : Inv w.1) (hkc : kc + 6 ≤ 601024) (hks : ks + 36 ≤ 7293033) (loop : ∀ w' : lM, Inv w'.1 → LW X (cL_law, 9, rt, room_1, [], cy, A, Q) (kc + 6) (ks + 36) 3627 [some (.ref 54), some (.ref 0), some (.ref 37), some (.ref 52), some (.ref 53), some (.int (zI i)), none, none, none] [] w') : LW X (cL_law, 9, rt, room_1, [], cy, A, Q) kc ks 548 [some (.ref 54), some (.ref 0), some (.ref 37), some (.ref 52), some (.ref 53), some (.int (zI i)), none, none, none] [] w := by
  obtain ⟨P', hC, hP1, hP2⟩ := p_count hI (zR_of (xs (i + 1).toNat))
  refine l_aload_n dL_law_548 rfl ?_
  refine l_arg (j := 1) hs (by omega) (by omega) h2 dL_law_549 dL_law_550 dL_law_552 dL_law_553 dL_law_554 rfl rfl ?_
  refine l_aload_n dL_law_555 rfl ?_
  refine l_callW (av := [.ref 0, .int (zI (xs (i + 1).toNat).toInt), .ref 52]) (rest := []) dL_law_556 mlL_200 mdL_count (w_count hC (fun v M' h => (hP1 v M' h).elim fun z hz => ⟨z, hz.1⟩) (fun E M' h => (hP2 E M' h).elim fun c hc => ⟨c, hc.1⟩)) rfl (by decide) (by decide) (by show _ ≤ 601024; omega) (by show _ ≤ 7293033; omega) (Nat.le_of_ble_eq_true rfl) (fun v w' hq => ?_)
  rcases hq with ⟨z, M', rfl, hz, hw1, hw2⟩ | ⟨E, M', c, hWc, hE, rfl, rfl⟩
  · obtain ⟨z2, e2, hM⟩ := hP1 _ _ hz
    have e3 : zI z = zI z2 := by simpa using e2
    rw [← hw1] at hM
    refine l_istore dL_law_559 (by decide) rfl ?_
    refine l_aload_n dL_law_561 rfl ?_
    refine l_arg (j := 1) hs (by omega) (by omega) h2 dL_law_562 dL_law_563 dL_law_565 dL_law_566 dL_law_567 rfl rfl ?_
    refine l_callM (av := [.int (zI (xs (i + 1).toNat).toInt)]) (o := 37) (rest := []) dL_law_568 mlL_202 md_X8_count hM rfl rfl rfl (by decide) (by decide) (by show _ ≤ 601024; omega) (by show _ ≤ 7293033; omega) (Nat.le_of_ble_eq_true rfl) (fun E M' h => h) (fun v M2 hq => ?_)
    obtain ⟨z', rfl, hz', h0, hI2⟩ := hq
    refine l_istore dL_law_571 (by decide) rfl ?_
    refine l_aload_n dL_law_573 rfl ?_
    refine l_callM (av := []) (o := 37) (rest := []) dL_law_574 mlL_179 md_X8_thrown (m_thrown (M := M2)) rfl rfl rfl (by decide) (by decide) (by show _ ≤ 601024; omega) (by show _ ≤ 7293033; omega) (Nat.le_of_ble_eq_true rfl) (fun E M' h => h) (fun v M3 hq => ?_)
    obtain ⟨rfl, rfl⟩ := hq
    refine l_iload dL_law_577 rfl ?_
    refine l_icmp_eqT (tgt := 584) dL_law_579 rfl (by rw [h0]) ?_
    refine l_iload dL_law_584 rfl ?_
    refine l_if_ne (tgt := 601) dL_law_586 rfl (fun h => absurd (by decide) h) (fun _ => ?_)
    refine l_aload_n dL_law_589 rfl ?_
    refine l_iconst dL_law_590 ?_
    refine l_laload dL_law_591 ?_
    refine l_iload dL_law_592 rfl ?_
    refine l_i2l dL_law_594 ?_
    refine l_lcmpE dL_law_595 (by show w'.2.1 0 = (zI z').toInt64; rw [hw2, e3, hz']) ?_
    refine l_if_eq (tgt := 601) dL_law_596 rfl (fun _ => ?_) (fun h => absurd (by decide) h)
    refine l_goto (tgt := 3627) dL_law_601 rfl ?_
    refine l_weak (L' := [some (.ref 54), some (.ref 0), some (.ref 37), some (.ref 52), some (.ref 53), some (.int (zI i)), none, none, none]) (by simp [wkB]) (l_widen (by omega) (by omega) (loop _ ?_))
    exact hI2
  · obtain ⟨c2, hW2, hM⟩ := hP2 _ _ hE
    have ec : c2 = c := Wc_un hW2 hWc
    subst ec
    refine l_istore dL_law_559 (by decide) rfl ?_
    refine l_aload_n dL_law_561 rfl ?_
    refine l_arg (j := 1) hs (by omega) (by omega) h2 dL_law_562 dL_law_563 dL_law_565 dL_law_566 dL_law_567 rfl rfl ?_
    refine l_callM (av := [.int (zI (xs (i + 1).toNat).toInt)]) (o := 37) (rest := []) dL_law_568 mlL_202 md_X8_count hM rfl rfl rfl (by decide) (by decide) (by show _ ≤ 601024; omega) (by show _ ≤ 7293033; omega) (Nat.le_of_ble_eq_true rfl) (fun E M' h => h) (fun v M2 hq => ?_)
    obtain ⟨z', rfl, h0, hI2⟩ := hq
    refine l_istore dL_law_571 (by decide) rfl ?_
    refine l_aload_n dL_law_573 rfl ?_
    refine l_callM (av := []) (o := 37) (rest := []) dL_law_574 mlL_179 md_X8_thrown (m_thrown (M := M2)) rfl rfl rfl (by decide) (by decide) (by show _ ≤ 601024; omega) (by show _ ≤ 7293033; omega) (Nat.le_of_ble_eq_true rfl) (fun E M' h => h) (fun v M3 hq => ?_)
    obtain ⟨rfl, rfl⟩ := hq
    refine l_iload dL_law_577 rfl ?_
    refine l_icmp_eqT (tgt := 584) dL_law_579 rfl (by rw [h0]) ?_
    refine l_iload dL_law_584 rfl ?_
    refine l_if_ne (tgt := 601) dL_law_586 rfl (fun _ => ?_) (fun h => absurd h (Wc_z hWc))
    refine l_goto (tgt := 3627) dL_law_601 rfl ?_
    refine l_weak (L' := [some (.ref 54), some (.ref 0), some (.ref 37), some (.ref 52), some (.ref 53), some (.int (zI i)), none, none, none]) (by simp [wkB]) (l_widen (by omega) (by omega) (loop _ ?_))
    exact hI2
set_option maxHeartbeats 1000000 in
theorem lc_8 (hs : lScr X A Ls xs) (h2 : Ls ≤ 3072) (i0 : 0 ≤ i) (i6 : i + 6 ≤ Ls) (hI : Inv w.1) (hkc : kc + 6 ≤ 601024) (hks : ks + 36 ≤ 7293033) (loop : ∀ w' : lM, Inv w'.1 → LW X (cL_law, 9, rt, room_1, [], cy, A, Q) (kc + 6) (ks + 36) 3627 [some (.ref 54), some (.ref 0), some (.ref 37), some (.ref 52), some (.ref 53), some (.int (zI i)), none, none, none] [] w') : LW X (cL_law, 9, rt, room_1, [], cy, A, Q) kc ks 604 [some (.ref 54), some (.ref 0), some (.ref 37), some (.ref 52), some (.ref 53), some (.int (zI i)), none, none, none] [] w := by
  obtain ⟨P', hC, hP1, hP2⟩ := p_bit hI (zR_of (xs (i + 1).toNat)) (zR_of (xs (i + 2).toNat))
  refine l_aload_n dL_law_604 rfl ?_
  refine l_arg (j := 1) hs (by omega) (by omega) h2 dL_law_605 dL_law_606 dL_law_608 dL_law_609 dL_law_610 rfl rfl ?_
  refine l_arg (j := 2) hs (by omega) (by omega) h2 dL_law_611 dL_law_612 dL_law_614 dL_law_615 dL_law_616 rfl rfl ?_
  refine l_aload_n dL_law_617 rfl ?_
  refine l_callW (av := [.ref 0, .int (zI (xs (i + 1).toNat).toInt), .int (zI (xs (i + 2).toNat).toInt), .ref 52]) (rest := []) dL_law_618 mlL_203 mdL_bit (w_bit hC (fun v M' h => (hP1 v M' h).elim fun z hz => ⟨z, hz.1⟩) (fun E M' h => (hP2 E M' h).elim fun c hc => ⟨c, hc.1⟩)) rfl (by decide) (by decide) (by show _ ≤ 601024; omega) (by show _ ≤ 7293033; omega) (Nat.le_of_ble_eq_true rfl) (fun v w' hq => ?_)
  rcases hq with ⟨z, M', rfl, hz, hw1, hw2⟩ | ⟨E, M', c, hWc, hE, rfl, rfl⟩
  · obtain ⟨z2, e2, hM⟩ := hP1 _ _ hz
    have e3 : zI z = zI z2 := by simpa using e2
    rw [← hw1] at hM
    refine l_istore dL_law_621 (by decide) rfl ?_
    refine l_aload_n dL_law_623 rfl ?_
    refine l_arg (j := 1) hs (by omega) (by omega) h2 dL_law_624 dL_law_625 dL_law_627 dL_law_628 dL_law_629 rfl rfl ?_
    refine l_arg (j := 2) hs (by omega) (by omega) h2 dL_law_630 dL_law_631 dL_law_633 dL_law_634 dL_law_635 rfl rfl ?_
    refine l_callM (av := [.int (zI (xs (i + 1).toNat).toInt), .int (zI (xs (i + 2).toNat).toInt)]) (o := 37) (rest := []) dL_law_636 mlL_206 md_X8_bit hM rfl rfl rfl (by decide) (by decide) (by show _ ≤ 601024; omega) (by show _ ≤ 7293033; omega) (Nat.le_of_ble_eq_true rfl) (fun E M' h => h) (fun v M2 hq => ?_)
    obtain ⟨z', rfl, hz', h0, hI2⟩ := hq
    refine l_istore dL_law_639 (by decide) rfl ?_
    refine l_aload_n dL_law_641 rfl ?_
    refine l_callM (av := []) (o := 37) (rest := []) dL_law_642 mlL_179 md_X8_thrown (m_thrown (M := M2)) rfl rfl rfl (by decide) (by decide) (by show _ ≤ 601024; omega) (by show _ ≤ 7293033; omega) (Nat.le_of_ble_eq_true rfl) (fun E M' h => h) (fun v M3 hq => ?_)
    obtain ⟨rfl, rfl⟩ := hq
    refine l_iload dL_law_645 rfl ?_
    refine l_icmp_eqT (tgt := 652) dL_law_647 rfl (by rw [h0]) ?_
    refine l_iload dL_law_652 rfl ?_
    refine l_if_ne (tgt := 669) dL_law_654 rfl (fun h => absurd (by decide) h) (fun _ => ?_)
    refine l_aload_n dL_law_657 rfl ?_
    refine l_iconst dL_law_658 ?_
    refine l_laload dL_law_659 ?_
    refine l_iload dL_law_660 rfl ?_
    refine l_i2l dL_law_662 ?_
    refine l_lcmpE dL_law_663 (by show w'.2.1 0 = (zI z').toInt64; rw [hw2, e3, hz']) ?_
    refine l_if_eq (tgt := 669) dL_law_664 rfl (fun _ => ?_) (fun h => absurd (by decide) h)
    refine l_goto (tgt := 3627) dL_law_669 rfl ?_
    refine l_weak (L' := [some (.ref 54), some (.ref 0), some (.ref 37), some (.ref 52), some (.ref 53), some (.int (zI i)), none, none, none]) (by simp [wkB]) (l_widen (by omega) (by omega) (loop _ ?_))
    exact hI2
  · obtain ⟨c2, hW2, hM⟩ := hP2 _ _ hE
    have ec : c2 = c := W2_un hW2 hWc
    subst ec
    refine l_istore dL_law_621 (by decide) rfl ?_
    refine l_aload_n dL_law_623 rfl ?_
    refine l_arg (j := 1) hs (by omega) (by omega) h2 dL_law_624 dL_law_625 dL_law_627 dL_law_628 dL_law_629 rfl rfl ?_
    refine l_arg (j := 2) hs (by omega) (by omega) h2 dL_law_630 dL_law_631 dL_law_633 dL_law_634 dL_law_635 rfl rfl ?_
    refine l_callM (av := [.int (zI (xs (i + 1).toNat).toInt), .int (zI (xs (i + 2).toNat).toInt)]) (o := 37) (rest := []) dL_law_636 mlL_206 md_X8_bit hM rfl rfl rfl (by decide) (by decide) (by show _ ≤ 601024; omega) (by show _ ≤ 7293033; omega) (Nat.le_of_ble_eq_true rfl) (fun E M' h => h) (fun v M2 hq => ?_)
    obtain ⟨z', rfl, h0, hI2⟩ := hq
    refine l_istore dL_law_639 (by decide) rfl ?_
    refine l_aload_n dL_law_641 rfl ?_
    refine l_callM (av := []) (o := 37) (rest := []) dL_law_642 mlL_179 md_X8_thrown (m_thrown (M := M2)) rfl rfl rfl (by decide) (by decide) (by show _ ≤ 601024; omega) (by show _ ≤ 7293033; omega) (Nat.le_of_ble_eq_true rfl) (fun E M' h => h) (fun v M3 hq => ?_)
    obtain ⟨rfl, rfl⟩ := hq
    refine l_iload dL_law_645 rfl ?_
    refine l_icmp_eqT (tgt := 652) dL_law_647 rfl (by rw [h0]) ?_
    refine l_iload dL_law_652 rfl ?_
    refine l_if_ne (tgt := 669) dL_law_654 rfl (fun _ => ?_) (fun h => absurd h (W2_z hWc))
    refine l_goto (tgt := 3627) dL_law_669 rfl ?_
    refine l_weak (L' := [some (.ref 54), some (.ref 0), some (.ref 37), some (.ref 52), some (.ref 53), some (.int (zI i)), none, none, none]) (by simp [wkB]) (l_widen (by omega) (by omega) (loop _ ?_))
    exact hI2
set_option maxHeartbeats 1000000 in
theorem lc_9 (hs : lScr X A Ls xs) (h2 : Ls ≤ 3072) (i0 : 0 ≤ i) (i6 : i + 6 ≤ Ls) (hI : Inv w.1) (hkc : kc + 6 ≤ 601024) (hks : ks + 36 ≤ 7293033) (loop : ∀ w' : lM, Inv w'.1 → LW X (cL_law, 9, rt, room_1, [], cy, A, Q) (kc + 6) (ks + 36) 3627 [some (.ref 54), some (.ref 0), some (.ref 37), some (.ref 52), some (.ref 53), some (.int (zI i)), none, none, none] [] w') : LW X (cL_law, 9, rt, room_1, [], cy, A, Q) kc ks 672 [some (.ref 54), some (.ref 0), some (.ref 37), some (.ref 52), some (.ref 53), some (.int (zI i)), none, none, none] [] w := by
  obtain ⟨P', hC, hP1, hP2⟩ := p_ones hI (zR_of (xs (i + 1).toNat)) (zR_of (xs (i + 2).toNat)) (zR_of (xs (i + 3).toNat))
  refine l_aload_n dL_law_672 rfl ?_
  refine l_arg (j := 1) hs (by omega) (by omega) h2 dL_law_673 dL_law_674 dL_law_676 dL_law_677 dL_law_678 rfl rfl ?_
  refine l_arg (j := 2) hs (by omega) (by omega) h2 dL_law_679 dL_law_680 dL_law_682 dL_law_683 dL_law_684 rfl rfl ?_
  refine l_arg (j := 3) hs (by omega) (by omega) h2 dL_law_685 dL_law_686 dL_law_688 dL_law_689 dL_law_690 rfl rfl ?_
  refine l_aload_n dL_law_691 rfl ?_
  refine l_callW (av := [.ref 0, .int (zI (xs (i + 1).toNat).toInt), .int (zI (xs (i + 2).toNat).toInt), .int (zI (xs (i + 3).toNat).toInt), .ref 52]) (rest := []) dL_law_692 mlL_207 mdL_ones (w_ones hC (fun v M' h => (hP1 v M' h).elim fun z hz => ⟨z, hz.1⟩) (fun E M' h => (hP2 E M' h).elim fun c hc => ⟨c, hc.1⟩)) rfl (by decide) (by decide) (by show _ ≤ 601024; omega) (by show _ ≤ 7293033; omega) (Nat.le_of_ble_eq_true rfl) (fun v w' hq => ?_)
  rcases hq with ⟨z, M', rfl, hz, hw1, hw2⟩ | ⟨E, M', c, hWc, hE, rfl, rfl⟩
  · obtain ⟨z2, e2, hM⟩ := hP1 _ _ hz
    have e3 : zI z = zI z2 := by simpa using e2
    rw [← hw1] at hM
    refine l_istore dL_law_695 (by decide) rfl ?_
    refine l_aload_n dL_law_697 rfl ?_
    refine l_arg (j := 1) hs (by omega) (by omega) h2 dL_law_698 dL_law_699 dL_law_701 dL_law_702 dL_law_703 rfl rfl ?_
    refine l_arg (j := 2) hs (by omega) (by omega) h2 dL_law_704 dL_law_705 dL_law_707 dL_law_708 dL_law_709 rfl rfl ?_
    refine l_arg (j := 3) hs (by omega) (by omega) h2 dL_law_710 dL_law_711 dL_law_713 dL_law_714 dL_law_715 rfl rfl ?_
    refine l_callM (av := [.int (zI (xs (i + 1).toNat).toInt), .int (zI (xs (i + 2).toNat).toInt), .int (zI (xs (i + 3).toNat).toInt)]) (o := 37) (rest := []) dL_law_716 mlL_210 md_X8_ones hM rfl rfl rfl (by decide) (by decide) (by show _ ≤ 601024; omega) (by show _ ≤ 7293033; omega) (Nat.le_of_ble_eq_true rfl) (fun E M' h => h) (fun v M2 hq => ?_)
    obtain ⟨z', rfl, hz', h0, hI2⟩ := hq
    refine l_istore dL_law_719 (by decide) rfl ?_
    refine l_aload_n dL_law_721 rfl ?_
    refine l_callM (av := []) (o := 37) (rest := []) dL_law_722 mlL_179 md_X8_thrown (m_thrown (M := M2)) rfl rfl rfl (by decide) (by decide) (by show _ ≤ 601024; omega) (by show _ ≤ 7293033; omega) (Nat.le_of_ble_eq_true rfl) (fun E M' h => h) (fun v M3 hq => ?_)
    obtain ⟨rfl, rfl⟩ := hq
    refine l_iload dL_law_725 rfl ?_
    refine l_icmp_eqT (tgt := 732) dL_law_727 rfl (by rw [h0]) ?_
    refine l_iload dL_law_732 rfl ?_
    refine l_if_ne (tgt := 749) dL_law_734 rfl (fun h => absurd (by decide) h) (fun _ => ?_)
    refine l_aload_n dL_law_737 rfl ?_
    refine l_iconst dL_law_738 ?_
    refine l_laload dL_law_739 ?_
    refine l_iload dL_law_740 rfl ?_
    refine l_i2l dL_law_742 ?_
    refine l_lcmpE dL_law_743 (by show w'.2.1 0 = (zI z').toInt64; rw [hw2, e3, hz']) ?_
    refine l_if_eq (tgt := 749) dL_law_744 rfl (fun _ => ?_) (fun h => absurd (by decide) h)
    refine l_goto (tgt := 3627) dL_law_749 rfl ?_
    refine l_weak (L' := [some (.ref 54), some (.ref 0), some (.ref 37), some (.ref 52), some (.ref 53), some (.int (zI i)), none, none, none]) (by simp [wkB]) (l_widen (by omega) (by omega) (loop _ ?_))
    exact hI2
  · obtain ⟨c2, hW2, hM⟩ := hP2 _ _ hE
    have ec : c2 = c := W2_un hW2 hWc
    subst ec
    refine l_istore dL_law_695 (by decide) rfl ?_
    refine l_aload_n dL_law_697 rfl ?_
    refine l_arg (j := 1) hs (by omega) (by omega) h2 dL_law_698 dL_law_699 dL_law_701 dL_law_702 dL_law_703 rfl rfl ?_
    refine l_arg (j := 2) hs (by omega) (by omega) h2 dL_law_704 dL_law_705 dL_law_707 dL_law_708 dL_law_709 rfl rfl ?_
    refine l_arg (j := 3) hs (by omega) (by omega) h2 dL_law_710 dL_law_711 dL_law_713 dL_law_714 dL_law_715 rfl rfl ?_
    refine l_callM (av := [.int (zI (xs (i + 1).toNat).toInt), .int (zI (xs (i + 2).toNat).toInt), .int (zI (xs (i + 3).toNat).toInt)]) (o := 37) (rest := []) dL_law_716 mlL_210 md_X8_ones hM rfl rfl rfl (by decide) (by decide) (by show _ ≤ 601024; omega) (by show _ ≤ 7293033; omega) (Nat.le_of_ble_eq_true rfl) (fun E M' h => h) (fun v M2 hq => ?_)
    obtain ⟨z', rfl, h0, hI2⟩ := hq
    refine l_istore dL_law_719 (by decide) rfl ?_
    refine l_aload_n dL_law_721 rfl ?_
    refine l_callM (av := []) (o := 37) (rest := []) dL_law_722 mlL_179 md_X8_thrown (m_thrown (M := M2)) rfl rfl rfl (by decide) (by decide) (by show _ ≤ 601024; omega) (by show _ ≤ 7293033; omega) (Nat.le_of_ble_eq_true rfl) (fun E M' h => h) (fun v M3 hq => ?_)
    obtain ⟨rfl, rfl⟩ := hq
    refine l_iload dL_law_725 rfl ?_
    refine l_icmp_eqT (tgt := 732) dL_law_727 rfl (by rw [h0]) ?_
    refine l_iload dL_law_732 rfl ?_
    refine l_if_ne (tgt := 749) dL_law_734 rfl (fun _ => ?_) (fun h => absurd h (W2_z hWc))
    refine l_goto (tgt := 3627) dL_law_749 rfl ?_
    refine l_weak (L' := [some (.ref 54), some (.ref 0), some (.ref 37), some (.ref 52), some (.ref 53), some (.int (zI i)), none, none, none]) (by simp [wkB]) (l_widen (by omega) (by omega) (loop _ ?_))
    exact hI2
set_option maxHeartbeats 1000000 in
theorem lc_10 (hs : lScr X A Ls xs) (h2 : Ls ≤ 3072) (i0 : 0 ≤ i) (i6 : i + 6 ≤ Ls) (hI : Inv w.1) (hkc : kc + 6 ≤ 601024) (hks : ks + 36 ≤ 7293033) (loop : ∀ w' : lM, Inv w'.1 → LW X (cL_law, 9, rt, room_1, [], cy, A, Q) (kc + 6) (ks + 36) 3627 [some (.ref 54), some (.ref 0), some (.ref 37), some (.ref 52), some (.ref 53), some (.int (zI i)), none, none, none] [] w') : LW X (cL_law, 9, rt, room_1, [], cy, A, Q) kc ks 752 [some (.ref 54), some (.ref 0), some (.ref 37), some (.ref 52), some (.ref 53), some (.int (zI i)), none, none, none] [] w := by
  obtain ⟨P', hC, hP1, hP2⟩ := p_next hI (zR_of (xs (i + 1).toNat)) (zR_of (xs (i + 2).toNat)) (zR_of (xs (i + 3).toNat))
  refine l_aload_n dL_law_752 rfl ?_
  refine l_arg (j := 1) hs (by omega) (by omega) h2 dL_law_753 dL_law_754 dL_law_756 dL_law_757 dL_law_758 rfl rfl ?_
  refine l_arg (j := 2) hs (by omega) (by omega) h2 dL_law_759 dL_law_760 dL_law_762 dL_law_763 dL_law_764 rfl rfl ?_
  refine l_arg (j := 3) hs (by omega) (by omega) h2 dL_law_765 dL_law_766 dL_law_768 dL_law_769 dL_law_770 rfl rfl ?_
  refine l_aload_n dL_law_771 rfl ?_
  refine l_callW (av := [.ref 0, .int (zI (xs (i + 1).toNat).toInt), .int (zI (xs (i + 2).toNat).toInt), .int (zI (xs (i + 3).toNat).toInt), .ref 52]) (rest := []) dL_law_772 mlL_211 mdL_next (w_next hC (fun v M' h => (hP1 v M' h).elim fun z hz => ⟨z, hz.1⟩) (fun E M' h => (hP2 E M' h).elim fun c hc => ⟨c, hc.1⟩)) rfl (by decide) (by decide) (by show _ ≤ 601024; omega) (by show _ ≤ 7293033; omega) (Nat.le_of_ble_eq_true rfl) (fun v w' hq => ?_)
  rcases hq with ⟨z, M', rfl, hz, hw1, hw2⟩ | ⟨E, M', c, hWc, hE, rfl, rfl⟩
  · obtain ⟨z2, e2, hM⟩ := hP1 _ _ hz
    have e3 : zI z = zI z2 := by simpa using e2
    rw [← hw1] at hM
    refine l_istore dL_law_775 (by decide) rfl ?_
    refine l_aload_n dL_law_777 rfl ?_
    refine l_arg (j := 1) hs (by omega) (by omega) h2 dL_law_778 dL_law_779 dL_law_781 dL_law_782 dL_law_783 rfl rfl ?_
    refine l_arg (j := 2) hs (by omega) (by omega) h2 dL_law_784 dL_law_785 dL_law_787 dL_law_788 dL_law_789 rfl rfl ?_
    refine l_arg (j := 3) hs (by omega) (by omega) h2 dL_law_790 dL_law_791 dL_law_793 dL_law_794 dL_law_795 rfl rfl ?_
    refine l_callM (av := [.int (zI (xs (i + 1).toNat).toInt), .int (zI (xs (i + 2).toNat).toInt), .int (zI (xs (i + 3).toNat).toInt)]) (o := 37) (rest := []) dL_law_796 mlL_213 md_X8_next hM rfl rfl rfl (by decide) (by decide) (by show _ ≤ 601024; omega) (by show _ ≤ 7293033; omega) (Nat.le_of_ble_eq_true rfl) (fun E M' h => h) (fun v M2 hq => ?_)
    obtain ⟨z', rfl, hz', h0, hI2⟩ := hq
    refine l_istore dL_law_799 (by decide) rfl ?_
    refine l_aload_n dL_law_801 rfl ?_
    refine l_callM (av := []) (o := 37) (rest := []) dL_law_802 mlL_179 md_X8_thrown (m_thrown (M := M2)) rfl rfl rfl (by decide) (by decide) (by show _ ≤ 601024; omega) (by show _ ≤ 7293033; omega) (Nat.le_of_ble_eq_true rfl) (fun E M' h => h) (fun v M3 hq => ?_)
    obtain ⟨rfl, rfl⟩ := hq
    refine l_iload dL_law_805 rfl ?_
    refine l_icmp_eqT (tgt := 812) dL_law_807 rfl (by rw [h0]) ?_
    refine l_iload dL_law_812 rfl ?_
    refine l_if_ne (tgt := 829) dL_law_814 rfl (fun h => absurd (by decide) h) (fun _ => ?_)
    refine l_aload_n dL_law_817 rfl ?_
    refine l_iconst dL_law_818 ?_
    refine l_laload dL_law_819 ?_
    refine l_iload dL_law_820 rfl ?_
    refine l_i2l dL_law_822 ?_
    refine l_lcmpE dL_law_823 (by show w'.2.1 0 = (zI z').toInt64; rw [hw2, e3, hz']) ?_
    refine l_if_eq (tgt := 829) dL_law_824 rfl (fun _ => ?_) (fun h => absurd (by decide) h)
    refine l_goto (tgt := 3627) dL_law_829 rfl ?_
    refine l_weak (L' := [some (.ref 54), some (.ref 0), some (.ref 37), some (.ref 52), some (.ref 53), some (.int (zI i)), none, none, none]) (by simp [wkB]) (l_widen (by omega) (by omega) (loop _ ?_))
    exact hI2
  · obtain ⟨c2, hW2, hM⟩ := hP2 _ _ hE
    have ec : c2 = c := W3_un hW2 hWc
    subst ec
    refine l_istore dL_law_775 (by decide) rfl ?_
    refine l_aload_n dL_law_777 rfl ?_
    refine l_arg (j := 1) hs (by omega) (by omega) h2 dL_law_778 dL_law_779 dL_law_781 dL_law_782 dL_law_783 rfl rfl ?_
    refine l_arg (j := 2) hs (by omega) (by omega) h2 dL_law_784 dL_law_785 dL_law_787 dL_law_788 dL_law_789 rfl rfl ?_
    refine l_arg (j := 3) hs (by omega) (by omega) h2 dL_law_790 dL_law_791 dL_law_793 dL_law_794 dL_law_795 rfl rfl ?_
    refine l_callM (av := [.int (zI (xs (i + 1).toNat).toInt), .int (zI (xs (i + 2).toNat).toInt), .int (zI (xs (i + 3).toNat).toInt)]) (o := 37) (rest := []) dL_law_796 mlL_213 md_X8_next hM rfl rfl rfl (by decide) (by decide) (by show _ ≤ 601024; omega) (by show _ ≤ 7293033; omega) (Nat.le_of_ble_eq_true rfl) (fun E M' h => h) (fun v M2 hq => ?_)
    obtain ⟨z', rfl, h0, hI2⟩ := hq
    refine l_istore dL_law_799 (by decide) rfl ?_
    refine l_aload_n dL_law_801 rfl ?_
    refine l_callM (av := []) (o := 37) (rest := []) dL_law_802 mlL_179 md_X8_thrown (m_thrown (M := M2)) rfl rfl rfl (by decide) (by decide) (by show _ ≤ 601024; omega) (by show _ ≤ 7293033; omega) (Nat.le_of_ble_eq_true rfl) (fun E M' h => h) (fun v M3 hq => ?_)
    obtain ⟨rfl, rfl⟩ := hq
    refine l_iload dL_law_805 rfl ?_
    refine l_icmp_eqT (tgt := 812) dL_law_807 rfl (by rw [h0]) ?_
    refine l_iload dL_law_812 rfl ?_
    refine l_if_ne (tgt := 829) dL_law_814 rfl (fun _ => ?_) (fun h => absurd h (W3_z hWc))
    refine l_goto (tgt := 3627) dL_law_829 rfl ?_
    refine l_weak (L' := [some (.ref 54), some (.ref 0), some (.ref 37), some (.ref 52), some (.ref 53), some (.int (zI i)), none, none, none]) (by simp [wkB]) (l_widen (by omega) (by omega) (loop _ ?_))
    exact hI2
set_option maxHeartbeats 1000000 in
theorem lc_11 (hs : lScr X A Ls xs) (h2 : Ls ≤ 3072) (i0 : 0 ≤ i) (i6 : i + 6 ≤ Ls) (hI : Inv w.1) (hkc : kc + 6 ≤ 601024) (hks : ks + 36 ≤ 7293033) (loop : ∀ w' : lM, Inv w'.1 → LW X (cL_law, 9, rt, room_1, [], cy, A, Q) (kc + 6) (ks + 36) 3627 [some (.ref 54), some (.ref 0), some (.ref 37), some (.ref 52), some (.ref 53), some (.int (zI i)), none, none, none] [] w') : LW X (cL_law, 9, rt, room_1, [], cy, A, Q) kc ks 832 [some (.ref 54), some (.ref 0), some (.ref 37), some (.ref 52), some (.ref 53), some (.int (zI i)), none, none, none] [] w := by
  obtain ⟨P', hC, hP1, hP2⟩ := p_select hI (zR_of (xs (i + 1).toNat)) (zR_of (xs (i + 2).toNat))
  refine l_aload_n dL_law_832 rfl ?_
  refine l_arg (j := 1) hs (by omega) (by omega) h2 dL_law_833 dL_law_834 dL_law_836 dL_law_837 dL_law_838 rfl rfl ?_
  refine l_arg (j := 2) hs (by omega) (by omega) h2 dL_law_839 dL_law_840 dL_law_842 dL_law_843 dL_law_844 rfl rfl ?_
  refine l_aload_n dL_law_845 rfl ?_
  refine l_callW (av := [.ref 0, .int (zI (xs (i + 1).toNat).toInt), .int (zI (xs (i + 2).toNat).toInt), .ref 52]) (rest := []) dL_law_846 mlL_214 mdL_select (w_select hC (fun v M' h => (hP1 v M' h).elim fun z hz => ⟨z, hz.1⟩) (fun E M' h => (hP2 E M' h).elim fun c hc => ⟨c, hc.1⟩)) rfl (by decide) (by decide) (by show _ ≤ 601024; omega) (by show _ ≤ 7293033; omega) (Nat.le_of_ble_eq_true rfl) (fun v w' hq => ?_)
  rcases hq with ⟨z, M', rfl, hz, hw1, hw2⟩ | ⟨E, M', c, hWc, hE, rfl, rfl⟩
  · obtain ⟨z2, e2, hM⟩ := hP1 _ _ hz
    have e3 : zI z = zI z2 := by simpa using e2
    rw [← hw1] at hM
    refine l_istore dL_law_849 (by decide) rfl ?_
    refine l_aload_n dL_law_851 rfl ?_
    refine l_arg (j := 1) hs (by omega) (by omega) h2 dL_law_852 dL_law_853 dL_law_855 dL_law_856 dL_law_857 rfl rfl ?_
    refine l_arg (j := 2) hs (by omega) (by omega) h2 dL_law_858 dL_law_859 dL_law_861 dL_law_862 dL_law_863 rfl rfl ?_
    refine l_callM (av := [.int (zI (xs (i + 1).toNat).toInt), .int (zI (xs (i + 2).toNat).toInt)]) (o := 37) (rest := []) dL_law_864 mlL_216 md_X8_select hM rfl rfl rfl (by decide) (by decide) (by show _ ≤ 601024; omega) (by show _ ≤ 7293033; omega) (Nat.le_of_ble_eq_true rfl) (fun E M' h => h) (fun v M2 hq => ?_)
    obtain ⟨z', rfl, hz', h0, hI2⟩ := hq
    refine l_istore dL_law_867 (by decide) rfl ?_
    refine l_aload_n dL_law_869 rfl ?_
    refine l_callM (av := []) (o := 37) (rest := []) dL_law_870 mlL_179 md_X8_thrown (m_thrown (M := M2)) rfl rfl rfl (by decide) (by decide) (by show _ ≤ 601024; omega) (by show _ ≤ 7293033; omega) (Nat.le_of_ble_eq_true rfl) (fun E M' h => h) (fun v M3 hq => ?_)
    obtain ⟨rfl, rfl⟩ := hq
    refine l_iload dL_law_873 rfl ?_
    refine l_icmp_eqT (tgt := 880) dL_law_875 rfl (by rw [h0]) ?_
    refine l_iload dL_law_880 rfl ?_
    refine l_if_ne (tgt := 897) dL_law_882 rfl (fun h => absurd (by decide) h) (fun _ => ?_)
    refine l_aload_n dL_law_885 rfl ?_
    refine l_iconst dL_law_886 ?_
    refine l_laload dL_law_887 ?_
    refine l_iload dL_law_888 rfl ?_
    refine l_i2l dL_law_890 ?_
    refine l_lcmpE dL_law_891 (by show w'.2.1 0 = (zI z').toInt64; rw [hw2, e3, hz']) ?_
    refine l_if_eq (tgt := 897) dL_law_892 rfl (fun _ => ?_) (fun h => absurd (by decide) h)
    refine l_goto (tgt := 3627) dL_law_897 rfl ?_
    refine l_weak (L' := [some (.ref 54), some (.ref 0), some (.ref 37), some (.ref 52), some (.ref 53), some (.int (zI i)), none, none, none]) (by simp [wkB]) (l_widen (by omega) (by omega) (loop _ ?_))
    exact hI2
  · obtain ⟨c2, hW2, hM⟩ := hP2 _ _ hE
    have ec : c2 = c := W2_un hW2 hWc
    subst ec
    refine l_istore dL_law_849 (by decide) rfl ?_
    refine l_aload_n dL_law_851 rfl ?_
    refine l_arg (j := 1) hs (by omega) (by omega) h2 dL_law_852 dL_law_853 dL_law_855 dL_law_856 dL_law_857 rfl rfl ?_
    refine l_arg (j := 2) hs (by omega) (by omega) h2 dL_law_858 dL_law_859 dL_law_861 dL_law_862 dL_law_863 rfl rfl ?_
    refine l_callM (av := [.int (zI (xs (i + 1).toNat).toInt), .int (zI (xs (i + 2).toNat).toInt)]) (o := 37) (rest := []) dL_law_864 mlL_216 md_X8_select hM rfl rfl rfl (by decide) (by decide) (by show _ ≤ 601024; omega) (by show _ ≤ 7293033; omega) (Nat.le_of_ble_eq_true rfl) (fun E M' h => h) (fun v M2 hq => ?_)
    obtain ⟨z', rfl, h0, hI2⟩ := hq
    refine l_istore dL_law_867 (by decide) rfl ?_
    refine l_aload_n dL_law_869 rfl ?_
    refine l_callM (av := []) (o := 37) (rest := []) dL_law_870 mlL_179 md_X8_thrown (m_thrown (M := M2)) rfl rfl rfl (by decide) (by decide) (by show _ ≤ 601024; omega) (by show _ ≤ 7293033; omega) (Nat.le_of_ble_eq_true rfl) (fun E M' h => h) (fun v M3 hq => ?_)
    obtain ⟨rfl, rfl⟩ := hq
    refine l_iload dL_law_873 rfl ?_
    refine l_icmp_eqT (tgt := 880) dL_law_875 rfl (by rw [h0]) ?_
    refine l_iload dL_law_880 rfl ?_
    refine l_if_ne (tgt := 897) dL_law_882 rfl (fun _ => ?_) (fun h => absurd h (W2_z hWc))
    refine l_goto (tgt := 3627) dL_law_897 rfl ?_
    refine l_weak (L' := [some (.ref 54), some (.ref 0), some (.ref 37), some (.ref 52), some (.ref 53), some (.int (zI i)), none, none, none]) (by simp [wkB]) (l_widen (by omega) (by omega) (loop _ ?_))
    exact hI2
set_option maxHeartbeats 1000000 in
theorem lc_12 (hs : lScr X A Ls xs) (h2 : Ls ≤ 3072) (i0 : 0 ≤ i) (i6 : i + 6 ≤ Ls) (hI : Inv w.1) (hkc : kc + 6 ≤ 601024) (hks : ks + 36 ≤ 7293033) (loop : ∀ w' : lM, Inv w'.1 → LW X (cL_law, 9, rt, room_1, [], cy, A, Q) (kc + 6) (ks + 36) 3627 [some (.ref 54), some (.ref 0), some (.ref 37), some (.ref 52), some (.ref 53), some (.int (zI i)), none, none, none] [] w') : LW X (cL_law, 9, rt, room_1, [], cy, A, Q) kc ks 900 [some (.ref 54), some (.ref 0), some (.ref 37), some (.ref 52), some (.ref 53), some (.int (zI i)), none, none, none] [] w := by
  obtain ⟨P', hC, hP1, hP2⟩ := p_runs hI (zR_of (xs (i + 1).toNat)) (zR_of (xs (i + 2).toNat))
  refine l_aload_n dL_law_900 rfl ?_
  refine l_arg (j := 1) hs (by omega) (by omega) h2 dL_law_901 dL_law_902 dL_law_904 dL_law_905 dL_law_906 rfl rfl ?_
  refine l_arg (j := 2) hs (by omega) (by omega) h2 dL_law_907 dL_law_908 dL_law_910 dL_law_911 dL_law_912 rfl rfl ?_
  refine l_aload_n dL_law_913 rfl ?_
  refine l_callW (av := [.ref 0, .int (zI (xs (i + 1).toNat).toInt), .int (zI (xs (i + 2).toNat).toInt), .ref 52]) (rest := []) dL_law_914 mlL_217 mdL_runs (w_runs hC (fun v M' h => (hP1 v M' h).elim fun z hz => ⟨z, hz.1⟩) (fun E M' h => (hP2 E M' h).elim fun c hc => ⟨c, hc.1⟩)) rfl (by decide) (by decide) (by show _ ≤ 601024; omega) (by show _ ≤ 7293033; omega) (Nat.le_of_ble_eq_true rfl) (fun v w' hq => ?_)
  rcases hq with ⟨z, M', rfl, hz, hw1, hw2⟩ | ⟨E, M', c, hWc, hE, rfl, rfl⟩
  · obtain ⟨z2, e2, hM⟩ := hP1 _ _ hz
    have e3 : zI z = zI z2 := by simpa using e2
    rw [← hw1] at hM
    refine l_istore dL_law_917 (by decide) rfl ?_
    refine l_aload_n dL_law_919 rfl ?_
    refine l_arg (j := 1) hs (by omega) (by omega) h2 dL_law_920 dL_law_921 dL_law_923 dL_law_924 dL_law_925 rfl rfl ?_
    refine l_arg (j := 2) hs (by omega) (by omega) h2 dL_law_926 dL_law_927 dL_law_929 dL_law_930 dL_law_931 rfl rfl ?_
    refine l_callM (av := [.int (zI (xs (i + 1).toNat).toInt), .int (zI (xs (i + 2).toNat).toInt)]) (o := 37) (rest := []) dL_law_932 mlL_219 md_X8_runs hM rfl rfl rfl (by decide) (by decide) (by show _ ≤ 601024; omega) (by show _ ≤ 7293033; omega) (Nat.le_of_ble_eq_true rfl) (fun E M' h => h) (fun v M2 hq => ?_)
    obtain ⟨z', rfl, hz', h0, hI2⟩ := hq
    refine l_istore dL_law_935 (by decide) rfl ?_
    refine l_aload_n dL_law_937 rfl ?_
    refine l_callM (av := []) (o := 37) (rest := []) dL_law_938 mlL_179 md_X8_thrown (m_thrown (M := M2)) rfl rfl rfl (by decide) (by decide) (by show _ ≤ 601024; omega) (by show _ ≤ 7293033; omega) (Nat.le_of_ble_eq_true rfl) (fun E M' h => h) (fun v M3 hq => ?_)
    obtain ⟨rfl, rfl⟩ := hq
    refine l_iload dL_law_941 rfl ?_
    refine l_icmp_eqT (tgt := 948) dL_law_943 rfl (by rw [h0]) ?_
    refine l_iload dL_law_948 rfl ?_
    refine l_if_ne (tgt := 965) dL_law_950 rfl (fun h => absurd (by decide) h) (fun _ => ?_)
    refine l_aload_n dL_law_953 rfl ?_
    refine l_iconst dL_law_954 ?_
    refine l_laload dL_law_955 ?_
    refine l_iload dL_law_956 rfl ?_
    refine l_i2l dL_law_958 ?_
    refine l_lcmpE dL_law_959 (by show w'.2.1 0 = (zI z').toInt64; rw [hw2, e3, hz']) ?_
    refine l_if_eq (tgt := 965) dL_law_960 rfl (fun _ => ?_) (fun h => absurd (by decide) h)
    refine l_goto (tgt := 3627) dL_law_965 rfl ?_
    refine l_weak (L' := [some (.ref 54), some (.ref 0), some (.ref 37), some (.ref 52), some (.ref 53), some (.int (zI i)), none, none, none]) (by simp [wkB]) (l_widen (by omega) (by omega) (loop _ ?_))
    exact hI2
  · obtain ⟨c2, hW2, hM⟩ := hP2 _ _ hE
    have ec : c2 = c := W3_un hW2 hWc
    subst ec
    refine l_istore dL_law_917 (by decide) rfl ?_
    refine l_aload_n dL_law_919 rfl ?_
    refine l_arg (j := 1) hs (by omega) (by omega) h2 dL_law_920 dL_law_921 dL_law_923 dL_law_924 dL_law_925 rfl rfl ?_
    refine l_arg (j := 2) hs (by omega) (by omega) h2 dL_law_926 dL_law_927 dL_law_929 dL_law_930 dL_law_931 rfl rfl ?_
    refine l_callM (av := [.int (zI (xs (i + 1).toNat).toInt), .int (zI (xs (i + 2).toNat).toInt)]) (o := 37) (rest := []) dL_law_932 mlL_219 md_X8_runs hM rfl rfl rfl (by decide) (by decide) (by show _ ≤ 601024; omega) (by show _ ≤ 7293033; omega) (Nat.le_of_ble_eq_true rfl) (fun E M' h => h) (fun v M2 hq => ?_)
    obtain ⟨z', rfl, h0, hI2⟩ := hq
    refine l_istore dL_law_935 (by decide) rfl ?_
    refine l_aload_n dL_law_937 rfl ?_
    refine l_callM (av := []) (o := 37) (rest := []) dL_law_938 mlL_179 md_X8_thrown (m_thrown (M := M2)) rfl rfl rfl (by decide) (by decide) (by show _ ≤ 601024; omega) (by show _ ≤ 7293033; omega) (Nat.le_of_ble_eq_true rfl) (fun E M' h => h) (fun v M3 hq => ?_)
    obtain ⟨rfl, rfl⟩ := hq
    refine l_iload dL_law_941 rfl ?_
    refine l_icmp_eqT (tgt := 948) dL_law_943 rfl (by rw [h0]) ?_
    refine l_iload dL_law_948 rfl ?_
    refine l_if_ne (tgt := 965) dL_law_950 rfl (fun _ => ?_) (fun h => absurd h (W3_z hWc))
    refine l_goto (tgt := 3627) dL_law_965 rfl ?_
    refine l_weak (L' := [some (.ref 54), some (.ref 0), some (.ref 37), some (.ref 52), some (.ref 53), some (.int (zI i)), none, none, none]) (by simp [wkB]) (l_widen (by omega) (by omega) (loop _ ?_))
    exact hI2
set_option maxHeartbeats 1000000 in
theorem lc_13 (hs : lScr X A Ls xs) (h2 : Ls ≤ 3072) (i0 : 0 ≤ i) (i6 : i + 6 ≤ Ls) (hI : Inv w.1) (hkc : kc + 6 ≤ 601024) (hks : ks + 36 ≤ 7293033) (loop : ∀ w' : lM, Inv w'.1 → LW X (cL_law, 9, rt, room_1, [], cy, A, Q) (kc + 6) (ks + 36) 3627 [some (.ref 54), some (.ref 0), some (.ref 37), some (.ref 52), some (.ref 53), some (.int (zI i)), none, none, none] [] w') : LW X (cL_law, 9, rt, room_1, [], cy, A, Q) kc ks 968 [some (.ref 54), some (.ref 0), some (.ref 37), some (.ref 52), some (.ref 53), some (.int (zI i)), none, none, none] [] w := by
  obtain ⟨P', hC, hP1, hP2⟩ := p_longestRun hI (zR_of (xs (i + 1).toNat)) (zR_of (xs (i + 2).toNat))
  refine l_aload_n dL_law_968 rfl ?_
  refine l_arg (j := 1) hs (by omega) (by omega) h2 dL_law_969 dL_law_970 dL_law_972 dL_law_973 dL_law_974 rfl rfl ?_
  refine l_arg (j := 2) hs (by omega) (by omega) h2 dL_law_975 dL_law_976 dL_law_978 dL_law_979 dL_law_980 rfl rfl ?_
  refine l_aload_n dL_law_981 rfl ?_
  refine l_callW (av := [.ref 0, .int (zI (xs (i + 1).toNat).toInt), .int (zI (xs (i + 2).toNat).toInt), .ref 52]) (rest := []) dL_law_982 mlL_220 mdL_longestRun (w_longestRun hC (fun v M' h => (hP1 v M' h).elim fun z hz => ⟨z, hz.1⟩) (fun E M' h => (hP2 E M' h).elim fun c hc => ⟨c, hc.1⟩)) rfl (by decide) (by decide) (by show _ ≤ 601024; omega) (by show _ ≤ 7293033; omega) (Nat.le_of_ble_eq_true rfl) (fun v w' hq => ?_)
  rcases hq with ⟨z, M', rfl, hz, hw1, hw2⟩ | ⟨E, M', c, hWc, hE, rfl, rfl⟩
  · obtain ⟨z2, e2, hM⟩ := hP1 _ _ hz
    have e3 : zI z = zI z2 := by simpa using e2
    rw [← hw1] at hM
    refine l_istore dL_law_985 (by decide) rfl ?_
    refine l_aload_n dL_law_987 rfl ?_
    refine l_arg (j := 1) hs (by omega) (by omega) h2 dL_law_988 dL_law_989 dL_law_991 dL_law_992 dL_law_993 rfl rfl ?_
    refine l_arg (j := 2) hs (by omega) (by omega) h2 dL_law_994 dL_law_995 dL_law_997 dL_law_998 dL_law_999 rfl rfl ?_
    refine l_callM (av := [.int (zI (xs (i + 1).toNat).toInt), .int (zI (xs (i + 2).toNat).toInt)]) (o := 37) (rest := []) dL_law_1000 mlL_222 md_X8_longestRun hM rfl rfl rfl (by decide) (by decide) (by show _ ≤ 601024; omega) (by show _ ≤ 7293033; omega) (Nat.le_of_ble_eq_true rfl) (fun E M' h => h) (fun v M2 hq => ?_)
    obtain ⟨z', rfl, hz', h0, hI2⟩ := hq
    refine l_istore dL_law_1003 (by decide) rfl ?_
    refine l_aload_n dL_law_1005 rfl ?_
    refine l_callM (av := []) (o := 37) (rest := []) dL_law_1006 mlL_179 md_X8_thrown (m_thrown (M := M2)) rfl rfl rfl (by decide) (by decide) (by show _ ≤ 601024; omega) (by show _ ≤ 7293033; omega) (Nat.le_of_ble_eq_true rfl) (fun E M' h => h) (fun v M3 hq => ?_)
    obtain ⟨rfl, rfl⟩ := hq
    refine l_iload dL_law_1009 rfl ?_
    refine l_icmp_eqT (tgt := 1016) dL_law_1011 rfl (by rw [h0]) ?_
    refine l_iload dL_law_1016 rfl ?_
    refine l_if_ne (tgt := 1033) dL_law_1018 rfl (fun h => absurd (by decide) h) (fun _ => ?_)
    refine l_aload_n dL_law_1021 rfl ?_
    refine l_iconst dL_law_1022 ?_
    refine l_laload dL_law_1023 ?_
    refine l_iload dL_law_1024 rfl ?_
    refine l_i2l dL_law_1026 ?_
    refine l_lcmpE dL_law_1027 (by show w'.2.1 0 = (zI z').toInt64; rw [hw2, e3, hz']) ?_
    refine l_if_eq (tgt := 1033) dL_law_1028 rfl (fun _ => ?_) (fun h => absurd (by decide) h)
    refine l_goto (tgt := 3627) dL_law_1033 rfl ?_
    refine l_weak (L' := [some (.ref 54), some (.ref 0), some (.ref 37), some (.ref 52), some (.ref 53), some (.int (zI i)), none, none, none]) (by simp [wkB]) (l_widen (by omega) (by omega) (loop _ ?_))
    exact hI2
  · obtain ⟨c2, hW2, hM⟩ := hP2 _ _ hE
    have ec : c2 = c := W3_un hW2 hWc
    subst ec
    refine l_istore dL_law_985 (by decide) rfl ?_
    refine l_aload_n dL_law_987 rfl ?_
    refine l_arg (j := 1) hs (by omega) (by omega) h2 dL_law_988 dL_law_989 dL_law_991 dL_law_992 dL_law_993 rfl rfl ?_
    refine l_arg (j := 2) hs (by omega) (by omega) h2 dL_law_994 dL_law_995 dL_law_997 dL_law_998 dL_law_999 rfl rfl ?_
    refine l_callM (av := [.int (zI (xs (i + 1).toNat).toInt), .int (zI (xs (i + 2).toNat).toInt)]) (o := 37) (rest := []) dL_law_1000 mlL_222 md_X8_longestRun hM rfl rfl rfl (by decide) (by decide) (by show _ ≤ 601024; omega) (by show _ ≤ 7293033; omega) (Nat.le_of_ble_eq_true rfl) (fun E M' h => h) (fun v M2 hq => ?_)
    obtain ⟨z', rfl, h0, hI2⟩ := hq
    refine l_istore dL_law_1003 (by decide) rfl ?_
    refine l_aload_n dL_law_1005 rfl ?_
    refine l_callM (av := []) (o := 37) (rest := []) dL_law_1006 mlL_179 md_X8_thrown (m_thrown (M := M2)) rfl rfl rfl (by decide) (by decide) (by show _ ≤ 601024; omega) (by show _ ≤ 7293033; omega) (Nat.le_of_ble_eq_true rfl) (fun E M' h => h) (fun v M3 hq => ?_)
    obtain ⟨rfl, rfl⟩ := hq
    refine l_iload dL_law_1009 rfl ?_
    refine l_icmp_eqT (tgt := 1016) dL_law_1011 rfl (by rw [h0]) ?_
    refine l_iload dL_law_1016 rfl ?_
    refine l_if_ne (tgt := 1033) dL_law_1018 rfl (fun _ => ?_) (fun h => absurd h (W3_z hWc))
    refine l_goto (tgt := 3627) dL_law_1033 rfl ?_
    refine l_weak (L' := [some (.ref 54), some (.ref 0), some (.ref 37), some (.ref 52), some (.ref 53), some (.int (zI i)), none, none, none]) (by simp [wkB]) (l_widen (by omega) (by omega) (loop _ ?_))
    exact hI2
set_option maxHeartbeats 1000000 in
theorem lc_14 (hs : lScr X A Ls xs) (h2 : Ls ≤ 3072) (i0 : 0 ≤ i) (i6 : i + 6 ≤ Ls) (hI : Inv w.1) (hkc : kc + 6 ≤ 601024) (hks : ks + 36 ≤ 7293033) (loop : ∀ w' : lM, Inv w'.1 → LW X (cL_law, 9, rt, room_1, [], cy, A, Q) (kc + 6) (ks + 36) 3627 [some (.ref 54), some (.ref 0), some (.ref 37), some (.ref 52), some (.ref 53), some (.int (zI i)), none, none, none] [] w') : LW X (cL_law, 9, rt, room_1, [], cy, A, Q) kc ks 1036 [some (.ref 54), some (.ref 0), some (.ref 37), some (.ref 52), some (.ref 53), some (.int (zI i)), none, none, none] [] w := by
  obtain ⟨P', hC, hP1, hP2⟩ := p_bytes hI (zR_of (xs (i + 1).toNat))
  refine l_aload_n dL_law_1036 rfl ?_
  refine l_arg (j := 1) hs (by omega) (by omega) h2 dL_law_1037 dL_law_1038 dL_law_1040 dL_law_1041 dL_law_1042 rfl rfl ?_
  refine l_aload_n dL_law_1043 rfl ?_
  refine l_callW (av := [.ref 0, .int (zI (xs (i + 1).toNat).toInt), .ref 52]) (rest := []) dL_law_1044 mlL_223 mdL_bytes (w_bytes hC (fun v M' h => (hP1 v M' h).elim fun z hz => ⟨z, hz.1⟩) (fun E M' h => (hP2 E M' h).elim fun c hc => ⟨c, hc.1⟩)) rfl (by decide) (by decide) (by show _ ≤ 601024; omega) (by show _ ≤ 7293033; omega) (Nat.le_of_ble_eq_true rfl) (fun v w' hq => ?_)
  rcases hq with ⟨z, M', rfl, hz, hw1, hw2⟩ | ⟨E, M', c, hWc, hE, rfl, rfl⟩
  · obtain ⟨z2, e2, hM⟩ := hP1 _ _ hz
    have e3 : zI z = zI z2 := by simpa using e2
    rw [← hw1] at hM
    refine l_istore dL_law_1047 (by decide) rfl ?_
    refine l_aload_n dL_law_1049 rfl ?_
    refine l_arg (j := 1) hs (by omega) (by omega) h2 dL_law_1050 dL_law_1051 dL_law_1053 dL_law_1054 dL_law_1055 rfl rfl ?_
    refine l_callM (av := [.int (zI (xs (i + 1).toNat).toInt)]) (o := 37) (rest := []) dL_law_1056 mlL_225 md_X8_bytes hM rfl rfl rfl (by decide) (by decide) (by show _ ≤ 601024; omega) (by show _ ≤ 7293033; omega) (Nat.le_of_ble_eq_true rfl) (fun E M' h => h) (fun v M2 hq => ?_)
    obtain ⟨z', rfl, hz', h0, hI2⟩ := hq
    refine l_istore dL_law_1059 (by decide) rfl ?_
    refine l_aload_n dL_law_1061 rfl ?_
    refine l_callM (av := []) (o := 37) (rest := []) dL_law_1062 mlL_179 md_X8_thrown (m_thrown (M := M2)) rfl rfl rfl (by decide) (by decide) (by show _ ≤ 601024; omega) (by show _ ≤ 7293033; omega) (Nat.le_of_ble_eq_true rfl) (fun E M' h => h) (fun v M3 hq => ?_)
    obtain ⟨rfl, rfl⟩ := hq
    refine l_iload dL_law_1065 rfl ?_
    refine l_icmp_eqT (tgt := 1072) dL_law_1067 rfl (by rw [h0]) ?_
    refine l_iload dL_law_1072 rfl ?_
    refine l_if_ne (tgt := 1089) dL_law_1074 rfl (fun h => absurd (by decide) h) (fun _ => ?_)
    refine l_aload_n dL_law_1077 rfl ?_
    refine l_iconst dL_law_1078 ?_
    refine l_laload dL_law_1079 ?_
    refine l_iload dL_law_1080 rfl ?_
    refine l_i2l dL_law_1082 ?_
    refine l_lcmpE dL_law_1083 (by show w'.2.1 0 = (zI z').toInt64; rw [hw2, e3, hz']) ?_
    refine l_if_eq (tgt := 1089) dL_law_1084 rfl (fun _ => ?_) (fun h => absurd (by decide) h)
    refine l_goto (tgt := 3627) dL_law_1089 rfl ?_
    refine l_weak (L' := [some (.ref 54), some (.ref 0), some (.ref 37), some (.ref 52), some (.ref 53), some (.int (zI i)), none, none, none]) (by simp [wkB]) (l_widen (by omega) (by omega) (loop _ ?_))
    exact hI2
  · obtain ⟨c2, hW2, hM⟩ := hP2 _ _ hE
    have ec : c2 = c := W2_un hW2 hWc
    subst ec
    refine l_istore dL_law_1047 (by decide) rfl ?_
    refine l_aload_n dL_law_1049 rfl ?_
    refine l_arg (j := 1) hs (by omega) (by omega) h2 dL_law_1050 dL_law_1051 dL_law_1053 dL_law_1054 dL_law_1055 rfl rfl ?_
    refine l_callM (av := [.int (zI (xs (i + 1).toNat).toInt)]) (o := 37) (rest := []) dL_law_1056 mlL_225 md_X8_bytes hM rfl rfl rfl (by decide) (by decide) (by show _ ≤ 601024; omega) (by show _ ≤ 7293033; omega) (Nat.le_of_ble_eq_true rfl) (fun E M' h => h) (fun v M2 hq => ?_)
    obtain ⟨z', rfl, h0, hI2⟩ := hq
    refine l_istore dL_law_1059 (by decide) rfl ?_
    refine l_aload_n dL_law_1061 rfl ?_
    refine l_callM (av := []) (o := 37) (rest := []) dL_law_1062 mlL_179 md_X8_thrown (m_thrown (M := M2)) rfl rfl rfl (by decide) (by decide) (by show _ ≤ 601024; omega) (by show _ ≤ 7293033; omega) (Nat.le_of_ble_eq_true rfl) (fun E M' h => h) (fun v M3 hq => ?_)
    obtain ⟨rfl, rfl⟩ := hq
    refine l_iload dL_law_1065 rfl ?_
    refine l_icmp_eqT (tgt := 1072) dL_law_1067 rfl (by rw [h0]) ?_
    refine l_iload dL_law_1072 rfl ?_
    refine l_if_ne (tgt := 1089) dL_law_1074 rfl (fun _ => ?_) (fun h => absurd h (W2_z hWc))
    refine l_goto (tgt := 3627) dL_law_1089 rfl ?_
    refine l_weak (L' := [some (.ref 54), some (.ref 0), some (.ref 37), some (.ref 52), some (.ref 53), some (.int (zI i)), none, none, none]) (by simp [wkB]) (l_widen (by omega) (by omega) (loop _ ?_))
    exact hI2
set_option maxHeartbeats 1000000 in
theorem lc_15 (hs : lScr X A Ls xs) (h2 : Ls ≤ 3072) (i0 : 0 ≤ i) (i6 : i + 6 ≤ Ls) (hI : Inv w.1) (hkc : kc + 6 ≤ 601024) (hks : ks + 36 ≤ 7293033) (loop : ∀ w' : lM, Inv w'.1 → LW X (cL_law, 9, rt, room_1, [], cy, A, Q) (kc + 6) (ks + 36) 3627 [some (.ref 54), some (.ref 0), some (.ref 37), some (.ref 52), some (.ref 53), some (.int (zI i)), none, none, none] [] w') : LW X (cL_law, 9, rt, room_1, [], cy, A, Q) kc ks 1092 [some (.ref 54), some (.ref 0), some (.ref 37), some (.ref 52), some (.ref 53), some (.int (zI i)), none, none, none] [] w := by
  obtain ⟨P', hC, hP1, hP2⟩ := p_byteAt hI (zR_of (xs (i + 1).toNat)) (zR_of (xs (i + 2).toNat))
  refine l_aload_n dL_law_1092 rfl ?_
  refine l_arg (j := 1) hs (by omega) (by omega) h2 dL_law_1093 dL_law_1094 dL_law_1096 dL_law_1097 dL_law_1098 rfl rfl ?_
  refine l_arg (j := 2) hs (by omega) (by omega) h2 dL_law_1099 dL_law_1100 dL_law_1102 dL_law_1103 dL_law_1104 rfl rfl ?_
  refine l_aload_n dL_law_1105 rfl ?_
  refine l_callW (av := [.ref 0, .int (zI (xs (i + 1).toNat).toInt), .int (zI (xs (i + 2).toNat).toInt), .ref 52]) (rest := []) dL_law_1106 mlL_226 mdL_byteAt (w_byteAt hC (fun v M' h => (hP1 v M' h).elim fun z hz => ⟨z, hz.1⟩) (fun E M' h => (hP2 E M' h).elim fun c hc => ⟨c, hc.1⟩)) rfl (by decide) (by decide) (by show _ ≤ 601024; omega) (by show _ ≤ 7293033; omega) (Nat.le_of_ble_eq_true rfl) (fun v w' hq => ?_)
  rcases hq with ⟨z, M', rfl, hz, hw1, hw2⟩ | ⟨E, M', c, hWc, hE, rfl, rfl⟩
  · obtain ⟨z2, e2, hM⟩ := hP1 _ _ hz
    have e3 : zI z = zI z2 := by simpa using e2
    rw [← hw1] at hM
    refine l_istore dL_law_1109 (by decide) rfl ?_
    refine l_aload_n dL_law_1111 rfl ?_
    refine l_arg (j := 1) hs (by omega) (by omega) h2 dL_law_1112 dL_law_1113 dL_law_1115 dL_law_1116 dL_law_1117 rfl rfl ?_
    refine l_arg (j := 2) hs (by omega) (by omega) h2 dL_law_1118 dL_law_1119 dL_law_1121 dL_law_1122 dL_law_1123 rfl rfl ?_
    refine l_callM (av := [.int (zI (xs (i + 1).toNat).toInt), .int (zI (xs (i + 2).toNat).toInt)]) (o := 37) (rest := []) dL_law_1124 mlL_228 md_X8_byteAt hM rfl rfl rfl (by decide) (by decide) (by show _ ≤ 601024; omega) (by show _ ≤ 7293033; omega) (Nat.le_of_ble_eq_true rfl) (fun E M' h => h) (fun v M2 hq => ?_)
    obtain ⟨z', rfl, hz', h0, hI2⟩ := hq
    refine l_istore dL_law_1127 (by decide) rfl ?_
    refine l_aload_n dL_law_1129 rfl ?_
    refine l_callM (av := []) (o := 37) (rest := []) dL_law_1130 mlL_179 md_X8_thrown (m_thrown (M := M2)) rfl rfl rfl (by decide) (by decide) (by show _ ≤ 601024; omega) (by show _ ≤ 7293033; omega) (Nat.le_of_ble_eq_true rfl) (fun E M' h => h) (fun v M3 hq => ?_)
    obtain ⟨rfl, rfl⟩ := hq
    refine l_iload dL_law_1133 rfl ?_
    refine l_icmp_eqT (tgt := 1140) dL_law_1135 rfl (by rw [h0]) ?_
    refine l_iload dL_law_1140 rfl ?_
    refine l_if_ne (tgt := 1157) dL_law_1142 rfl (fun h => absurd (by decide) h) (fun _ => ?_)
    refine l_aload_n dL_law_1145 rfl ?_
    refine l_iconst dL_law_1146 ?_
    refine l_laload dL_law_1147 ?_
    refine l_iload dL_law_1148 rfl ?_
    refine l_i2l dL_law_1150 ?_
    refine l_lcmpE dL_law_1151 (by show w'.2.1 0 = (zI z').toInt64; rw [hw2, e3, hz']) ?_
    refine l_if_eq (tgt := 1157) dL_law_1152 rfl (fun _ => ?_) (fun h => absurd (by decide) h)
    refine l_goto (tgt := 3627) dL_law_1157 rfl ?_
    refine l_weak (L' := [some (.ref 54), some (.ref 0), some (.ref 37), some (.ref 52), some (.ref 53), some (.int (zI i)), none, none, none]) (by simp [wkB]) (l_widen (by omega) (by omega) (loop _ ?_))
    exact hI2
  · obtain ⟨c2, hW2, hM⟩ := hP2 _ _ hE
    have ec : c2 = c := W2_un hW2 hWc
    subst ec
    refine l_istore dL_law_1109 (by decide) rfl ?_
    refine l_aload_n dL_law_1111 rfl ?_
    refine l_arg (j := 1) hs (by omega) (by omega) h2 dL_law_1112 dL_law_1113 dL_law_1115 dL_law_1116 dL_law_1117 rfl rfl ?_
    refine l_arg (j := 2) hs (by omega) (by omega) h2 dL_law_1118 dL_law_1119 dL_law_1121 dL_law_1122 dL_law_1123 rfl rfl ?_
    refine l_callM (av := [.int (zI (xs (i + 1).toNat).toInt), .int (zI (xs (i + 2).toNat).toInt)]) (o := 37) (rest := []) dL_law_1124 mlL_228 md_X8_byteAt hM rfl rfl rfl (by decide) (by decide) (by show _ ≤ 601024; omega) (by show _ ≤ 7293033; omega) (Nat.le_of_ble_eq_true rfl) (fun E M' h => h) (fun v M2 hq => ?_)
    obtain ⟨z', rfl, h0, hI2⟩ := hq
    refine l_istore dL_law_1127 (by decide) rfl ?_
    refine l_aload_n dL_law_1129 rfl ?_
    refine l_callM (av := []) (o := 37) (rest := []) dL_law_1130 mlL_179 md_X8_thrown (m_thrown (M := M2)) rfl rfl rfl (by decide) (by decide) (by show _ ≤ 601024; omega) (by show _ ≤ 7293033; omega) (Nat.le_of_ble_eq_true rfl) (fun E M' h => h) (fun v M3 hq => ?_)
    obtain ⟨rfl, rfl⟩ := hq
    refine l_iload dL_law_1133 rfl ?_
    refine l_icmp_eqT (tgt := 1140) dL_law_1135 rfl (by rw [h0]) ?_
    refine l_iload dL_law_1140 rfl ?_
    refine l_if_ne (tgt := 1157) dL_law_1142 rfl (fun _ => ?_) (fun h => absurd h (W2_z hWc))
    refine l_goto (tgt := 3627) dL_law_1157 rfl ?_
    refine l_weak (L' := [some (.ref 54), some (.ref 0), some (.ref 37), some (.ref 52), some (.ref 53), some (.int (zI i)), none, none, none]) (by simp [wkB]) (l_widen (by omega) (by omega) (loop _ ?_))
    exact hI2
set_option maxHeartbeats 1000000 in
theorem lc_16 (hs : lScr X A Ls xs) (h2 : Ls ≤ 3072) (i0 : 0 ≤ i) (i6 : i + 6 ≤ Ls) (hI : Inv w.1) (hkc : kc + 6 ≤ 601024) (hks : ks + 36 ≤ 7293033) (loop : ∀ w' : lM, Inv w'.1 → LW X (cL_law, 9, rt, room_1, [], cy, A, Q) (kc + 6) (ks + 36) 3627 [some (.ref 54), some (.ref 0), some (.ref 37), some (.ref 52), some (.ref 53), some (.int (zI i)), none, none, none] [] w') : LW X (cL_law, 9, rt, room_1, [], cy, A, Q) kc ks 1160 [some (.ref 54), some (.ref 0), some (.ref 37), some (.ref 52), some (.ref 53), some (.int (zI i)), none, none, none] [] w := by
  obtain ⟨P', hC, hP1, hP2⟩ := p_parts hI (zR_of (xs (i + 1).toNat)) (zR_of (xs (i + 2).toNat))
  refine l_aload_n dL_law_1160 rfl ?_
  refine l_arg (j := 1) hs (by omega) (by omega) h2 dL_law_1161 dL_law_1162 dL_law_1164 dL_law_1165 dL_law_1166 rfl rfl ?_
  refine l_arg (j := 2) hs (by omega) (by omega) h2 dL_law_1167 dL_law_1168 dL_law_1170 dL_law_1171 dL_law_1172 rfl rfl ?_
  refine l_aload_n dL_law_1173 rfl ?_
  refine l_callW (av := [.ref 0, .int (zI (xs (i + 1).toNat).toInt), .int (zI (xs (i + 2).toNat).toInt), .ref 52]) (rest := []) dL_law_1174 mlL_229 mdL_parts (w_parts hC (fun v M' h => (hP1 v M' h).elim fun z hz => ⟨z, hz.1⟩) (fun E M' h => (hP2 E M' h).elim fun c hc => ⟨c, hc.1⟩)) rfl (by decide) (by decide) (by show _ ≤ 601024; omega) (by show _ ≤ 7293033; omega) (Nat.le_of_ble_eq_true rfl) (fun v w' hq => ?_)
  rcases hq with ⟨z, M', rfl, hz, hw1, hw2⟩ | ⟨E, M', c, hWc, hE, rfl, rfl⟩
  · obtain ⟨z2, e2, hM⟩ := hP1 _ _ hz
    have e3 : zI z = zI z2 := by simpa using e2
    rw [← hw1] at hM
    refine l_istore dL_law_1177 (by decide) rfl ?_
    refine l_aload_n dL_law_1179 rfl ?_
    refine l_arg (j := 1) hs (by omega) (by omega) h2 dL_law_1180 dL_law_1181 dL_law_1183 dL_law_1184 dL_law_1185 rfl rfl ?_
    refine l_arg (j := 2) hs (by omega) (by omega) h2 dL_law_1186 dL_law_1187 dL_law_1189 dL_law_1190 dL_law_1191 rfl rfl ?_
    refine l_callM (av := [.int (zI (xs (i + 1).toNat).toInt), .int (zI (xs (i + 2).toNat).toInt)]) (o := 37) (rest := []) dL_law_1192 mlL_231 md_X8_parts hM rfl rfl rfl (by decide) (by decide) (by show _ ≤ 601024; omega) (by show _ ≤ 7293033; omega) (Nat.le_of_ble_eq_true rfl) (fun E M' h => h) (fun v M2 hq => ?_)
    obtain ⟨z', rfl, hz', h0, hI2⟩ := hq
    refine l_istore dL_law_1195 (by decide) rfl ?_
    refine l_aload_n dL_law_1197 rfl ?_
    refine l_callM (av := []) (o := 37) (rest := []) dL_law_1198 mlL_179 md_X8_thrown (m_thrown (M := M2)) rfl rfl rfl (by decide) (by decide) (by show _ ≤ 601024; omega) (by show _ ≤ 7293033; omega) (Nat.le_of_ble_eq_true rfl) (fun E M' h => h) (fun v M3 hq => ?_)
    obtain ⟨rfl, rfl⟩ := hq
    refine l_iload dL_law_1201 rfl ?_
    refine l_icmp_eqT (tgt := 1208) dL_law_1203 rfl (by rw [h0]) ?_
    refine l_iload dL_law_1208 rfl ?_
    refine l_if_ne (tgt := 1225) dL_law_1210 rfl (fun h => absurd (by decide) h) (fun _ => ?_)
    refine l_aload_n dL_law_1213 rfl ?_
    refine l_iconst dL_law_1214 ?_
    refine l_laload dL_law_1215 ?_
    refine l_iload dL_law_1216 rfl ?_
    refine l_i2l dL_law_1218 ?_
    refine l_lcmpE dL_law_1219 (by show w'.2.1 0 = (zI z').toInt64; rw [hw2, e3, hz']) ?_
    refine l_if_eq (tgt := 1225) dL_law_1220 rfl (fun _ => ?_) (fun h => absurd (by decide) h)
    refine l_goto (tgt := 3627) dL_law_1225 rfl ?_
    refine l_weak (L' := [some (.ref 54), some (.ref 0), some (.ref 37), some (.ref 52), some (.ref 53), some (.int (zI i)), none, none, none]) (by simp [wkB]) (l_widen (by omega) (by omega) (loop _ ?_))
    exact hI2
  · obtain ⟨c2, hW2, hM⟩ := hP2 _ _ hE
    have ec : c2 = c := W3_un hW2 hWc
    subst ec
    refine l_istore dL_law_1177 (by decide) rfl ?_
    refine l_aload_n dL_law_1179 rfl ?_
    refine l_arg (j := 1) hs (by omega) (by omega) h2 dL_law_1180 dL_law_1181 dL_law_1183 dL_law_1184 dL_law_1185 rfl rfl ?_
    refine l_arg (j := 2) hs (by omega) (by omega) h2 dL_law_1186 dL_law_1187 dL_law_1189 dL_law_1190 dL_law_1191 rfl rfl ?_
    refine l_callM (av := [.int (zI (xs (i + 1).toNat).toInt), .int (zI (xs (i + 2).toNat).toInt)]) (o := 37) (rest := []) dL_law_1192 mlL_231 md_X8_parts hM rfl rfl rfl (by decide) (by decide) (by show _ ≤ 601024; omega) (by show _ ≤ 7293033; omega) (Nat.le_of_ble_eq_true rfl) (fun E M' h => h) (fun v M2 hq => ?_)
    obtain ⟨z', rfl, h0, hI2⟩ := hq
    refine l_istore dL_law_1195 (by decide) rfl ?_
    refine l_aload_n dL_law_1197 rfl ?_
    refine l_callM (av := []) (o := 37) (rest := []) dL_law_1198 mlL_179 md_X8_thrown (m_thrown (M := M2)) rfl rfl rfl (by decide) (by decide) (by show _ ≤ 601024; omega) (by show _ ≤ 7293033; omega) (Nat.le_of_ble_eq_true rfl) (fun E M' h => h) (fun v M3 hq => ?_)
    obtain ⟨rfl, rfl⟩ := hq
    refine l_iload dL_law_1201 rfl ?_
    refine l_icmp_eqT (tgt := 1208) dL_law_1203 rfl (by rw [h0]) ?_
    refine l_iload dL_law_1208 rfl ?_
    refine l_if_ne (tgt := 1225) dL_law_1210 rfl (fun _ => ?_) (fun h => absurd h (W3_z hWc))
    refine l_goto (tgt := 3627) dL_law_1225 rfl ?_
    refine l_weak (L' := [some (.ref 54), some (.ref 0), some (.ref 37), some (.ref 52), some (.ref 53), some (.int (zI i)), none, none, none]) (by simp [wkB]) (l_widen (by omega) (by omega) (loop _ ?_))
    exact hI2
set_option maxHeartbeats 1000000 in
theorem lc_17 (hs : lScr X A Ls xs) (h2 : Ls ≤ 3072) (i0 : 0 ≤ i) (i6 : i + 6 ≤ Ls) (hI : Inv w.1) (hkc : kc + 6 ≤ 601024) (hks : ks + 36 ≤ 7293033) (loop : ∀ w' : lM, Inv w'.1 → LW X (cL_law, 9, rt, room_1, [], cy, A, Q) (kc + 6) (ks + 36) 3627 [some (.ref 54), some (.ref 0), some (.ref 37), some (.ref 52), some (.ref 53), some (.int (zI i)), none, none, none] [] w') : LW X (cL_law, 9, rt, room_1, [], cy, A, Q) kc ks 1228 [some (.ref 54), some (.ref 0), some (.ref 37), some (.ref 52), some (.ref 53), some (.int (zI i)), none, none, none] [] w := by
  obtain ⟨P', hC, hP1, hP2⟩ := p_block hI (zR_of (xs (i + 1).toNat)) (zR_of (xs (i + 2).toNat)) (zR_of (xs (i + 3).toNat)) (zR_of (xs (i + 4).toNat))
  refine l_aload_n dL_law_1228 rfl ?_
  refine l_arg (j := 1) hs (by omega) (by omega) h2 dL_law_1229 dL_law_1230 dL_law_1232 dL_law_1233 dL_law_1234 rfl rfl ?_
  refine l_arg (j := 2) hs (by omega) (by omega) h2 dL_law_1235 dL_law_1236 dL_law_1238 dL_law_1239 dL_law_1240 rfl rfl ?_
  refine l_arg (j := 3) hs (by omega) (by omega) h2 dL_law_1241 dL_law_1242 dL_law_1244 dL_law_1245 dL_law_1246 rfl rfl ?_
  refine l_arg (j := 4) hs (by omega) (by omega) h2 dL_law_1247 dL_law_1248 dL_law_1250 dL_law_1251 dL_law_1252 rfl rfl ?_
  refine l_aload_n dL_law_1253 rfl ?_
  refine l_callW (av := [.ref 0, .int (zI (xs (i + 1).toNat).toInt), .int (zI (xs (i + 2).toNat).toInt), .int (zI (xs (i + 3).toNat).toInt), .int (zI (xs (i + 4).toNat).toInt), .ref 52]) (rest := []) dL_law_1254 mlL_232 mdL_block (w_block hC (fun v M' h => (hP1 v M' h).elim fun z hz => ⟨z, hz.1⟩) (fun E M' h => (hP2 E M' h).elim fun c hc => ⟨c, hc.1⟩)) rfl (by decide) (by decide) (by show _ ≤ 601024; omega) (by show _ ≤ 7293033; omega) (Nat.le_of_ble_eq_true rfl) (fun v w' hq => ?_)
  rcases hq with ⟨z, M', rfl, hz, hw1, hw2⟩ | ⟨E, M', c, hWc, hE, rfl, rfl⟩
  · obtain ⟨z2, e2, hM⟩ := hP1 _ _ hz
    have e3 : zI z = zI z2 := by simpa using e2
    rw [← hw1] at hM
    refine l_istore dL_law_1257 (by decide) rfl ?_
    refine l_aload_n dL_law_1259 rfl ?_
    refine l_arg (j := 1) hs (by omega) (by omega) h2 dL_law_1260 dL_law_1261 dL_law_1263 dL_law_1264 dL_law_1265 rfl rfl ?_
    refine l_arg (j := 2) hs (by omega) (by omega) h2 dL_law_1266 dL_law_1267 dL_law_1269 dL_law_1270 dL_law_1271 rfl rfl ?_
    refine l_arg (j := 3) hs (by omega) (by omega) h2 dL_law_1272 dL_law_1273 dL_law_1275 dL_law_1276 dL_law_1277 rfl rfl ?_
    refine l_arg (j := 4) hs (by omega) (by omega) h2 dL_law_1278 dL_law_1279 dL_law_1281 dL_law_1282 dL_law_1283 rfl rfl ?_
    refine l_callM (av := [.int (zI (xs (i + 1).toNat).toInt), .int (zI (xs (i + 2).toNat).toInt), .int (zI (xs (i + 3).toNat).toInt), .int (zI (xs (i + 4).toNat).toInt)]) (o := 37) (rest := []) dL_law_1284 mlL_235 md_X8_block hM rfl rfl rfl (by decide) (by decide) (by show _ ≤ 601024; omega) (by show _ ≤ 7293033; omega) (Nat.le_of_ble_eq_true rfl) (fun E M' h => h) (fun v M2 hq => ?_)
    obtain ⟨z', rfl, hz', h0, hI2⟩ := hq
    refine l_istore dL_law_1287 (by decide) rfl ?_
    refine l_aload_n dL_law_1289 rfl ?_
    refine l_callM (av := []) (o := 37) (rest := []) dL_law_1290 mlL_179 md_X8_thrown (m_thrown (M := M2)) rfl rfl rfl (by decide) (by decide) (by show _ ≤ 601024; omega) (by show _ ≤ 7293033; omega) (Nat.le_of_ble_eq_true rfl) (fun E M' h => h) (fun v M3 hq => ?_)
    obtain ⟨rfl, rfl⟩ := hq
    refine l_iload dL_law_1293 rfl ?_
    refine l_icmp_eqT (tgt := 1300) dL_law_1295 rfl (by rw [h0]) ?_
    refine l_iload dL_law_1300 rfl ?_
    refine l_if_ne (tgt := 1317) dL_law_1302 rfl (fun h => absurd (by decide) h) (fun _ => ?_)
    refine l_aload_n dL_law_1305 rfl ?_
    refine l_iconst dL_law_1306 ?_
    refine l_laload dL_law_1307 ?_
    refine l_iload dL_law_1308 rfl ?_
    refine l_i2l dL_law_1310 ?_
    refine l_lcmpE dL_law_1311 (by show w'.2.1 0 = (zI z').toInt64; rw [hw2, e3, hz']) ?_
    refine l_if_eq (tgt := 1317) dL_law_1312 rfl (fun _ => ?_) (fun h => absurd (by decide) h)
    refine l_goto (tgt := 3627) dL_law_1317 rfl ?_
    refine l_weak (L' := [some (.ref 54), some (.ref 0), some (.ref 37), some (.ref 52), some (.ref 53), some (.int (zI i)), none, none, none]) (by simp [wkB]) (l_widen (by omega) (by omega) (loop _ ?_))
    exact hI2
  · obtain ⟨c2, hW2, hM⟩ := hP2 _ _ hE
    have ec : c2 = c := W3_un hW2 hWc
    subst ec
    refine l_istore dL_law_1257 (by decide) rfl ?_
    refine l_aload_n dL_law_1259 rfl ?_
    refine l_arg (j := 1) hs (by omega) (by omega) h2 dL_law_1260 dL_law_1261 dL_law_1263 dL_law_1264 dL_law_1265 rfl rfl ?_
    refine l_arg (j := 2) hs (by omega) (by omega) h2 dL_law_1266 dL_law_1267 dL_law_1269 dL_law_1270 dL_law_1271 rfl rfl ?_
    refine l_arg (j := 3) hs (by omega) (by omega) h2 dL_law_1272 dL_law_1273 dL_law_1275 dL_law_1276 dL_law_1277 rfl rfl ?_
    refine l_arg (j := 4) hs (by omega) (by omega) h2 dL_law_1278 dL_law_1279 dL_law_1281 dL_law_1282 dL_law_1283 rfl rfl ?_
    refine l_callM (av := [.int (zI (xs (i + 1).toNat).toInt), .int (zI (xs (i + 2).toNat).toInt), .int (zI (xs (i + 3).toNat).toInt), .int (zI (xs (i + 4).toNat).toInt)]) (o := 37) (rest := []) dL_law_1284 mlL_235 md_X8_block hM rfl rfl rfl (by decide) (by decide) (by show _ ≤ 601024; omega) (by show _ ≤ 7293033; omega) (Nat.le_of_ble_eq_true rfl) (fun E M' h => h) (fun v M2 hq => ?_)
    obtain ⟨z', rfl, h0, hI2⟩ := hq
    refine l_istore dL_law_1287 (by decide) rfl ?_
    refine l_aload_n dL_law_1289 rfl ?_
    refine l_callM (av := []) (o := 37) (rest := []) dL_law_1290 mlL_179 md_X8_thrown (m_thrown (M := M2)) rfl rfl rfl (by decide) (by decide) (by show _ ≤ 601024; omega) (by show _ ≤ 7293033; omega) (Nat.le_of_ble_eq_true rfl) (fun E M' h => h) (fun v M3 hq => ?_)
    obtain ⟨rfl, rfl⟩ := hq
    refine l_iload dL_law_1293 rfl ?_
    refine l_icmp_eqT (tgt := 1300) dL_law_1295 rfl (by rw [h0]) ?_
    refine l_iload dL_law_1300 rfl ?_
    refine l_if_ne (tgt := 1317) dL_law_1302 rfl (fun _ => ?_) (fun h => absurd h (W3_z hWc))
    refine l_goto (tgt := 3627) dL_law_1317 rfl ?_
    refine l_weak (L' := [some (.ref 54), some (.ref 0), some (.ref 37), some (.ref 52), some (.ref 53), some (.int (zI i)), none, none, none]) (by simp [wkB]) (l_widen (by omega) (by omega) (loop _ ?_))
    exact hI2
set_option maxHeartbeats 1000000 in
theorem lc_18 (hs : lScr X A Ls xs) (h2 : Ls ≤ 3072) (i0 : 0 ≤ i) (i6 : i + 6 ≤ Ls) (hI : Inv w.1) (hkc : kc + 6 ≤ 601024) (hks : ks + 36 ≤ 7293033) (loop : ∀ w' : lM, Inv w'.1 → LW X (cL_law, 9, rt, room_1, [], cy, A, Q) (kc + 6) (ks + 36) 3627 [some (.ref 54), some (.ref 0), some (.ref 37), some (.ref 52), some (.ref 53), some (.int (zI i)), none, none, none] [] w') : LW X (cL_law, 9, rt, room_1, [], cy, A, Q) kc ks 1320 [some (.ref 54), some (.ref 0), some (.ref 37), some (.ref 52), some (.ref 53), some (.int (zI i)), none, none, none] [] w := by
  obtain ⟨P', hC, hP1, hP2⟩ := p_teller hI (zR_of (xs (i + 1).toNat)) (zR_of (xs (i + 2).toNat))
  refine l_aload_n dL_law_1320 rfl ?_
  refine l_arg (j := 1) hs (by omega) (by omega) h2 dL_law_1321 dL_law_1322 dL_law_1324 dL_law_1325 dL_law_1326 rfl rfl ?_
  refine l_arg (j := 2) hs (by omega) (by omega) h2 dL_law_1327 dL_law_1328 dL_law_1330 dL_law_1331 dL_law_1332 rfl rfl ?_
  refine l_aload_n dL_law_1333 rfl ?_
  refine l_callW (av := [.ref 0, .int (zI (xs (i + 1).toNat).toInt), .int (zI (xs (i + 2).toNat).toInt), .ref 52]) (rest := []) dL_law_1334 mlL_236 mdL_teller (w_teller hC (fun v M' h => (hP1 v M' h).elim fun z hz => ⟨z, hz.1⟩) (fun E M' h => (hP2 E M' h).elim fun c hc => ⟨c, hc.1⟩)) rfl (by decide) (by decide) (by show _ ≤ 601024; omega) (by show _ ≤ 7293033; omega) (Nat.le_of_ble_eq_true rfl) (fun v w' hq => ?_)
  rcases hq with ⟨z, M', rfl, hz, hw1, hw2⟩ | ⟨E, M', c, hWc, hE, rfl, rfl⟩
  · obtain ⟨z2, e2, hM⟩ := hP1 _ _ hz
    have e3 : zI z = zI z2 := by simpa using e2
    rw [← hw1] at hM
    refine l_istore dL_law_1337 (by decide) rfl ?_
    refine l_aload_n dL_law_1339 rfl ?_
    refine l_arg (j := 1) hs (by omega) (by omega) h2 dL_law_1340 dL_law_1341 dL_law_1343 dL_law_1344 dL_law_1345 rfl rfl ?_
    refine l_arg (j := 2) hs (by omega) (by omega) h2 dL_law_1346 dL_law_1347 dL_law_1349 dL_law_1350 dL_law_1351 rfl rfl ?_
    refine l_callM (av := [.int (zI (xs (i + 1).toNat).toInt), .int (zI (xs (i + 2).toNat).toInt)]) (o := 37) (rest := []) dL_law_1352 mlL_238 md_X8_teller hM rfl rfl rfl (by decide) (by decide) (by show _ ≤ 601024; omega) (by show _ ≤ 7293033; omega) (Nat.le_of_ble_eq_true rfl) (fun E M' h => h) (fun v M2 hq => ?_)
    obtain ⟨z', rfl, hz', h0, hI2⟩ := hq
    refine l_istore dL_law_1355 (by decide) rfl ?_
    refine l_aload_n dL_law_1357 rfl ?_
    refine l_callM (av := []) (o := 37) (rest := []) dL_law_1358 mlL_179 md_X8_thrown (m_thrown (M := M2)) rfl rfl rfl (by decide) (by decide) (by show _ ≤ 601024; omega) (by show _ ≤ 7293033; omega) (Nat.le_of_ble_eq_true rfl) (fun E M' h => h) (fun v M3 hq => ?_)
    obtain ⟨rfl, rfl⟩ := hq
    refine l_iload dL_law_1361 rfl ?_
    refine l_icmp_eqT (tgt := 1368) dL_law_1363 rfl (by rw [h0]) ?_
    refine l_iload dL_law_1368 rfl ?_
    refine l_if_ne (tgt := 1385) dL_law_1370 rfl (fun h => absurd (by decide) h) (fun _ => ?_)
    refine l_aload_n dL_law_1373 rfl ?_
    refine l_iconst dL_law_1374 ?_
    refine l_laload dL_law_1375 ?_
    refine l_iload dL_law_1376 rfl ?_
    refine l_i2l dL_law_1378 ?_
    refine l_lcmpE dL_law_1379 (by show w'.2.1 0 = (zI z').toInt64; rw [hw2, e3, hz']) ?_
    refine l_if_eq (tgt := 1385) dL_law_1380 rfl (fun _ => ?_) (fun h => absurd (by decide) h)
    refine l_goto (tgt := 3627) dL_law_1385 rfl ?_
    refine l_weak (L' := [some (.ref 54), some (.ref 0), some (.ref 37), some (.ref 52), some (.ref 53), some (.int (zI i)), none, none, none]) (by simp [wkB]) (l_widen (by omega) (by omega) (loop _ ?_))
    exact hI2
  · obtain ⟨c2, hW2, hM⟩ := hP2 _ _ hE
    have ec : c2 = c := W2_un hW2 hWc
    subst ec
    refine l_istore dL_law_1337 (by decide) rfl ?_
    refine l_aload_n dL_law_1339 rfl ?_
    refine l_arg (j := 1) hs (by omega) (by omega) h2 dL_law_1340 dL_law_1341 dL_law_1343 dL_law_1344 dL_law_1345 rfl rfl ?_
    refine l_arg (j := 2) hs (by omega) (by omega) h2 dL_law_1346 dL_law_1347 dL_law_1349 dL_law_1350 dL_law_1351 rfl rfl ?_
    refine l_callM (av := [.int (zI (xs (i + 1).toNat).toInt), .int (zI (xs (i + 2).toNat).toInt)]) (o := 37) (rest := []) dL_law_1352 mlL_238 md_X8_teller hM rfl rfl rfl (by decide) (by decide) (by show _ ≤ 601024; omega) (by show _ ≤ 7293033; omega) (Nat.le_of_ble_eq_true rfl) (fun E M' h => h) (fun v M2 hq => ?_)
    obtain ⟨z', rfl, h0, hI2⟩ := hq
    refine l_istore dL_law_1355 (by decide) rfl ?_
    refine l_aload_n dL_law_1357 rfl ?_
    refine l_callM (av := []) (o := 37) (rest := []) dL_law_1358 mlL_179 md_X8_thrown (m_thrown (M := M2)) rfl rfl rfl (by decide) (by decide) (by show _ ≤ 601024; omega) (by show _ ≤ 7293033; omega) (Nat.le_of_ble_eq_true rfl) (fun E M' h => h) (fun v M3 hq => ?_)
    obtain ⟨rfl, rfl⟩ := hq
    refine l_iload dL_law_1361 rfl ?_
    refine l_icmp_eqT (tgt := 1368) dL_law_1363 rfl (by rw [h0]) ?_
    refine l_iload dL_law_1368 rfl ?_
    refine l_if_ne (tgt := 1385) dL_law_1370 rfl (fun _ => ?_) (fun h => absurd h (W2_z hWc))
    refine l_goto (tgt := 3627) dL_law_1385 rfl ?_
    refine l_weak (L' := [some (.ref 54), some (.ref 0), some (.ref 37), some (.ref 52), some (.ref 53), some (.int (zI i)), none, none, none]) (by simp [wkB]) (l_widen (by omega) (by omega) (loop _ ?_))
    exact hI2
set_option maxHeartbeats 1000000 in
theorem lc_19 (hs : lScr X A Ls xs) (h2 : Ls ≤ 3072) (i0 : 0 ≤ i) (i6 : i + 6 ≤ Ls) (hI : Inv w.1) (hkc : kc + 6 ≤ 601024) (hks : ks + 36 ≤ 7293033) (loop : ∀ w' : lM, Inv w'.1 → LW X (cL_law, 9, rt, room_1, [], cy, A, Q) (kc + 6) (ks + 36) 3627 [some (.ref 54), some (.ref 0), some (.ref 37), some (.ref 52), some (.ref 53), some (.int (zI i)), none, none, none] [] w') : LW X (cL_law, 9, rt, room_1, [], cy, A, Q) kc ks 1388 [some (.ref 54), some (.ref 0), some (.ref 37), some (.ref 52), some (.ref 53), some (.int (zI i)), none, none, none] [] w := by
  obtain ⟨P', hC, hP1, hP2⟩ := p_told hI (zR_of (xs (i + 1).toNat)) (zR_of (xs (i + 2).toNat))
  refine l_aload_n dL_law_1388 rfl ?_
  refine l_arg (j := 1) hs (by omega) (by omega) h2 dL_law_1389 dL_law_1390 dL_law_1392 dL_law_1393 dL_law_1394 rfl rfl ?_
  refine l_arg (j := 2) hs (by omega) (by omega) h2 dL_law_1395 dL_law_1396 dL_law_1398 dL_law_1399 dL_law_1400 rfl rfl ?_
  refine l_aload_n dL_law_1401 rfl ?_
  refine l_callW (av := [.ref 0, .int (zI (xs (i + 1).toNat).toInt), .int (zI (xs (i + 2).toNat).toInt), .ref 52]) (rest := []) dL_law_1402 mlL_239 mdL_told (w_told hC (fun v M' h => (hP1 v M' h).elim fun z hz => ⟨z, hz.1⟩) (fun E M' h => (hP2 E M' h).elim fun c hc => ⟨c, hc.1⟩)) rfl (by decide) (by decide) (by show _ ≤ 601024; omega) (by show _ ≤ 7293033; omega) (Nat.le_of_ble_eq_true rfl) (fun v w' hq => ?_)
  rcases hq with ⟨z, M', rfl, hz, hw1, hw2⟩ | ⟨E, M', c, hWc, hE, rfl, rfl⟩
  · obtain ⟨z2, e2, hM⟩ := hP1 _ _ hz
    have e3 : zI z = zI z2 := by simpa using e2
    rw [← hw1] at hM
    refine l_istore dL_law_1405 (by decide) rfl ?_
    refine l_aload_n dL_law_1407 rfl ?_
    refine l_arg (j := 1) hs (by omega) (by omega) h2 dL_law_1408 dL_law_1409 dL_law_1411 dL_law_1412 dL_law_1413 rfl rfl ?_
    refine l_arg (j := 2) hs (by omega) (by omega) h2 dL_law_1414 dL_law_1415 dL_law_1417 dL_law_1418 dL_law_1419 rfl rfl ?_
    refine l_callM (av := [.int (zI (xs (i + 1).toNat).toInt), .int (zI (xs (i + 2).toNat).toInt)]) (o := 37) (rest := []) dL_law_1420 mlL_241 md_X8_told hM rfl rfl rfl (by decide) (by decide) (by show _ ≤ 601024; omega) (by show _ ≤ 7293033; omega) (Nat.le_of_ble_eq_true rfl) (fun E M' h => h) (fun v M2 hq => ?_)
    obtain ⟨z', rfl, hz', h0, hI2⟩ := hq
    refine l_istore dL_law_1423 (by decide) rfl ?_
    refine l_aload_n dL_law_1425 rfl ?_
    refine l_callM (av := []) (o := 37) (rest := []) dL_law_1426 mlL_179 md_X8_thrown (m_thrown (M := M2)) rfl rfl rfl (by decide) (by decide) (by show _ ≤ 601024; omega) (by show _ ≤ 7293033; omega) (Nat.le_of_ble_eq_true rfl) (fun E M' h => h) (fun v M3 hq => ?_)
    obtain ⟨rfl, rfl⟩ := hq
    refine l_iload dL_law_1429 rfl ?_
    refine l_icmp_eqT (tgt := 1436) dL_law_1431 rfl (by rw [h0]) ?_
    refine l_iload dL_law_1436 rfl ?_
    refine l_if_ne (tgt := 1453) dL_law_1438 rfl (fun h => absurd (by decide) h) (fun _ => ?_)
    refine l_aload_n dL_law_1441 rfl ?_
    refine l_iconst dL_law_1442 ?_
    refine l_laload dL_law_1443 ?_
    refine l_iload dL_law_1444 rfl ?_
    refine l_i2l dL_law_1446 ?_
    refine l_lcmpE dL_law_1447 (by show w'.2.1 0 = (zI z').toInt64; rw [hw2, e3, hz']) ?_
    refine l_if_eq (tgt := 1453) dL_law_1448 rfl (fun _ => ?_) (fun h => absurd (by decide) h)
    refine l_goto (tgt := 3627) dL_law_1453 rfl ?_
    refine l_weak (L' := [some (.ref 54), some (.ref 0), some (.ref 37), some (.ref 52), some (.ref 53), some (.int (zI i)), none, none, none]) (by simp [wkB]) (l_widen (by omega) (by omega) (loop _ ?_))
    exact hI2
  · obtain ⟨c2, hW2, hM⟩ := hP2 _ _ hE
    have ec : c2 = c := W2_un hW2 hWc
    subst ec
    refine l_istore dL_law_1405 (by decide) rfl ?_
    refine l_aload_n dL_law_1407 rfl ?_
    refine l_arg (j := 1) hs (by omega) (by omega) h2 dL_law_1408 dL_law_1409 dL_law_1411 dL_law_1412 dL_law_1413 rfl rfl ?_
    refine l_arg (j := 2) hs (by omega) (by omega) h2 dL_law_1414 dL_law_1415 dL_law_1417 dL_law_1418 dL_law_1419 rfl rfl ?_
    refine l_callM (av := [.int (zI (xs (i + 1).toNat).toInt), .int (zI (xs (i + 2).toNat).toInt)]) (o := 37) (rest := []) dL_law_1420 mlL_241 md_X8_told hM rfl rfl rfl (by decide) (by decide) (by show _ ≤ 601024; omega) (by show _ ≤ 7293033; omega) (Nat.le_of_ble_eq_true rfl) (fun E M' h => h) (fun v M2 hq => ?_)
    obtain ⟨z', rfl, h0, hI2⟩ := hq
    refine l_istore dL_law_1423 (by decide) rfl ?_
    refine l_aload_n dL_law_1425 rfl ?_
    refine l_callM (av := []) (o := 37) (rest := []) dL_law_1426 mlL_179 md_X8_thrown (m_thrown (M := M2)) rfl rfl rfl (by decide) (by decide) (by show _ ≤ 601024; omega) (by show _ ≤ 7293033; omega) (Nat.le_of_ble_eq_true rfl) (fun E M' h => h) (fun v M3 hq => ?_)
    obtain ⟨rfl, rfl⟩ := hq
    refine l_iload dL_law_1429 rfl ?_
    refine l_icmp_eqT (tgt := 1436) dL_law_1431 rfl (by rw [h0]) ?_
    refine l_iload dL_law_1436 rfl ?_
    refine l_if_ne (tgt := 1453) dL_law_1438 rfl (fun _ => ?_) (fun h => absurd h (W2_z hWc))
    refine l_goto (tgt := 3627) dL_law_1453 rfl ?_
    refine l_weak (L' := [some (.ref 54), some (.ref 0), some (.ref 37), some (.ref 52), some (.ref 53), some (.int (zI i)), none, none, none]) (by simp [wkB]) (l_widen (by omega) (by omega) (loop _ ?_))
    exact hI2
set_option maxHeartbeats 1000000 in
theorem lc_20 (hs : lScr X A Ls xs) (h2 : Ls ≤ 3072) (i0 : 0 ≤ i) (i6 : i + 6 ≤ Ls) (hI : Inv w.1) (hkc : kc + 6 ≤ 601024) (hks : ks + 36 ≤ 7293033) (loop : ∀ w' : lM, Inv w'.1 → LW X (cL_law, 9, rt, room_1, [], cy, A, Q) (kc + 6) (ks + 36) 3627 [some (.ref 54), some (.ref 0), some (.ref 37), some (.ref 52), some (.ref 53), some (.int (zI i)), none, none, none] [] w') : LW X (cL_law, 9, rt, room_1, [], cy, A, Q) kc ks 1456 [some (.ref 54), some (.ref 0), some (.ref 37), some (.ref 52), some (.ref 53), some (.int (zI i)), none, none, none] [] w := by
  obtain ⟨P', hC, hP1, hP2⟩ := p_lowest hI (zR_of (xs (i + 1).toNat))
  refine l_aload_n dL_law_1456 rfl ?_
  refine l_arg (j := 1) hs (by omega) (by omega) h2 dL_law_1457 dL_law_1458 dL_law_1460 dL_law_1461 dL_law_1462 rfl rfl ?_
  refine l_aload_n dL_law_1463 rfl ?_
  refine l_callW (av := [.ref 0, .int (zI (xs (i + 1).toNat).toInt), .ref 52]) (rest := []) dL_law_1464 mlL_242 mdL_lowest (w_lowest hC (fun v M' h => (hP1 v M' h).elim fun z hz => ⟨z, hz.1⟩) (fun E M' h => (hP2 E M' h).elim fun c hc => ⟨c, hc.1⟩)) rfl (by decide) (by decide) (by show _ ≤ 601024; omega) (by show _ ≤ 7293033; omega) (Nat.le_of_ble_eq_true rfl) (fun v w' hq => ?_)
  rcases hq with ⟨z, M', rfl, hz, hw1, hw2⟩ | ⟨E, M', c, hWc, hE, rfl, rfl⟩
  · obtain ⟨z2, e2, hM⟩ := hP1 _ _ hz
    have e3 : zI z = zI z2 := by simpa using e2
    rw [← hw1] at hM
    refine l_istore dL_law_1467 (by decide) rfl ?_
    refine l_aload_n dL_law_1469 rfl ?_
    refine l_arg (j := 1) hs (by omega) (by omega) h2 dL_law_1470 dL_law_1471 dL_law_1473 dL_law_1474 dL_law_1475 rfl rfl ?_
    refine l_callM (av := [.int (zI (xs (i + 1).toNat).toInt)]) (o := 37) (rest := []) dL_law_1476 mlL_244 md_X8_lowest hM rfl rfl rfl (by decide) (by decide) (by show _ ≤ 601024; omega) (by show _ ≤ 7293033; omega) (Nat.le_of_ble_eq_true rfl) (fun E M' h => h) (fun v M2 hq => ?_)
    obtain ⟨z', rfl, hz', h0, hI2⟩ := hq
    refine l_istore dL_law_1479 (by decide) rfl ?_
    refine l_aload_n dL_law_1481 rfl ?_
    refine l_callM (av := []) (o := 37) (rest := []) dL_law_1482 mlL_179 md_X8_thrown (m_thrown (M := M2)) rfl rfl rfl (by decide) (by decide) (by show _ ≤ 601024; omega) (by show _ ≤ 7293033; omega) (Nat.le_of_ble_eq_true rfl) (fun E M' h => h) (fun v M3 hq => ?_)
    obtain ⟨rfl, rfl⟩ := hq
    refine l_iload dL_law_1485 rfl ?_
    refine l_icmp_eqT (tgt := 1492) dL_law_1487 rfl (by rw [h0]) ?_
    refine l_iload dL_law_1492 rfl ?_
    refine l_if_ne (tgt := 1509) dL_law_1494 rfl (fun h => absurd (by decide) h) (fun _ => ?_)
    refine l_aload_n dL_law_1497 rfl ?_
    refine l_iconst dL_law_1498 ?_
    refine l_laload dL_law_1499 ?_
    refine l_iload dL_law_1500 rfl ?_
    refine l_i2l dL_law_1502 ?_
    refine l_lcmpE dL_law_1503 (by show w'.2.1 0 = (zI z').toInt64; rw [hw2, e3, hz']) ?_
    refine l_if_eq (tgt := 1509) dL_law_1504 rfl (fun _ => ?_) (fun h => absurd (by decide) h)
    refine l_goto (tgt := 3627) dL_law_1509 rfl ?_
    refine l_weak (L' := [some (.ref 54), some (.ref 0), some (.ref 37), some (.ref 52), some (.ref 53), some (.int (zI i)), none, none, none]) (by simp [wkB]) (l_widen (by omega) (by omega) (loop _ ?_))
    exact hI2
  · obtain ⟨c2, hW2, hM⟩ := hP2 _ _ hE
    have ec : c2 = c := W2_un hW2 hWc
    subst ec
    refine l_istore dL_law_1467 (by decide) rfl ?_
    refine l_aload_n dL_law_1469 rfl ?_
    refine l_arg (j := 1) hs (by omega) (by omega) h2 dL_law_1470 dL_law_1471 dL_law_1473 dL_law_1474 dL_law_1475 rfl rfl ?_
    refine l_callM (av := [.int (zI (xs (i + 1).toNat).toInt)]) (o := 37) (rest := []) dL_law_1476 mlL_244 md_X8_lowest hM rfl rfl rfl (by decide) (by decide) (by show _ ≤ 601024; omega) (by show _ ≤ 7293033; omega) (Nat.le_of_ble_eq_true rfl) (fun E M' h => h) (fun v M2 hq => ?_)
    obtain ⟨z', rfl, h0, hI2⟩ := hq
    refine l_istore dL_law_1479 (by decide) rfl ?_
    refine l_aload_n dL_law_1481 rfl ?_
    refine l_callM (av := []) (o := 37) (rest := []) dL_law_1482 mlL_179 md_X8_thrown (m_thrown (M := M2)) rfl rfl rfl (by decide) (by decide) (by show _ ≤ 601024; omega) (by show _ ≤ 7293033; omega) (Nat.le_of_ble_eq_true rfl) (fun E M' h => h) (fun v M3 hq => ?_)
    obtain ⟨rfl, rfl⟩ := hq
    refine l_iload dL_law_1485 rfl ?_
    refine l_icmp_eqT (tgt := 1492) dL_law_1487 rfl (by rw [h0]) ?_
    refine l_iload dL_law_1492 rfl ?_
    refine l_if_ne (tgt := 1509) dL_law_1494 rfl (fun _ => ?_) (fun h => absurd h (W2_z hWc))
    refine l_goto (tgt := 3627) dL_law_1509 rfl ?_
    refine l_weak (L' := [some (.ref 54), some (.ref 0), some (.ref 37), some (.ref 52), some (.ref 53), some (.int (zI i)), none, none, none]) (by simp [wkB]) (l_widen (by omega) (by omega) (loop _ ?_))
    exact hI2
set_option maxHeartbeats 1000000 in
theorem lc_21 (hs : lScr X A Ls xs) (h2 : Ls ≤ 3072) (i0 : 0 ≤ i) (i6 : i + 6 ≤ Ls) (hI : Inv w.1) (hkc : kc + 6 ≤ 601024) (hks : ks + 36 ≤ 7293033) (loop : ∀ w' : lM, Inv w'.1 → LW X (cL_law, 9, rt, room_1, [], cy, A, Q) (kc + 6) (ks + 36) 3627 [some (.ref 54), some (.ref 0), some (.ref 37), some (.ref 52), some (.ref 53), some (.int (zI i)), none, none, none] [] w') : LW X (cL_law, 9, rt, room_1, [], cy, A, Q) kc ks 1512 [some (.ref 54), some (.ref 0), some (.ref 37), some (.ref 52), some (.ref 53), some (.int (zI i)), none, none, none] [] w := by
  obtain ⟨P', hC, hP1, hP2⟩ := p_biggest hI (zR_of (xs (i + 1).toNat)) (zR_of (xs (i + 2).toNat))
  refine l_aload_n dL_law_1512 rfl ?_
  refine l_arg (j := 1) hs (by omega) (by omega) h2 dL_law_1513 dL_law_1514 dL_law_1516 dL_law_1517 dL_law_1518 rfl rfl ?_
  refine l_arg (j := 2) hs (by omega) (by omega) h2 dL_law_1519 dL_law_1520 dL_law_1522 dL_law_1523 dL_law_1524 rfl rfl ?_
  refine l_aload_n dL_law_1525 rfl ?_
  refine l_callW (av := [.ref 0, .int (zI (xs (i + 1).toNat).toInt), .int (zI (xs (i + 2).toNat).toInt), .ref 52]) (rest := []) dL_law_1526 mlL_245 mdL_biggest (w_biggest hC (fun v M' h => (hP1 v M' h).elim fun z hz => ⟨z, hz.1⟩) (fun E M' h => (hP2 E M' h).elim fun c hc => ⟨c, hc.1⟩)) rfl (by decide) (by decide) (by show _ ≤ 601024; omega) (by show _ ≤ 7293033; omega) (Nat.le_of_ble_eq_true rfl) (fun v w' hq => ?_)
  rcases hq with ⟨z, M', rfl, hz, hw1, hw2⟩ | ⟨E, M', c, hWc, hE, rfl, rfl⟩
  · obtain ⟨z2, e2, hM⟩ := hP1 _ _ hz
    have e3 : zI z = zI z2 := by simpa using e2
    rw [← hw1] at hM
    refine l_istore dL_law_1529 (by decide) rfl ?_
    refine l_aload_n dL_law_1531 rfl ?_
    refine l_arg (j := 1) hs (by omega) (by omega) h2 dL_law_1532 dL_law_1533 dL_law_1535 dL_law_1536 dL_law_1537 rfl rfl ?_
    refine l_arg (j := 2) hs (by omega) (by omega) h2 dL_law_1538 dL_law_1539 dL_law_1541 dL_law_1542 dL_law_1543 rfl rfl ?_
    refine l_callM (av := [.int (zI (xs (i + 1).toNat).toInt), .int (zI (xs (i + 2).toNat).toInt)]) (o := 37) (rest := []) dL_law_1544 mlL_247 md_X8_biggest hM rfl rfl rfl (by decide) (by decide) (by show _ ≤ 601024; omega) (by show _ ≤ 7293033; omega) (Nat.le_of_ble_eq_true rfl) (fun E M' h => h) (fun v M2 hq => ?_)
    obtain ⟨z', rfl, hz', h0, hI2⟩ := hq
    refine l_istore dL_law_1547 (by decide) rfl ?_
    refine l_aload_n dL_law_1549 rfl ?_
    refine l_callM (av := []) (o := 37) (rest := []) dL_law_1550 mlL_179 md_X8_thrown (m_thrown (M := M2)) rfl rfl rfl (by decide) (by decide) (by show _ ≤ 601024; omega) (by show _ ≤ 7293033; omega) (Nat.le_of_ble_eq_true rfl) (fun E M' h => h) (fun v M3 hq => ?_)
    obtain ⟨rfl, rfl⟩ := hq
    refine l_iload dL_law_1553 rfl ?_
    refine l_icmp_eqT (tgt := 1560) dL_law_1555 rfl (by rw [h0]) ?_
    refine l_iload dL_law_1560 rfl ?_
    refine l_if_ne (tgt := 1577) dL_law_1562 rfl (fun h => absurd (by decide) h) (fun _ => ?_)
    refine l_aload_n dL_law_1565 rfl ?_
    refine l_iconst dL_law_1566 ?_
    refine l_laload dL_law_1567 ?_
    refine l_iload dL_law_1568 rfl ?_
    refine l_i2l dL_law_1570 ?_
    refine l_lcmpE dL_law_1571 (by show w'.2.1 0 = (zI z').toInt64; rw [hw2, e3, hz']) ?_
    refine l_if_eq (tgt := 1577) dL_law_1572 rfl (fun _ => ?_) (fun h => absurd (by decide) h)
    refine l_goto (tgt := 3627) dL_law_1577 rfl ?_
    refine l_weak (L' := [some (.ref 54), some (.ref 0), some (.ref 37), some (.ref 52), some (.ref 53), some (.int (zI i)), none, none, none]) (by simp [wkB]) (l_widen (by omega) (by omega) (loop _ ?_))
    exact hI2
  · obtain ⟨c2, hW2, hM⟩ := hP2 _ _ hE
    have ec : c2 = c := W3_un hW2 hWc
    subst ec
    refine l_istore dL_law_1529 (by decide) rfl ?_
    refine l_aload_n dL_law_1531 rfl ?_
    refine l_arg (j := 1) hs (by omega) (by omega) h2 dL_law_1532 dL_law_1533 dL_law_1535 dL_law_1536 dL_law_1537 rfl rfl ?_
    refine l_arg (j := 2) hs (by omega) (by omega) h2 dL_law_1538 dL_law_1539 dL_law_1541 dL_law_1542 dL_law_1543 rfl rfl ?_
    refine l_callM (av := [.int (zI (xs (i + 1).toNat).toInt), .int (zI (xs (i + 2).toNat).toInt)]) (o := 37) (rest := []) dL_law_1544 mlL_247 md_X8_biggest hM rfl rfl rfl (by decide) (by decide) (by show _ ≤ 601024; omega) (by show _ ≤ 7293033; omega) (Nat.le_of_ble_eq_true rfl) (fun E M' h => h) (fun v M2 hq => ?_)
    obtain ⟨z', rfl, h0, hI2⟩ := hq
    refine l_istore dL_law_1547 (by decide) rfl ?_
    refine l_aload_n dL_law_1549 rfl ?_
    refine l_callM (av := []) (o := 37) (rest := []) dL_law_1550 mlL_179 md_X8_thrown (m_thrown (M := M2)) rfl rfl rfl (by decide) (by decide) (by show _ ≤ 601024; omega) (by show _ ≤ 7293033; omega) (Nat.le_of_ble_eq_true rfl) (fun E M' h => h) (fun v M3 hq => ?_)
    obtain ⟨rfl, rfl⟩ := hq
    refine l_iload dL_law_1553 rfl ?_
    refine l_icmp_eqT (tgt := 1560) dL_law_1555 rfl (by rw [h0]) ?_
    refine l_iload dL_law_1560 rfl ?_
    refine l_if_ne (tgt := 1577) dL_law_1562 rfl (fun _ => ?_) (fun h => absurd h (W3_z hWc))
    refine l_goto (tgt := 3627) dL_law_1577 rfl ?_
    refine l_weak (L' := [some (.ref 54), some (.ref 0), some (.ref 37), some (.ref 52), some (.ref 53), some (.int (zI i)), none, none, none]) (by simp [wkB]) (l_widen (by omega) (by omega) (loop _ ?_))
    exact hI2
set_option maxHeartbeats 1000000 in
theorem lc_22 (hs : lScr X A Ls xs) (h2 : Ls ≤ 3072) (i0 : 0 ≤ i) (i6 : i + 6 ≤ Ls) (hI : Inv w.1) (hkc : kc + 6 ≤ 601024) (hks : ks + 36 ≤ 7293033) (loop : ∀ w' : lM, Inv w'.1 → LW X (cL_law, 9, rt, room_1, [], cy, A, Q) (kc + 6) (ks + 36) 3627 [some (.ref 54), some (.ref 0), some (.ref 37), some (.ref 52), some (.ref 53), some (.int (zI i)), none, none, none] [] w') : LW X (cL_law, 9, rt, room_1, [], cy, A, Q) kc ks 1580 [some (.ref 54), some (.ref 0), some (.ref 37), some (.ref 52), some (.ref 53), some (.int (zI i)), none, none, none] [] w := by
  obtain ⟨P', hC, hP1, hP2⟩ := p_cheapest1 hI 
  refine l_aload_n dL_law_1580 rfl ?_
  refine l_aload_n dL_law_1581 rfl ?_
  refine l_callW (av := [.ref 0, .ref 52]) (rest := []) dL_law_1582 mlL_248 mdL_cheapest (w_cheapest hC (fun v M' h => (hP1 v M' h).elim fun z hz => ⟨z, hz.1⟩) (fun E M' h => (hP2 E M' h).elim fun c hc => ⟨c, hc.1⟩)) rfl (by decide) (by decide) (by show _ ≤ 601024; omega) (by show _ ≤ 7293033; omega) (Nat.le_of_ble_eq_true rfl) (fun v w' hq => ?_)
  rcases hq with ⟨z, M', rfl, hz, hw1, hw2⟩ | ⟨E, M', c, hWc, hE, rfl, rfl⟩
  · obtain ⟨z2, e2, hM⟩ := hP1 _ _ hz
    have e3 : zI z = zI z2 := by simpa using e2
    rw [← hw1] at hM
    refine l_istore dL_law_1585 (by decide) rfl ?_
    refine l_aload_n dL_law_1587 rfl ?_
    refine l_callM (av := []) (o := 37) (rest := []) dL_law_1588 mlL_251 md_X8_cheapest hM rfl rfl rfl (by decide) (by decide) (by show _ ≤ 601024; omega) (by show _ ≤ 7293033; omega) (Nat.le_of_ble_eq_true rfl) (fun E M' h => h) (fun v M2 hq => ?_)
    obtain ⟨z', rfl, hz', h0, hI2⟩ := hq
    refine l_istore dL_law_1591 (by decide) rfl ?_
    refine l_aload_n dL_law_1593 rfl ?_
    refine l_callM (av := []) (o := 37) (rest := []) dL_law_1594 mlL_179 md_X8_thrown (m_thrown (M := M2)) rfl rfl rfl (by decide) (by decide) (by show _ ≤ 601024; omega) (by show _ ≤ 7293033; omega) (Nat.le_of_ble_eq_true rfl) (fun E M' h => h) (fun v M3 hq => ?_)
    obtain ⟨rfl, rfl⟩ := hq
    refine l_iload dL_law_1597 rfl ?_
    refine l_icmp_eqT (tgt := 1604) dL_law_1599 rfl (by rw [h0]) ?_
    refine l_iload dL_law_1604 rfl ?_
    refine l_if_ne (tgt := 1621) dL_law_1606 rfl (fun h => absurd (by decide) h) (fun _ => ?_)
    refine l_aload_n dL_law_1609 rfl ?_
    refine l_iconst dL_law_1610 ?_
    refine l_laload dL_law_1611 ?_
    refine l_iload dL_law_1612 rfl ?_
    refine l_i2l dL_law_1614 ?_
    refine l_lcmpE dL_law_1615 (by show w'.2.1 0 = (zI z').toInt64; rw [hw2, e3, hz']) ?_
    refine l_if_eq (tgt := 1621) dL_law_1616 rfl (fun _ => ?_) (fun h => absurd (by decide) h)
    refine l_goto (tgt := 3627) dL_law_1621 rfl ?_
    refine l_weak (L' := [some (.ref 54), some (.ref 0), some (.ref 37), some (.ref 52), some (.ref 53), some (.int (zI i)), none, none, none]) (by simp [wkB]) (l_widen (by omega) (by omega) (loop _ ?_))
    exact hI2
  · obtain ⟨c2, hW2, hM⟩ := hP2 _ _ hE
    have ec : c2 = c := W1_un hW2 hWc
    subst ec
    refine l_istore dL_law_1585 (by decide) rfl ?_
    refine l_aload_n dL_law_1587 rfl ?_
    refine l_callM (av := []) (o := 37) (rest := []) dL_law_1588 mlL_251 md_X8_cheapest hM rfl rfl rfl (by decide) (by decide) (by show _ ≤ 601024; omega) (by show _ ≤ 7293033; omega) (Nat.le_of_ble_eq_true rfl) (fun E M' h => h) (fun v M2 hq => ?_)
    obtain ⟨z', rfl, h0, hI2⟩ := hq
    refine l_istore dL_law_1591 (by decide) rfl ?_
    refine l_aload_n dL_law_1593 rfl ?_
    refine l_callM (av := []) (o := 37) (rest := []) dL_law_1594 mlL_179 md_X8_thrown (m_thrown (M := M2)) rfl rfl rfl (by decide) (by decide) (by show _ ≤ 601024; omega) (by show _ ≤ 7293033; omega) (Nat.le_of_ble_eq_true rfl) (fun E M' h => h) (fun v M3 hq => ?_)
    obtain ⟨rfl, rfl⟩ := hq
    refine l_iload dL_law_1597 rfl ?_
    refine l_icmp_eqT (tgt := 1604) dL_law_1599 rfl (by rw [h0]) ?_
    refine l_iload dL_law_1604 rfl ?_
    refine l_if_ne (tgt := 1621) dL_law_1606 rfl (fun _ => ?_) (fun h => absurd h (W1_z hWc))
    refine l_goto (tgt := 3627) dL_law_1621 rfl ?_
    refine l_weak (L' := [some (.ref 54), some (.ref 0), some (.ref 37), some (.ref 52), some (.ref 53), some (.int (zI i)), none, none, none]) (by simp [wkB]) (l_widen (by omega) (by omega) (loop _ ?_))
    exact hI2
set_option maxHeartbeats 1000000 in
theorem lc_25 (hs : lScr X A Ls xs) (h2 : Ls ≤ 3072) (i0 : 0 ≤ i) (i6 : i + 6 ≤ Ls) (hI : Inv w.1) (hkc : kc + 6 ≤ 601024) (hks : ks + 36 ≤ 7293033) (loop : ∀ w' : lM, Inv w'.1 → LW X (cL_law, 9, rt, room_1, [], cy, A, Q) (kc + 6) (ks + 36) 3627 [some (.ref 54), some (.ref 0), some (.ref 37), some (.ref 52), some (.ref 53), some (.int (zI i)), none, none, none] [] w') : LW X (cL_law, 9, rt, room_1, [], cy, A, Q) kc ks 1779 [some (.ref 54), some (.ref 0), some (.ref 37), some (.ref 52), some (.ref 53), some (.int (zI i)), none, none, none] [] w := by
  obtain ⟨P', hC, hP1, hP2⟩ := p_common hI (zR_of (xs (i + 1).toNat)) (zR_of (xs (i + 2).toNat))
  refine l_aload_n dL_law_1779 rfl ?_
  refine l_arg (j := 1) hs (by omega) (by omega) h2 dL_law_1780 dL_law_1781 dL_law_1783 dL_law_1784 dL_law_1785 rfl rfl ?_
  refine l_arg (j := 2) hs (by omega) (by omega) h2 dL_law_1786 dL_law_1787 dL_law_1789 dL_law_1790 dL_law_1791 rfl rfl ?_
  refine l_aload_n dL_law_1792 rfl ?_
  refine l_callW (av := [.ref 0, .int (zI (xs (i + 1).toNat).toInt), .int (zI (xs (i + 2).toNat).toInt), .ref 52]) (rest := []) dL_law_1793 mlL_259 mdL_common (w_common hC (fun v M' h => (hP1 v M' h).elim fun z hz => ⟨z, hz.1⟩) (fun E M' h => (hP2 E M' h).elim fun c hc => ⟨c, hc.1⟩)) rfl (by decide) (by decide) (by show _ ≤ 601024; omega) (by show _ ≤ 7293033; omega) (Nat.le_of_ble_eq_true rfl) (fun v w' hq => ?_)
  rcases hq with ⟨z, M', rfl, hz, hw1, hw2⟩ | ⟨E, M', c, hWc, hE, rfl, rfl⟩
  · obtain ⟨z2, e2, hM⟩ := hP1 _ _ hz
    have e3 : zI z = zI z2 := by simpa using e2
    rw [← hw1] at hM
    refine l_istore dL_law_1796 (by decide) rfl ?_
    refine l_aload_n dL_law_1798 rfl ?_
    refine l_arg (j := 1) hs (by omega) (by omega) h2 dL_law_1799 dL_law_1800 dL_law_1802 dL_law_1803 dL_law_1804 rfl rfl ?_
    refine l_arg (j := 2) hs (by omega) (by omega) h2 dL_law_1805 dL_law_1806 dL_law_1808 dL_law_1809 dL_law_1810 rfl rfl ?_
    refine l_callM (av := [.int (zI (xs (i + 1).toNat).toInt), .int (zI (xs (i + 2).toNat).toInt)]) (o := 37) (rest := []) dL_law_1811 mlL_261 md_X8_common hM rfl rfl rfl (by decide) (by decide) (by show _ ≤ 601024; omega) (by show _ ≤ 7293033; omega) (Nat.le_of_ble_eq_true rfl) (fun E M' h => h) (fun v M2 hq => ?_)
    obtain ⟨z', rfl, hz', h0, hI2⟩ := hq
    refine l_istore dL_law_1814 (by decide) rfl ?_
    refine l_aload_n dL_law_1816 rfl ?_
    refine l_callM (av := []) (o := 37) (rest := []) dL_law_1817 mlL_179 md_X8_thrown (m_thrown (M := M2)) rfl rfl rfl (by decide) (by decide) (by show _ ≤ 601024; omega) (by show _ ≤ 7293033; omega) (Nat.le_of_ble_eq_true rfl) (fun E M' h => h) (fun v M3 hq => ?_)
    obtain ⟨rfl, rfl⟩ := hq
    refine l_iload dL_law_1820 rfl ?_
    refine l_icmp_eqT (tgt := 1827) dL_law_1822 rfl (by rw [h0]) ?_
    refine l_iload dL_law_1827 rfl ?_
    refine l_if_ne (tgt := 1844) dL_law_1829 rfl (fun h => absurd (by decide) h) (fun _ => ?_)
    refine l_aload_n dL_law_1832 rfl ?_
    refine l_iconst dL_law_1833 ?_
    refine l_laload dL_law_1834 ?_
    refine l_iload dL_law_1835 rfl ?_
    refine l_i2l dL_law_1837 ?_
    refine l_lcmpE dL_law_1838 (by show w'.2.1 0 = (zI z').toInt64; rw [hw2, e3, hz']) ?_
    refine l_if_eq (tgt := 1844) dL_law_1839 rfl (fun _ => ?_) (fun h => absurd (by decide) h)
    refine l_goto (tgt := 3627) dL_law_1844 rfl ?_
    refine l_weak (L' := [some (.ref 54), some (.ref 0), some (.ref 37), some (.ref 52), some (.ref 53), some (.int (zI i)), none, none, none]) (by simp [wkB]) (l_widen (by omega) (by omega) (loop _ ?_))
    exact hI2
  · obtain ⟨c2, hW2, hM⟩ := hP2 _ _ hE
    have ec : c2 = c := W2_un hW2 hWc
    subst ec
    refine l_istore dL_law_1796 (by decide) rfl ?_
    refine l_aload_n dL_law_1798 rfl ?_
    refine l_arg (j := 1) hs (by omega) (by omega) h2 dL_law_1799 dL_law_1800 dL_law_1802 dL_law_1803 dL_law_1804 rfl rfl ?_
    refine l_arg (j := 2) hs (by omega) (by omega) h2 dL_law_1805 dL_law_1806 dL_law_1808 dL_law_1809 dL_law_1810 rfl rfl ?_
    refine l_callM (av := [.int (zI (xs (i + 1).toNat).toInt), .int (zI (xs (i + 2).toNat).toInt)]) (o := 37) (rest := []) dL_law_1811 mlL_261 md_X8_common hM rfl rfl rfl (by decide) (by decide) (by show _ ≤ 601024; omega) (by show _ ≤ 7293033; omega) (Nat.le_of_ble_eq_true rfl) (fun E M' h => h) (fun v M2 hq => ?_)
    obtain ⟨z', rfl, h0, hI2⟩ := hq
    refine l_istore dL_law_1814 (by decide) rfl ?_
    refine l_aload_n dL_law_1816 rfl ?_
    refine l_callM (av := []) (o := 37) (rest := []) dL_law_1817 mlL_179 md_X8_thrown (m_thrown (M := M2)) rfl rfl rfl (by decide) (by decide) (by show _ ≤ 601024; omega) (by show _ ≤ 7293033; omega) (Nat.le_of_ble_eq_true rfl) (fun E M' h => h) (fun v M3 hq => ?_)
    obtain ⟨rfl, rfl⟩ := hq
    refine l_iload dL_law_1820 rfl ?_
    refine l_icmp_eqT (tgt := 1827) dL_law_1822 rfl (by rw [h0]) ?_
    refine l_iload dL_law_1827 rfl ?_
    refine l_if_ne (tgt := 1844) dL_law_1829 rfl (fun _ => ?_) (fun h => absurd h (W2_z hWc))
    refine l_goto (tgt := 3627) dL_law_1844 rfl ?_
    refine l_weak (L' := [some (.ref 54), some (.ref 0), some (.ref 37), some (.ref 52), some (.ref 53), some (.int (zI i)), none, none, none]) (by simp [wkB]) (l_widen (by omega) (by omega) (loop _ ?_))
    exact hI2
set_option maxHeartbeats 1000000 in
theorem lc_26 (hs : lScr X A Ls xs) (h2 : Ls ≤ 3072) (i0 : 0 ≤ i) (i6 : i + 6 ≤ Ls) (hI : Inv w.1) (hkc : kc + 6 ≤ 601024) (hks : ks + 36 ≤ 7293033) (loop : ∀ w' : lM, Inv w'.1 → LW X (cL_law, 9, rt, room_1, [], cy, A, Q) (kc + 6) (ks + 36) 3627 [some (.ref 54), some (.ref 0), some (.ref 37), some (.ref 52), some (.ref 53), some (.int (zI i)), none, none, none] [] w') : LW X (cL_law, 9, rt, room_1, [], cy, A, Q) kc ks 1847 [some (.ref 54), some (.ref 0), some (.ref 37), some (.ref 52), some (.ref 53), some (.int (zI i)), none, none, none] [] w := by
  obtain ⟨P', hC, hP1, hP2⟩ := p_distance hI (zR_of (xs (i + 1).toNat)) (zR_of (xs (i + 2).toNat))
  refine l_aload_n dL_law_1847 rfl ?_
  refine l_arg (j := 1) hs (by omega) (by omega) h2 dL_law_1848 dL_law_1849 dL_law_1851 dL_law_1852 dL_law_1853 rfl rfl ?_
  refine l_arg (j := 2) hs (by omega) (by omega) h2 dL_law_1854 dL_law_1855 dL_law_1857 dL_law_1858 dL_law_1859 rfl rfl ?_
  refine l_aload_n dL_law_1860 rfl ?_
  refine l_callW (av := [.ref 0, .int (zI (xs (i + 1).toNat).toInt), .int (zI (xs (i + 2).toNat).toInt), .ref 52]) (rest := []) dL_law_1861 mlL_262 mdL_distance (w_distance hC (fun v M' h => (hP1 v M' h).elim fun z hz => ⟨z, hz.1⟩) (fun E M' h => (hP2 E M' h).elim fun c hc => ⟨c, hc.1⟩)) rfl (by decide) (by decide) (by show _ ≤ 601024; omega) (by show _ ≤ 7293033; omega) (Nat.le_of_ble_eq_true rfl) (fun v w' hq => ?_)
  rcases hq with ⟨z, M', rfl, hz, hw1, hw2⟩ | ⟨E, M', c, hWc, hE, rfl, rfl⟩
  · obtain ⟨z2, e2, hM⟩ := hP1 _ _ hz
    have e3 : zI z = zI z2 := by simpa using e2
    rw [← hw1] at hM
    refine l_istore dL_law_1864 (by decide) rfl ?_
    refine l_aload_n dL_law_1866 rfl ?_
    refine l_arg (j := 1) hs (by omega) (by omega) h2 dL_law_1867 dL_law_1868 dL_law_1870 dL_law_1871 dL_law_1872 rfl rfl ?_
    refine l_arg (j := 2) hs (by omega) (by omega) h2 dL_law_1873 dL_law_1874 dL_law_1876 dL_law_1877 dL_law_1878 rfl rfl ?_
    refine l_callM (av := [.int (zI (xs (i + 1).toNat).toInt), .int (zI (xs (i + 2).toNat).toInt)]) (o := 37) (rest := []) dL_law_1879 mlL_264 md_X8_distance hM rfl rfl rfl (by decide) (by decide) (by show _ ≤ 601024; omega) (by show _ ≤ 7293033; omega) (Nat.le_of_ble_eq_true rfl) (fun E M' h => h) (fun v M2 hq => ?_)
    obtain ⟨z', rfl, hz', h0, hI2⟩ := hq
    refine l_istore dL_law_1882 (by decide) rfl ?_
    refine l_aload_n dL_law_1884 rfl ?_
    refine l_callM (av := []) (o := 37) (rest := []) dL_law_1885 mlL_179 md_X8_thrown (m_thrown (M := M2)) rfl rfl rfl (by decide) (by decide) (by show _ ≤ 601024; omega) (by show _ ≤ 7293033; omega) (Nat.le_of_ble_eq_true rfl) (fun E M' h => h) (fun v M3 hq => ?_)
    obtain ⟨rfl, rfl⟩ := hq
    refine l_iload dL_law_1888 rfl ?_
    refine l_icmp_eqT (tgt := 1895) dL_law_1890 rfl (by rw [h0]) ?_
    refine l_iload dL_law_1895 rfl ?_
    refine l_if_ne (tgt := 1912) dL_law_1897 rfl (fun h => absurd (by decide) h) (fun _ => ?_)
    refine l_aload_n dL_law_1900 rfl ?_
    refine l_iconst dL_law_1901 ?_
    refine l_laload dL_law_1902 ?_
    refine l_iload dL_law_1903 rfl ?_
    refine l_i2l dL_law_1905 ?_
    refine l_lcmpE dL_law_1906 (by show w'.2.1 0 = (zI z').toInt64; rw [hw2, e3, hz']) ?_
    refine l_if_eq (tgt := 1912) dL_law_1907 rfl (fun _ => ?_) (fun h => absurd (by decide) h)
    refine l_goto (tgt := 3627) dL_law_1912 rfl ?_
    refine l_weak (L' := [some (.ref 54), some (.ref 0), some (.ref 37), some (.ref 52), some (.ref 53), some (.int (zI i)), none, none, none]) (by simp [wkB]) (l_widen (by omega) (by omega) (loop _ ?_))
    exact hI2
  · obtain ⟨c2, hW2, hM⟩ := hP2 _ _ hE
    have ec : c2 = c := W2_un hW2 hWc
    subst ec
    refine l_istore dL_law_1864 (by decide) rfl ?_
    refine l_aload_n dL_law_1866 rfl ?_
    refine l_arg (j := 1) hs (by omega) (by omega) h2 dL_law_1867 dL_law_1868 dL_law_1870 dL_law_1871 dL_law_1872 rfl rfl ?_
    refine l_arg (j := 2) hs (by omega) (by omega) h2 dL_law_1873 dL_law_1874 dL_law_1876 dL_law_1877 dL_law_1878 rfl rfl ?_
    refine l_callM (av := [.int (zI (xs (i + 1).toNat).toInt), .int (zI (xs (i + 2).toNat).toInt)]) (o := 37) (rest := []) dL_law_1879 mlL_264 md_X8_distance hM rfl rfl rfl (by decide) (by decide) (by show _ ≤ 601024; omega) (by show _ ≤ 7293033; omega) (Nat.le_of_ble_eq_true rfl) (fun E M' h => h) (fun v M2 hq => ?_)
    obtain ⟨z', rfl, h0, hI2⟩ := hq
    refine l_istore dL_law_1882 (by decide) rfl ?_
    refine l_aload_n dL_law_1884 rfl ?_
    refine l_callM (av := []) (o := 37) (rest := []) dL_law_1885 mlL_179 md_X8_thrown (m_thrown (M := M2)) rfl rfl rfl (by decide) (by decide) (by show _ ≤ 601024; omega) (by show _ ≤ 7293033; omega) (Nat.le_of_ble_eq_true rfl) (fun E M' h => h) (fun v M3 hq => ?_)
    obtain ⟨rfl, rfl⟩ := hq
    refine l_iload dL_law_1888 rfl ?_
    refine l_icmp_eqT (tgt := 1895) dL_law_1890 rfl (by rw [h0]) ?_
    refine l_iload dL_law_1895 rfl ?_
    refine l_if_ne (tgt := 1912) dL_law_1897 rfl (fun _ => ?_) (fun h => absurd h (W2_z hWc))
    refine l_goto (tgt := 3627) dL_law_1912 rfl ?_
    refine l_weak (L' := [some (.ref 54), some (.ref 0), some (.ref 37), some (.ref 52), some (.ref 53), some (.int (zI i)), none, none, none]) (by simp [wkB]) (l_widen (by omega) (by omega) (loop _ ?_))
    exact hI2
set_option maxHeartbeats 1000000 in
theorem lc_27 (hs : lScr X A Ls xs) (h2 : Ls ≤ 3072) (i0 : 0 ≤ i) (i6 : i + 6 ≤ Ls) (hI : Inv w.1) (hkc : kc + 6 ≤ 601024) (hks : ks + 36 ≤ 7293033) (loop : ∀ w' : lM, Inv w'.1 → LW X (cL_law, 9, rt, room_1, [], cy, A, Q) (kc + 6) (ks + 36) 3627 [some (.ref 54), some (.ref 0), some (.ref 37), some (.ref 52), some (.ref 53), some (.int (zI i)), none, none, none] [] w') : LW X (cL_law, 9, rt, room_1, [], cy, A, Q) kc ks 1915 [some (.ref 54), some (.ref 0), some (.ref 37), some (.ref 52), some (.ref 53), some (.int (zI i)), none, none, none] [] w := by
  obtain ⟨P', hC, hP1, hP2⟩ := p_differs hI (zR_of (xs (i + 1).toNat)) (zR_of (xs (i + 2).toNat))
  refine l_aload_n dL_law_1915 rfl ?_
  refine l_arg (j := 1) hs (by omega) (by omega) h2 dL_law_1916 dL_law_1917 dL_law_1919 dL_law_1920 dL_law_1921 rfl rfl ?_
  refine l_arg (j := 2) hs (by omega) (by omega) h2 dL_law_1922 dL_law_1923 dL_law_1925 dL_law_1926 dL_law_1927 rfl rfl ?_
  refine l_aload_n dL_law_1928 rfl ?_
  refine l_callW (av := [.ref 0, .int (zI (xs (i + 1).toNat).toInt), .int (zI (xs (i + 2).toNat).toInt), .ref 52]) (rest := []) dL_law_1929 mlL_265 mdL_differs (w_differs hC (fun v M' h => (hP1 v M' h).elim fun z hz => ⟨z, hz.1⟩) (fun E M' h => (hP2 E M' h).elim fun c hc => ⟨c, hc.1⟩)) rfl (by decide) (by decide) (by show _ ≤ 601024; omega) (by show _ ≤ 7293033; omega) (Nat.le_of_ble_eq_true rfl) (fun v w' hq => ?_)
  rcases hq with ⟨z, M', rfl, hz, hw1, hw2⟩ | ⟨E, M', c, hWc, hE, rfl, rfl⟩
  · obtain ⟨z2, e2, hM⟩ := hP1 _ _ hz
    have e3 : zI z = zI z2 := by simpa using e2
    rw [← hw1] at hM
    refine l_istore dL_law_1932 (by decide) rfl ?_
    refine l_aload_n dL_law_1934 rfl ?_
    refine l_arg (j := 1) hs (by omega) (by omega) h2 dL_law_1935 dL_law_1936 dL_law_1938 dL_law_1939 dL_law_1940 rfl rfl ?_
    refine l_arg (j := 2) hs (by omega) (by omega) h2 dL_law_1941 dL_law_1942 dL_law_1944 dL_law_1945 dL_law_1946 rfl rfl ?_
    refine l_callM (av := [.int (zI (xs (i + 1).toNat).toInt), .int (zI (xs (i + 2).toNat).toInt)]) (o := 37) (rest := []) dL_law_1947 mlL_267 md_X8_differs hM rfl rfl rfl (by decide) (by decide) (by show _ ≤ 601024; omega) (by show _ ≤ 7293033; omega) (Nat.le_of_ble_eq_true rfl) (fun E M' h => h) (fun v M2 hq => ?_)
    obtain ⟨z', rfl, hz', h0, hI2⟩ := hq
    refine l_istore dL_law_1950 (by decide) rfl ?_
    refine l_aload_n dL_law_1952 rfl ?_
    refine l_callM (av := []) (o := 37) (rest := []) dL_law_1953 mlL_179 md_X8_thrown (m_thrown (M := M2)) rfl rfl rfl (by decide) (by decide) (by show _ ≤ 601024; omega) (by show _ ≤ 7293033; omega) (Nat.le_of_ble_eq_true rfl) (fun E M' h => h) (fun v M3 hq => ?_)
    obtain ⟨rfl, rfl⟩ := hq
    refine l_iload dL_law_1956 rfl ?_
    refine l_icmp_eqT (tgt := 1963) dL_law_1958 rfl (by rw [h0]) ?_
    refine l_iload dL_law_1963 rfl ?_
    refine l_if_ne (tgt := 1980) dL_law_1965 rfl (fun h => absurd (by decide) h) (fun _ => ?_)
    refine l_aload_n dL_law_1968 rfl ?_
    refine l_iconst dL_law_1969 ?_
    refine l_laload dL_law_1970 ?_
    refine l_iload dL_law_1971 rfl ?_
    refine l_i2l dL_law_1973 ?_
    refine l_lcmpE dL_law_1974 (by show w'.2.1 0 = (zI z').toInt64; rw [hw2, e3, hz']) ?_
    refine l_if_eq (tgt := 1980) dL_law_1975 rfl (fun _ => ?_) (fun h => absurd (by decide) h)
    refine l_goto (tgt := 3627) dL_law_1980 rfl ?_
    refine l_weak (L' := [some (.ref 54), some (.ref 0), some (.ref 37), some (.ref 52), some (.ref 53), some (.int (zI i)), none, none, none]) (by simp [wkB]) (l_widen (by omega) (by omega) (loop _ ?_))
    exact hI2
  · obtain ⟨c2, hW2, hM⟩ := hP2 _ _ hE
    have ec : c2 = c := W2_un hW2 hWc
    subst ec
    refine l_istore dL_law_1932 (by decide) rfl ?_
    refine l_aload_n dL_law_1934 rfl ?_
    refine l_arg (j := 1) hs (by omega) (by omega) h2 dL_law_1935 dL_law_1936 dL_law_1938 dL_law_1939 dL_law_1940 rfl rfl ?_
    refine l_arg (j := 2) hs (by omega) (by omega) h2 dL_law_1941 dL_law_1942 dL_law_1944 dL_law_1945 dL_law_1946 rfl rfl ?_
    refine l_callM (av := [.int (zI (xs (i + 1).toNat).toInt), .int (zI (xs (i + 2).toNat).toInt)]) (o := 37) (rest := []) dL_law_1947 mlL_267 md_X8_differs hM rfl rfl rfl (by decide) (by decide) (by show _ ≤ 601024; omega) (by show _ ≤ 7293033; omega) (Nat.le_of_ble_eq_true rfl) (fun E M' h => h) (fun v M2 hq => ?_)
    obtain ⟨z', rfl, h0, hI2⟩ := hq
    refine l_istore dL_law_1950 (by decide) rfl ?_
    refine l_aload_n dL_law_1952 rfl ?_
    refine l_callM (av := []) (o := 37) (rest := []) dL_law_1953 mlL_179 md_X8_thrown (m_thrown (M := M2)) rfl rfl rfl (by decide) (by decide) (by show _ ≤ 601024; omega) (by show _ ≤ 7293033; omega) (Nat.le_of_ble_eq_true rfl) (fun E M' h => h) (fun v M3 hq => ?_)
    obtain ⟨rfl, rfl⟩ := hq
    refine l_iload dL_law_1956 rfl ?_
    refine l_icmp_eqT (tgt := 1963) dL_law_1958 rfl (by rw [h0]) ?_
    refine l_iload dL_law_1963 rfl ?_
    refine l_if_ne (tgt := 1980) dL_law_1965 rfl (fun _ => ?_) (fun h => absurd h (W2_z hWc))
    refine l_goto (tgt := 3627) dL_law_1980 rfl ?_
    refine l_weak (L' := [some (.ref 54), some (.ref 0), some (.ref 37), some (.ref 52), some (.ref 53), some (.int (zI i)), none, none, none]) (by simp [wkB]) (l_widen (by omega) (by omega) (loop _ ?_))
    exact hI2
set_option maxHeartbeats 1000000 in
theorem lc_29 (hs : lScr X A Ls xs) (h2 : Ls ≤ 3072) (i0 : 0 ≤ i) (i6 : i + 6 ≤ Ls) (hI : Inv w.1) (hkc : kc + 6 ≤ 601024) (hks : ks + 36 ≤ 7293033) (loop : ∀ w' : lM, Inv w'.1 → LW X (cL_law, 9, rt, room_1, [], cy, A, Q) (kc + 6) (ks + 36) 3627 [some (.ref 54), some (.ref 0), some (.ref 37), some (.ref 52), some (.ref 53), some (.int (zI i)), none, none, none] [] w') : LW X (cL_law, 9, rt, room_1, [], cy, A, Q) kc ks 2058 [some (.ref 54), some (.ref 0), some (.ref 37), some (.ref 52), some (.ref 53), some (.int (zI i)), none, none, none] [] w := by
  obtain ⟨P', hC, hP1, hP2⟩ := p_alike hI (zR_of (xs (i + 1).toNat)) (zR_of (xs (i + 2).toNat)) (zR_of (xs (i + 3).toNat))
  refine l_aload_n dL_law_2058 rfl ?_
  refine l_arg (j := 1) hs (by omega) (by omega) h2 dL_law_2059 dL_law_2060 dL_law_2062 dL_law_2063 dL_law_2064 rfl rfl ?_
  refine l_arg (j := 2) hs (by omega) (by omega) h2 dL_law_2065 dL_law_2066 dL_law_2068 dL_law_2069 dL_law_2070 rfl rfl ?_
  refine l_arg (j := 3) hs (by omega) (by omega) h2 dL_law_2071 dL_law_2072 dL_law_2074 dL_law_2075 dL_law_2076 rfl rfl ?_
  refine l_aload_n dL_law_2077 rfl ?_
  refine l_callW (av := [.ref 0, .int (zI (xs (i + 1).toNat).toInt), .int (zI (xs (i + 2).toNat).toInt), .int (zI (xs (i + 3).toNat).toInt), .ref 52]) (rest := []) dL_law_2078 mlL_271 mdL_alike (w_alike hC (fun v M' h => (hP1 v M' h).elim fun z hz => ⟨z, hz.1⟩) (fun E M' h => (hP2 E M' h).elim fun c hc => ⟨c, hc.1⟩)) rfl (by decide) (by decide) (by show _ ≤ 601024; omega) (by show _ ≤ 7293033; omega) (Nat.le_of_ble_eq_true rfl) (fun v w' hq => ?_)
  rcases hq with ⟨z, M', rfl, hz, hw1, hw2⟩ | ⟨E, M', c, hWc, hE, rfl, rfl⟩
  · obtain ⟨z2, e2, hM⟩ := hP1 _ _ hz
    have e3 : zI z = zI z2 := by simpa using e2
    rw [← hw1] at hM
    refine l_istore dL_law_2081 (by decide) rfl ?_
    refine l_aload_n dL_law_2083 rfl ?_
    refine l_arg (j := 1) hs (by omega) (by omega) h2 dL_law_2084 dL_law_2085 dL_law_2087 dL_law_2088 dL_law_2089 rfl rfl ?_
    refine l_arg (j := 2) hs (by omega) (by omega) h2 dL_law_2090 dL_law_2091 dL_law_2093 dL_law_2094 dL_law_2095 rfl rfl ?_
    refine l_arg (j := 3) hs (by omega) (by omega) h2 dL_law_2096 dL_law_2097 dL_law_2099 dL_law_2100 dL_law_2101 rfl rfl ?_
    refine l_callM (av := [.int (zI (xs (i + 1).toNat).toInt), .int (zI (xs (i + 2).toNat).toInt), .int (zI (xs (i + 3).toNat).toInt)]) (o := 37) (rest := []) dL_law_2102 mlL_273 md_X8_alike hM rfl rfl rfl (by decide) (by decide) (by show _ ≤ 601024; omega) (by show _ ≤ 7293033; omega) (Nat.le_of_ble_eq_true rfl) (fun E M' h => h) (fun v M2 hq => ?_)
    obtain ⟨z', rfl, hz', h0, hI2⟩ := hq
    refine l_istore dL_law_2105 (by decide) rfl ?_
    refine l_aload_n dL_law_2107 rfl ?_
    refine l_callM (av := []) (o := 37) (rest := []) dL_law_2108 mlL_179 md_X8_thrown (m_thrown (M := M2)) rfl rfl rfl (by decide) (by decide) (by show _ ≤ 601024; omega) (by show _ ≤ 7293033; omega) (Nat.le_of_ble_eq_true rfl) (fun E M' h => h) (fun v M3 hq => ?_)
    obtain ⟨rfl, rfl⟩ := hq
    refine l_iload dL_law_2111 rfl ?_
    refine l_icmp_eqT (tgt := 2118) dL_law_2113 rfl (by rw [h0]) ?_
    refine l_iload dL_law_2118 rfl ?_
    refine l_if_ne (tgt := 2135) dL_law_2120 rfl (fun h => absurd (by decide) h) (fun _ => ?_)
    refine l_aload_n dL_law_2123 rfl ?_
    refine l_iconst dL_law_2124 ?_
    refine l_laload dL_law_2125 ?_
    refine l_iload dL_law_2126 rfl ?_
    refine l_i2l dL_law_2128 ?_
    refine l_lcmpE dL_law_2129 (by show w'.2.1 0 = (zI z').toInt64; rw [hw2, e3, hz']) ?_
    refine l_if_eq (tgt := 2135) dL_law_2130 rfl (fun _ => ?_) (fun h => absurd (by decide) h)
    refine l_goto (tgt := 3627) dL_law_2135 rfl ?_
    refine l_weak (L' := [some (.ref 54), some (.ref 0), some (.ref 37), some (.ref 52), some (.ref 53), some (.int (zI i)), none, none, none]) (by simp [wkB]) (l_widen (by omega) (by omega) (loop _ ?_))
    exact hI2
  · obtain ⟨c2, hW2, hM⟩ := hP2 _ _ hE
    have ec : c2 = c := W2_un hW2 hWc
    subst ec
    refine l_istore dL_law_2081 (by decide) rfl ?_
    refine l_aload_n dL_law_2083 rfl ?_
    refine l_arg (j := 1) hs (by omega) (by omega) h2 dL_law_2084 dL_law_2085 dL_law_2087 dL_law_2088 dL_law_2089 rfl rfl ?_
    refine l_arg (j := 2) hs (by omega) (by omega) h2 dL_law_2090 dL_law_2091 dL_law_2093 dL_law_2094 dL_law_2095 rfl rfl ?_
    refine l_arg (j := 3) hs (by omega) (by omega) h2 dL_law_2096 dL_law_2097 dL_law_2099 dL_law_2100 dL_law_2101 rfl rfl ?_
    refine l_callM (av := [.int (zI (xs (i + 1).toNat).toInt), .int (zI (xs (i + 2).toNat).toInt), .int (zI (xs (i + 3).toNat).toInt)]) (o := 37) (rest := []) dL_law_2102 mlL_273 md_X8_alike hM rfl rfl rfl (by decide) (by decide) (by show _ ≤ 601024; omega) (by show _ ≤ 7293033; omega) (Nat.le_of_ble_eq_true rfl) (fun E M' h => h) (fun v M2 hq => ?_)
    obtain ⟨z', rfl, h0, hI2⟩ := hq
    refine l_istore dL_law_2105 (by decide) rfl ?_
    refine l_aload_n dL_law_2107 rfl ?_
    refine l_callM (av := []) (o := 37) (rest := []) dL_law_2108 mlL_179 md_X8_thrown (m_thrown (M := M2)) rfl rfl rfl (by decide) (by decide) (by show _ ≤ 601024; omega) (by show _ ≤ 7293033; omega) (Nat.le_of_ble_eq_true rfl) (fun E M' h => h) (fun v M3 hq => ?_)
    obtain ⟨rfl, rfl⟩ := hq
    refine l_iload dL_law_2111 rfl ?_
    refine l_icmp_eqT (tgt := 2118) dL_law_2113 rfl (by rw [h0]) ?_
    refine l_iload dL_law_2118 rfl ?_
    refine l_if_ne (tgt := 2135) dL_law_2120 rfl (fun _ => ?_) (fun h => absurd h (W2_z hWc))
    refine l_goto (tgt := 3627) dL_law_2135 rfl ?_
    refine l_weak (L' := [some (.ref 54), some (.ref 0), some (.ref 37), some (.ref 52), some (.ref 53), some (.int (zI i)), none, none, none]) (by simp [wkB]) (l_widen (by omega) (by omega) (loop _ ?_))
    exact hI2
set_option maxHeartbeats 1000000 in
theorem lc_30 (hs : lScr X A Ls xs) (h2 : Ls ≤ 3072) (i0 : 0 ≤ i) (i6 : i + 6 ≤ Ls) (hI : Inv w.1) (hkc : kc + 6 ≤ 601024) (hks : ks + 36 ≤ 7293033) (loop : ∀ w' : lM, Inv w'.1 → LW X (cL_law, 9, rt, room_1, [], cy, A, Q) (kc + 6) (ks + 36) 3627 [some (.ref 54), some (.ref 0), some (.ref 37), some (.ref 52), some (.ref 53), some (.int (zI i)), none, none, none] [] w') : LW X (cL_law, 9, rt, room_1, [], cy, A, Q) kc ks 2138 [some (.ref 54), some (.ref 0), some (.ref 37), some (.ref 52), some (.ref 53), some (.int (zI i)), none, none, none] [] w := by
  obtain ⟨P', hC, hP1, hP2⟩ := p_combined hI (zR_of (xs (i + 2).toNat)) (zR_of (xs (i + 3).toNat)) (zR_of (xs (i + 1).toNat))
  refine l_aload_n dL_law_2138 rfl ?_
  refine l_arg (j := 1) hs (by omega) (by omega) h2 dL_law_2139 dL_law_2140 dL_law_2142 dL_law_2143 dL_law_2144 rfl rfl ?_
  refine l_arg (j := 2) hs (by omega) (by omega) h2 dL_law_2145 dL_law_2146 dL_law_2148 dL_law_2149 dL_law_2150 rfl rfl ?_
  refine l_arg (j := 3) hs (by omega) (by omega) h2 dL_law_2151 dL_law_2152 dL_law_2154 dL_law_2155 dL_law_2156 rfl rfl ?_
  refine l_aload_n dL_law_2157 rfl ?_
  refine l_callW (av := [.ref 0, .int (zI (xs (i + 1).toNat).toInt), .int (zI (xs (i + 2).toNat).toInt), .int (zI (xs (i + 3).toNat).toInt), .ref 52]) (rest := []) dL_law_2158 mlL_274 mdL_combined (w_combined hC (fun v M' h => (hP1 v M' h).elim fun z hz => ⟨z, hz.1⟩) (fun E M' h => (hP2 E M' h).elim fun c hc => ⟨c, hc.1⟩)) rfl (by decide) (by decide) (by show _ ≤ 601024; omega) (by show _ ≤ 7293033; omega) (Nat.le_of_ble_eq_true rfl) (fun v w' hq => ?_)
  rcases hq with ⟨z, M', rfl, hz, hw1, hw2⟩ | ⟨E, M', c, hWc, hE, rfl, rfl⟩
  · obtain ⟨z2, e2, hM⟩ := hP1 _ _ hz
    have e3 : zI z = zI z2 := by simpa using e2
    rw [← hw1] at hM
    refine l_istore dL_law_2161 (by decide) rfl ?_
    refine l_aload_n dL_law_2163 rfl ?_
    refine l_arg (j := 1) hs (by omega) (by omega) h2 dL_law_2164 dL_law_2165 dL_law_2167 dL_law_2168 dL_law_2169 rfl rfl ?_
    refine l_arg (j := 2) hs (by omega) (by omega) h2 dL_law_2170 dL_law_2171 dL_law_2173 dL_law_2174 dL_law_2175 rfl rfl ?_
    refine l_arg (j := 3) hs (by omega) (by omega) h2 dL_law_2176 dL_law_2177 dL_law_2179 dL_law_2180 dL_law_2181 rfl rfl ?_
    refine l_callM (av := [.int (zI (xs (i + 1).toNat).toInt), .int (zI (xs (i + 2).toNat).toInt), .int (zI (xs (i + 3).toNat).toInt)]) (o := 37) (rest := []) dL_law_2182 mlL_276 md_X8_combined hM rfl rfl rfl (by decide) (by decide) (by show _ ≤ 601024; omega) (by show _ ≤ 7293033; omega) (Nat.le_of_ble_eq_true rfl) (fun E M' h => h) (fun v M2 hq => ?_)
    obtain ⟨z', rfl, hz', h0, hI2⟩ := hq
    refine l_istore dL_law_2185 (by decide) rfl ?_
    refine l_aload_n dL_law_2187 rfl ?_
    refine l_callM (av := []) (o := 37) (rest := []) dL_law_2188 mlL_179 md_X8_thrown (m_thrown (M := M2)) rfl rfl rfl (by decide) (by decide) (by show _ ≤ 601024; omega) (by show _ ≤ 7293033; omega) (Nat.le_of_ble_eq_true rfl) (fun E M' h => h) (fun v M3 hq => ?_)
    obtain ⟨rfl, rfl⟩ := hq
    refine l_iload dL_law_2191 rfl ?_
    refine l_icmp_eqT (tgt := 2198) dL_law_2193 rfl (by rw [h0]) ?_
    refine l_iload dL_law_2198 rfl ?_
    refine l_if_ne (tgt := 2215) dL_law_2200 rfl (fun h => absurd (by decide) h) (fun _ => ?_)
    refine l_aload_n dL_law_2203 rfl ?_
    refine l_iconst dL_law_2204 ?_
    refine l_laload dL_law_2205 ?_
    refine l_iload dL_law_2206 rfl ?_
    refine l_i2l dL_law_2208 ?_
    refine l_lcmpE dL_law_2209 (by show w'.2.1 0 = (zI z').toInt64; rw [hw2, e3, hz']) ?_
    refine l_if_eq (tgt := 2215) dL_law_2210 rfl (fun _ => ?_) (fun h => absurd (by decide) h)
    refine l_goto (tgt := 3627) dL_law_2215 rfl ?_
    refine l_weak (L' := [some (.ref 54), some (.ref 0), some (.ref 37), some (.ref 52), some (.ref 53), some (.int (zI i)), none, none, none]) (by simp [wkB]) (l_widen (by omega) (by omega) (loop _ ?_))
    exact hI2
  · obtain ⟨c2, hW2, hM⟩ := hP2 _ _ hE
    have ec : c2 = c := W3_un hW2 hWc
    subst ec
    refine l_istore dL_law_2161 (by decide) rfl ?_
    refine l_aload_n dL_law_2163 rfl ?_
    refine l_arg (j := 1) hs (by omega) (by omega) h2 dL_law_2164 dL_law_2165 dL_law_2167 dL_law_2168 dL_law_2169 rfl rfl ?_
    refine l_arg (j := 2) hs (by omega) (by omega) h2 dL_law_2170 dL_law_2171 dL_law_2173 dL_law_2174 dL_law_2175 rfl rfl ?_
    refine l_arg (j := 3) hs (by omega) (by omega) h2 dL_law_2176 dL_law_2177 dL_law_2179 dL_law_2180 dL_law_2181 rfl rfl ?_
    refine l_callM (av := [.int (zI (xs (i + 1).toNat).toInt), .int (zI (xs (i + 2).toNat).toInt), .int (zI (xs (i + 3).toNat).toInt)]) (o := 37) (rest := []) dL_law_2182 mlL_276 md_X8_combined hM rfl rfl rfl (by decide) (by decide) (by show _ ≤ 601024; omega) (by show _ ≤ 7293033; omega) (Nat.le_of_ble_eq_true rfl) (fun E M' h => h) (fun v M2 hq => ?_)
    obtain ⟨z', rfl, h0, hI2⟩ := hq
    refine l_istore dL_law_2185 (by decide) rfl ?_
    refine l_aload_n dL_law_2187 rfl ?_
    refine l_callM (av := []) (o := 37) (rest := []) dL_law_2188 mlL_179 md_X8_thrown (m_thrown (M := M2)) rfl rfl rfl (by decide) (by decide) (by show _ ≤ 601024; omega) (by show _ ≤ 7293033; omega) (Nat.le_of_ble_eq_true rfl) (fun E M' h => h) (fun v M3 hq => ?_)
    obtain ⟨rfl, rfl⟩ := hq
    refine l_iload dL_law_2191 rfl ?_
    refine l_icmp_eqT (tgt := 2198) dL_law_2193 rfl (by rw [h0]) ?_
    refine l_iload dL_law_2198 rfl ?_
    refine l_if_ne (tgt := 2215) dL_law_2200 rfl (fun _ => ?_) (fun h => absurd h (W3_z hWc))
    refine l_goto (tgt := 3627) dL_law_2215 rfl ?_
    refine l_weak (L' := [some (.ref 54), some (.ref 0), some (.ref 37), some (.ref 52), some (.ref 53), some (.int (zI i)), none, none, none]) (by simp [wkB]) (l_widen (by omega) (by omega) (loop _ ?_))
    exact hI2
set_option maxHeartbeats 1000000 in
theorem lc_31 (hs : lScr X A Ls xs) (h2 : Ls ≤ 3072) (i0 : 0 ≤ i) (i6 : i + 6 ≤ Ls) (hI : Inv w.1) (hkc : kc + 6 ≤ 601024) (hks : ks + 36 ≤ 7293033) (loop : ∀ w' : lM, Inv w'.1 → LW X (cL_law, 9, rt, room_1, [], cy, A, Q) (kc + 6) (ks + 36) 3627 [some (.ref 54), some (.ref 0), some (.ref 37), some (.ref 52), some (.ref 53), some (.int (zI i)), none, none, none] [] w') : LW X (cL_law, 9, rt, room_1, [], cy, A, Q) kc ks 2218 [some (.ref 54), some (.ref 0), some (.ref 37), some (.ref 52), some (.ref 53), some (.int (zI i)), none, none, none] [] w := by
  obtain ⟨P', hC, hP1, hP2⟩ := p_nearest hI (zR_of (xs (i + 1).toNat))
  refine l_aload_n dL_law_2218 rfl ?_
  refine l_arg (j := 1) hs (by omega) (by omega) h2 dL_law_2219 dL_law_2220 dL_law_2222 dL_law_2223 dL_law_2224 rfl rfl ?_
  refine l_aload_n dL_law_2225 rfl ?_
  refine l_callW (av := [.ref 0, .int (zI (xs (i + 1).toNat).toInt), .ref 52]) (rest := []) dL_law_2226 mlL_277 mdL_nearest (w_nearest hC (fun v M' h => (hP1 v M' h).elim fun z hz => ⟨z, hz.1⟩) (fun E M' h => (hP2 E M' h).elim fun c hc => ⟨c, hc.1⟩)) rfl (by decide) (by decide) (by show _ ≤ 601024; omega) (by show _ ≤ 7293033; omega) (Nat.le_of_ble_eq_true rfl) (fun v w' hq => ?_)
  rcases hq with ⟨z, M', rfl, hz, hw1, hw2⟩ | ⟨E, M', c, hWc, hE, rfl, rfl⟩
  · obtain ⟨z2, e2, hM⟩ := hP1 _ _ hz
    have e3 : zI z = zI z2 := by simpa using e2
    rw [← hw1] at hM
    refine l_istore dL_law_2229 (by decide) rfl ?_
    refine l_aload_n dL_law_2231 rfl ?_
    refine l_arg (j := 1) hs (by omega) (by omega) h2 dL_law_2232 dL_law_2233 dL_law_2235 dL_law_2236 dL_law_2237 rfl rfl ?_
    refine l_callM (av := [.int (zI (xs (i + 1).toNat).toInt)]) (o := 37) (rest := []) dL_law_2238 mlL_279 md_X8_nearest hM rfl rfl rfl (by decide) (by decide) (by show _ ≤ 601024; omega) (by show _ ≤ 7293033; omega) (Nat.le_of_ble_eq_true rfl) (fun E M' h => h) (fun v M2 hq => ?_)
    obtain ⟨z', rfl, hz', h0, hI2⟩ := hq
    refine l_istore dL_law_2241 (by decide) rfl ?_
    refine l_aload_n dL_law_2243 rfl ?_
    refine l_callM (av := []) (o := 37) (rest := []) dL_law_2244 mlL_179 md_X8_thrown (m_thrown (M := M2)) rfl rfl rfl (by decide) (by decide) (by show _ ≤ 601024; omega) (by show _ ≤ 7293033; omega) (Nat.le_of_ble_eq_true rfl) (fun E M' h => h) (fun v M3 hq => ?_)
    obtain ⟨rfl, rfl⟩ := hq
    refine l_iload dL_law_2247 rfl ?_
    refine l_icmp_eqT (tgt := 2254) dL_law_2249 rfl (by rw [h0]) ?_
    refine l_iload dL_law_2254 rfl ?_
    refine l_if_ne (tgt := 2271) dL_law_2256 rfl (fun h => absurd (by decide) h) (fun _ => ?_)
    refine l_aload_n dL_law_2259 rfl ?_
    refine l_iconst dL_law_2260 ?_
    refine l_laload dL_law_2261 ?_
    refine l_iload dL_law_2262 rfl ?_
    refine l_i2l dL_law_2264 ?_
    refine l_lcmpE dL_law_2265 (by show w'.2.1 0 = (zI z').toInt64; rw [hw2, e3, hz']) ?_
    refine l_if_eq (tgt := 2271) dL_law_2266 rfl (fun _ => ?_) (fun h => absurd (by decide) h)
    refine l_goto (tgt := 3627) dL_law_2271 rfl ?_
    refine l_weak (L' := [some (.ref 54), some (.ref 0), some (.ref 37), some (.ref 52), some (.ref 53), some (.int (zI i)), none, none, none]) (by simp [wkB]) (l_widen (by omega) (by omega) (loop _ ?_))
    exact hI2
  · obtain ⟨c2, hW2, hM⟩ := hP2 _ _ hE
    have ec : c2 = c := W2_un hW2 hWc
    subst ec
    refine l_istore dL_law_2229 (by decide) rfl ?_
    refine l_aload_n dL_law_2231 rfl ?_
    refine l_arg (j := 1) hs (by omega) (by omega) h2 dL_law_2232 dL_law_2233 dL_law_2235 dL_law_2236 dL_law_2237 rfl rfl ?_
    refine l_callM (av := [.int (zI (xs (i + 1).toNat).toInt)]) (o := 37) (rest := []) dL_law_2238 mlL_279 md_X8_nearest hM rfl rfl rfl (by decide) (by decide) (by show _ ≤ 601024; omega) (by show _ ≤ 7293033; omega) (Nat.le_of_ble_eq_true rfl) (fun E M' h => h) (fun v M2 hq => ?_)
    obtain ⟨z', rfl, h0, hI2⟩ := hq
    refine l_istore dL_law_2241 (by decide) rfl ?_
    refine l_aload_n dL_law_2243 rfl ?_
    refine l_callM (av := []) (o := 37) (rest := []) dL_law_2244 mlL_179 md_X8_thrown (m_thrown (M := M2)) rfl rfl rfl (by decide) (by decide) (by show _ ≤ 601024; omega) (by show _ ≤ 7293033; omega) (Nat.le_of_ble_eq_true rfl) (fun E M' h => h) (fun v M3 hq => ?_)
    obtain ⟨rfl, rfl⟩ := hq
    refine l_iload dL_law_2247 rfl ?_
    refine l_icmp_eqT (tgt := 2254) dL_law_2249 rfl (by rw [h0]) ?_
    refine l_iload dL_law_2254 rfl ?_
    refine l_if_ne (tgt := 2271) dL_law_2256 rfl (fun _ => ?_) (fun h => absurd h (W2_z hWc))
    refine l_goto (tgt := 3627) dL_law_2271 rfl ?_
    refine l_weak (L' := [some (.ref 54), some (.ref 0), some (.ref 37), some (.ref 52), some (.ref 53), some (.int (zI i)), none, none, none]) (by simp [wkB]) (l_widen (by omega) (by omega) (loop _ ?_))
    exact hI2
set_option maxHeartbeats 1000000 in
theorem lc_32 (hs : lScr X A Ls xs) (h2 : Ls ≤ 3072) (i0 : 0 ≤ i) (i6 : i + 6 ≤ Ls) (hI : Inv w.1) (hkc : kc + 6 ≤ 601024) (hks : ks + 36 ≤ 7293033) (loop : ∀ w' : lM, Inv w'.1 → LW X (cL_law, 9, rt, room_1, [], cy, A, Q) (kc + 6) (ks + 36) 3627 [some (.ref 54), some (.ref 0), some (.ref 37), some (.ref 52), some (.ref 53), some (.int (zI i)), none, none, none] [] w') : LW X (cL_law, 9, rt, room_1, [], cy, A, Q) kc ks 2274 [some (.ref 54), some (.ref 0), some (.ref 37), some (.ref 52), some (.ref 53), some (.int (zI i)), none, none, none] [] w := by
  obtain ⟨P', hC, hP1, hP2⟩ := p_bytesIf hI (zR_of (xs (i + 1).toNat)) (zR_of (xs (i + 2).toNat))
  refine l_aload_n dL_law_2274 rfl ?_
  refine l_arg (j := 1) hs (by omega) (by omega) h2 dL_law_2275 dL_law_2276 dL_law_2278 dL_law_2279 dL_law_2280 rfl rfl ?_
  refine l_arg (j := 2) hs (by omega) (by omega) h2 dL_law_2281 dL_law_2282 dL_law_2284 dL_law_2285 dL_law_2286 rfl rfl ?_
  refine l_aload_n dL_law_2287 rfl ?_
  refine l_callW (av := [.ref 0, .int (zI (xs (i + 1).toNat).toInt), .int (zI (xs (i + 2).toNat).toInt), .ref 52]) (rest := []) dL_law_2288 mlL_280 mdL_bytesIf (w_bytesIf hC (fun v M' h => (hP1 v M' h).elim fun z hz => ⟨z, hz.1⟩) (fun E M' h => (hP2 E M' h).elim fun c hc => ⟨c, hc.1⟩)) rfl (by decide) (by decide) (by show _ ≤ 601024; omega) (by show _ ≤ 7293033; omega) (Nat.le_of_ble_eq_true rfl) (fun v w' hq => ?_)
  rcases hq with ⟨z, M', rfl, hz, hw1, hw2⟩ | ⟨E, M', c, hWc, hE, rfl, rfl⟩
  · obtain ⟨z2, e2, hM⟩ := hP1 _ _ hz
    have e3 : zI z = zI z2 := by simpa using e2
    rw [← hw1] at hM
    refine l_istore dL_law_2291 (by decide) rfl ?_
    refine l_aload_n dL_law_2293 rfl ?_
    refine l_arg (j := 1) hs (by omega) (by omega) h2 dL_law_2294 dL_law_2295 dL_law_2297 dL_law_2298 dL_law_2299 rfl rfl ?_
    refine l_arg (j := 2) hs (by omega) (by omega) h2 dL_law_2300 dL_law_2301 dL_law_2303 dL_law_2304 dL_law_2305 rfl rfl ?_
    refine l_callM (av := [.int (zI (xs (i + 1).toNat).toInt), .int (zI (xs (i + 2).toNat).toInt)]) (o := 37) (rest := []) dL_law_2306 mlL_282 md_X8_bytesIf hM rfl rfl rfl (by decide) (by decide) (by show _ ≤ 601024; omega) (by show _ ≤ 7293033; omega) (Nat.le_of_ble_eq_true rfl) (fun E M' h => h) (fun v M2 hq => ?_)
    obtain ⟨z', rfl, hz', h0, hI2⟩ := hq
    refine l_istore dL_law_2309 (by decide) rfl ?_
    refine l_aload_n dL_law_2311 rfl ?_
    refine l_callM (av := []) (o := 37) (rest := []) dL_law_2312 mlL_179 md_X8_thrown (m_thrown (M := M2)) rfl rfl rfl (by decide) (by decide) (by show _ ≤ 601024; omega) (by show _ ≤ 7293033; omega) (Nat.le_of_ble_eq_true rfl) (fun E M' h => h) (fun v M3 hq => ?_)
    obtain ⟨rfl, rfl⟩ := hq
    refine l_iload dL_law_2315 rfl ?_
    refine l_icmp_eqT (tgt := 2322) dL_law_2317 rfl (by rw [h0]) ?_
    refine l_iload dL_law_2322 rfl ?_
    refine l_if_ne (tgt := 2339) dL_law_2324 rfl (fun h => absurd (by decide) h) (fun _ => ?_)
    refine l_aload_n dL_law_2327 rfl ?_
    refine l_iconst dL_law_2328 ?_
    refine l_laload dL_law_2329 ?_
    refine l_iload dL_law_2330 rfl ?_
    refine l_i2l dL_law_2332 ?_
    refine l_lcmpE dL_law_2333 (by show w'.2.1 0 = (zI z').toInt64; rw [hw2, e3, hz']) ?_
    refine l_if_eq (tgt := 2339) dL_law_2334 rfl (fun _ => ?_) (fun h => absurd (by decide) h)
    refine l_goto (tgt := 3627) dL_law_2339 rfl ?_
    refine l_weak (L' := [some (.ref 54), some (.ref 0), some (.ref 37), some (.ref 52), some (.ref 53), some (.int (zI i)), none, none, none]) (by simp [wkB]) (l_widen (by omega) (by omega) (loop _ ?_))
    exact hI2
  · obtain ⟨c2, hW2, hM⟩ := hP2 _ _ hE
    have ec : c2 = c := W2_un hW2 hWc
    subst ec
    refine l_istore dL_law_2291 (by decide) rfl ?_
    refine l_aload_n dL_law_2293 rfl ?_
    refine l_arg (j := 1) hs (by omega) (by omega) h2 dL_law_2294 dL_law_2295 dL_law_2297 dL_law_2298 dL_law_2299 rfl rfl ?_
    refine l_arg (j := 2) hs (by omega) (by omega) h2 dL_law_2300 dL_law_2301 dL_law_2303 dL_law_2304 dL_law_2305 rfl rfl ?_
    refine l_callM (av := [.int (zI (xs (i + 1).toNat).toInt), .int (zI (xs (i + 2).toNat).toInt)]) (o := 37) (rest := []) dL_law_2306 mlL_282 md_X8_bytesIf hM rfl rfl rfl (by decide) (by decide) (by show _ ≤ 601024; omega) (by show _ ≤ 7293033; omega) (Nat.le_of_ble_eq_true rfl) (fun E M' h => h) (fun v M2 hq => ?_)
    obtain ⟨z', rfl, h0, hI2⟩ := hq
    refine l_istore dL_law_2309 (by decide) rfl ?_
    refine l_aload_n dL_law_2311 rfl ?_
    refine l_callM (av := []) (o := 37) (rest := []) dL_law_2312 mlL_179 md_X8_thrown (m_thrown (M := M2)) rfl rfl rfl (by decide) (by decide) (by show _ ≤ 601024; omega) (by show _ ≤ 7293033; omega) (Nat.le_of_ble_eq_true rfl) (fun E M' h => h) (fun v M3 hq => ?_)
    obtain ⟨rfl, rfl⟩ := hq
    refine l_iload dL_law_2315 rfl ?_
    refine l_icmp_eqT (tgt := 2322) dL_law_2317 rfl (by rw [h0]) ?_
    refine l_iload dL_law_2322 rfl ?_
    refine l_if_ne (tgt := 2339) dL_law_2324 rfl (fun _ => ?_) (fun h => absurd h (W2_z hWc))
    refine l_goto (tgt := 3627) dL_law_2339 rfl ?_
    refine l_weak (L' := [some (.ref 54), some (.ref 0), some (.ref 37), some (.ref 52), some (.ref 53), some (.int (zI i)), none, none, none]) (by simp [wkB]) (l_widen (by omega) (by omega) (loop _ ?_))
    exact hI2
set_option maxHeartbeats 1000000 in
theorem lc_33 (hs : lScr X A Ls xs) (h2 : Ls ≤ 3072) (i0 : 0 ≤ i) (i6 : i + 6 ≤ Ls) (hI : Inv w.1) (hkc : kc + 6 ≤ 601024) (hks : ks + 36 ≤ 7293033) (loop : ∀ w' : lM, Inv w'.1 → LW X (cL_law, 9, rt, room_1, [], cy, A, Q) (kc + 6) (ks + 36) 3627 [some (.ref 54), some (.ref 0), some (.ref 37), some (.ref 52), some (.ref 53), some (.int (zI i)), none, none, none] [] w') : LW X (cL_law, 9, rt, room_1, [], cy, A, Q) kc ks 2342 [some (.ref 54), some (.ref 0), some (.ref 37), some (.ref 52), some (.ref 53), some (.int (zI i)), none, none, none] [] w := by
  obtain ⟨P', hC, hP1, hP2⟩ := p_bestFlip hI (zR_of (xs (i + 1).toNat)) (zR_of (xs (i + 2).toNat)) (zR_of (xs (i + 3).toNat))
  refine l_aload_n dL_law_2342 rfl ?_
  refine l_arg (j := 1) hs (by omega) (by omega) h2 dL_law_2343 dL_law_2344 dL_law_2346 dL_law_2347 dL_law_2348 rfl rfl ?_
  refine l_arg (j := 2) hs (by omega) (by omega) h2 dL_law_2349 dL_law_2350 dL_law_2352 dL_law_2353 dL_law_2354 rfl rfl ?_
  refine l_arg (j := 3) hs (by omega) (by omega) h2 dL_law_2355 dL_law_2356 dL_law_2358 dL_law_2359 dL_law_2360 rfl rfl ?_
  refine l_aload_n dL_law_2361 rfl ?_
  refine l_callW (av := [.ref 0, .int (zI (xs (i + 1).toNat).toInt), .int (zI (xs (i + 2).toNat).toInt), .int (zI (xs (i + 3).toNat).toInt), .ref 52]) (rest := []) dL_law_2362 mlL_283 mdL_bestFlip (w_bestFlip hC (fun v M' h => (hP1 v M' h).elim fun z hz => ⟨z, hz.1⟩) (fun E M' h => (hP2 E M' h).elim fun c hc => ⟨c, hc.1⟩)) rfl (by decide) (by decide) (by show _ ≤ 601024; omega) (by show _ ≤ 7293033; omega) (Nat.le_of_ble_eq_true rfl) (fun v w' hq => ?_)
  rcases hq with ⟨z, M', rfl, hz, hw1, hw2⟩ | ⟨E, M', c, hWc, hE, rfl, rfl⟩
  · obtain ⟨z2, e2, hM⟩ := hP1 _ _ hz
    have e3 : zI z = zI z2 := by simpa using e2
    rw [← hw1] at hM
    refine l_istore dL_law_2365 (by decide) rfl ?_
    refine l_aload_n dL_law_2367 rfl ?_
    refine l_arg (j := 1) hs (by omega) (by omega) h2 dL_law_2368 dL_law_2369 dL_law_2371 dL_law_2372 dL_law_2373 rfl rfl ?_
    refine l_arg (j := 2) hs (by omega) (by omega) h2 dL_law_2374 dL_law_2375 dL_law_2377 dL_law_2378 dL_law_2379 rfl rfl ?_
    refine l_arg (j := 3) hs (by omega) (by omega) h2 dL_law_2380 dL_law_2381 dL_law_2383 dL_law_2384 dL_law_2385 rfl rfl ?_
    refine l_callM (av := [.int (zI (xs (i + 1).toNat).toInt), .int (zI (xs (i + 2).toNat).toInt), .int (zI (xs (i + 3).toNat).toInt)]) (o := 37) (rest := []) dL_law_2386 mlL_285 md_X8_bestFlip hM rfl rfl rfl (by decide) (by decide) (by show _ ≤ 601024; omega) (by show _ ≤ 7293033; omega) (Nat.le_of_ble_eq_true rfl) (fun E M' h => h) (fun v M2 hq => ?_)
    obtain ⟨z', rfl, hz', h0, hI2⟩ := hq
    refine l_istore dL_law_2389 (by decide) rfl ?_
    refine l_aload_n dL_law_2391 rfl ?_
    refine l_callM (av := []) (o := 37) (rest := []) dL_law_2392 mlL_179 md_X8_thrown (m_thrown (M := M2)) rfl rfl rfl (by decide) (by decide) (by show _ ≤ 601024; omega) (by show _ ≤ 7293033; omega) (Nat.le_of_ble_eq_true rfl) (fun E M' h => h) (fun v M3 hq => ?_)
    obtain ⟨rfl, rfl⟩ := hq
    refine l_iload dL_law_2395 rfl ?_
    refine l_icmp_eqT (tgt := 2402) dL_law_2397 rfl (by rw [h0]) ?_
    refine l_iload dL_law_2402 rfl ?_
    refine l_if_ne (tgt := 2419) dL_law_2404 rfl (fun h => absurd (by decide) h) (fun _ => ?_)
    refine l_aload_n dL_law_2407 rfl ?_
    refine l_iconst dL_law_2408 ?_
    refine l_laload dL_law_2409 ?_
    refine l_iload dL_law_2410 rfl ?_
    refine l_i2l dL_law_2412 ?_
    refine l_lcmpE dL_law_2413 (by show w'.2.1 0 = (zI z').toInt64; rw [hw2, e3, hz']) ?_
    refine l_if_eq (tgt := 2419) dL_law_2414 rfl (fun _ => ?_) (fun h => absurd (by decide) h)
    refine l_goto (tgt := 3627) dL_law_2419 rfl ?_
    refine l_weak (L' := [some (.ref 54), some (.ref 0), some (.ref 37), some (.ref 52), some (.ref 53), some (.int (zI i)), none, none, none]) (by simp [wkB]) (l_widen (by omega) (by omega) (loop _ ?_))
    exact hI2
  · obtain ⟨c2, hW2, hM⟩ := hP2 _ _ hE
    have ec : c2 = c := W2_un hW2 hWc
    subst ec
    refine l_istore dL_law_2365 (by decide) rfl ?_
    refine l_aload_n dL_law_2367 rfl ?_
    refine l_arg (j := 1) hs (by omega) (by omega) h2 dL_law_2368 dL_law_2369 dL_law_2371 dL_law_2372 dL_law_2373 rfl rfl ?_
    refine l_arg (j := 2) hs (by omega) (by omega) h2 dL_law_2374 dL_law_2375 dL_law_2377 dL_law_2378 dL_law_2379 rfl rfl ?_
    refine l_arg (j := 3) hs (by omega) (by omega) h2 dL_law_2380 dL_law_2381 dL_law_2383 dL_law_2384 dL_law_2385 rfl rfl ?_
    refine l_callM (av := [.int (zI (xs (i + 1).toNat).toInt), .int (zI (xs (i + 2).toNat).toInt), .int (zI (xs (i + 3).toNat).toInt)]) (o := 37) (rest := []) dL_law_2386 mlL_285 md_X8_bestFlip hM rfl rfl rfl (by decide) (by decide) (by show _ ≤ 601024; omega) (by show _ ≤ 7293033; omega) (Nat.le_of_ble_eq_true rfl) (fun E M' h => h) (fun v M2 hq => ?_)
    obtain ⟨z', rfl, h0, hI2⟩ := hq
    refine l_istore dL_law_2389 (by decide) rfl ?_
    refine l_aload_n dL_law_2391 rfl ?_
    refine l_callM (av := []) (o := 37) (rest := []) dL_law_2392 mlL_179 md_X8_thrown (m_thrown (M := M2)) rfl rfl rfl (by decide) (by decide) (by show _ ≤ 601024; omega) (by show _ ≤ 7293033; omega) (Nat.le_of_ble_eq_true rfl) (fun E M' h => h) (fun v M3 hq => ?_)
    obtain ⟨rfl, rfl⟩ := hq
    refine l_iload dL_law_2395 rfl ?_
    refine l_icmp_eqT (tgt := 2402) dL_law_2397 rfl (by rw [h0]) ?_
    refine l_iload dL_law_2402 rfl ?_
    refine l_if_ne (tgt := 2419) dL_law_2404 rfl (fun _ => ?_) (fun h => absurd h (W2_z hWc))
    refine l_goto (tgt := 3627) dL_law_2419 rfl ?_
    refine l_weak (L' := [some (.ref 54), some (.ref 0), some (.ref 37), some (.ref 52), some (.ref 53), some (.int (zI i)), none, none, none]) (by simp [wkB]) (l_widen (by omega) (by omega) (loop _ ?_))
    exact hI2
set_option maxHeartbeats 1000000 in
theorem lc_34 (hs : lScr X A Ls xs) (h2 : Ls ≤ 3072) (i0 : 0 ≤ i) (i6 : i + 6 ≤ Ls) (hI : Inv w.1) (hkc : kc + 6 ≤ 601024) (hks : ks + 36 ≤ 7293033) (loop : ∀ w' : lM, Inv w'.1 → LW X (cL_law, 9, rt, room_1, [], cy, A, Q) (kc + 6) (ks + 36) 3627 [some (.ref 54), some (.ref 0), some (.ref 37), some (.ref 52), some (.ref 53), some (.int (zI i)), none, none, none] [] w') : LW X (cL_law, 9, rt, room_1, [], cy, A, Q) kc ks 2422 [some (.ref 54), some (.ref 0), some (.ref 37), some (.ref 52), some (.ref 53), some (.int (zI i)), none, none, none] [] w := by
  obtain ⟨P', hC, hP1, hP2⟩ := p_bytesFilled hI (zR_of (xs (i + 1).toNat)) (zR_of (xs (i + 2).toNat)) (zR_of (xs (i + 3).toNat)) (zR_of (xs (i + 4).toNat))
  refine l_aload_n dL_law_2422 rfl ?_
  refine l_arg (j := 1) hs (by omega) (by omega) h2 dL_law_2423 dL_law_2424 dL_law_2426 dL_law_2427 dL_law_2428 rfl rfl ?_
  refine l_arg (j := 2) hs (by omega) (by omega) h2 dL_law_2429 dL_law_2430 dL_law_2432 dL_law_2433 dL_law_2434 rfl rfl ?_
  refine l_arg (j := 3) hs (by omega) (by omega) h2 dL_law_2435 dL_law_2436 dL_law_2438 dL_law_2439 dL_law_2440 rfl rfl ?_
  refine l_arg (j := 4) hs (by omega) (by omega) h2 dL_law_2441 dL_law_2442 dL_law_2444 dL_law_2445 dL_law_2446 rfl rfl ?_
  refine l_aload_n dL_law_2447 rfl ?_
  refine l_callW (av := [.ref 0, .int (zI (xs (i + 1).toNat).toInt), .int (zI (xs (i + 2).toNat).toInt), .int (zI (xs (i + 3).toNat).toInt), .int (zI (xs (i + 4).toNat).toInt), .ref 52]) (rest := []) dL_law_2448 mlL_286 mdL_bytesFilled (w_bytesFilled hC (fun v M' h => (hP1 v M' h).elim fun z hz => ⟨z, hz.1⟩) (fun E M' h => (hP2 E M' h).elim fun c hc => ⟨c, hc.1⟩)) rfl (by decide) (by decide) (by show _ ≤ 601024; omega) (by show _ ≤ 7293033; omega) (Nat.le_of_ble_eq_true rfl) (fun v w' hq => ?_)
  rcases hq with ⟨z, M', rfl, hz, hw1, hw2⟩ | ⟨E, M', c, hWc, hE, rfl, rfl⟩
  · obtain ⟨z2, e2, hM⟩ := hP1 _ _ hz
    have e3 : zI z = zI z2 := by simpa using e2
    rw [← hw1] at hM
    refine l_istore dL_law_2451 (by decide) rfl ?_
    refine l_aload_n dL_law_2453 rfl ?_
    refine l_arg (j := 1) hs (by omega) (by omega) h2 dL_law_2454 dL_law_2455 dL_law_2457 dL_law_2458 dL_law_2459 rfl rfl ?_
    refine l_arg (j := 2) hs (by omega) (by omega) h2 dL_law_2460 dL_law_2461 dL_law_2463 dL_law_2464 dL_law_2465 rfl rfl ?_
    refine l_arg (j := 3) hs (by omega) (by omega) h2 dL_law_2466 dL_law_2467 dL_law_2469 dL_law_2470 dL_law_2471 rfl rfl ?_
    refine l_arg (j := 4) hs (by omega) (by omega) h2 dL_law_2472 dL_law_2473 dL_law_2475 dL_law_2476 dL_law_2477 rfl rfl ?_
    refine l_callM (av := [.int (zI (xs (i + 1).toNat).toInt), .int (zI (xs (i + 2).toNat).toInt), .int (zI (xs (i + 3).toNat).toInt), .int (zI (xs (i + 4).toNat).toInt)]) (o := 37) (rest := []) dL_law_2478 mlL_288 md_X8_bytesFilled hM rfl rfl rfl (by decide) (by decide) (by show _ ≤ 601024; omega) (by show _ ≤ 7293033; omega) (Nat.le_of_ble_eq_true rfl) (fun E M' h => h) (fun v M2 hq => ?_)
    obtain ⟨z', rfl, hz', h0, hI2⟩ := hq
    refine l_istore dL_law_2481 (by decide) rfl ?_
    refine l_aload_n dL_law_2483 rfl ?_
    refine l_callM (av := []) (o := 37) (rest := []) dL_law_2484 mlL_179 md_X8_thrown (m_thrown (M := M2)) rfl rfl rfl (by decide) (by decide) (by show _ ≤ 601024; omega) (by show _ ≤ 7293033; omega) (Nat.le_of_ble_eq_true rfl) (fun E M' h => h) (fun v M3 hq => ?_)
    obtain ⟨rfl, rfl⟩ := hq
    refine l_iload dL_law_2487 rfl ?_
    refine l_icmp_eqT (tgt := 2494) dL_law_2489 rfl (by rw [h0]) ?_
    refine l_iload dL_law_2494 rfl ?_
    refine l_if_ne (tgt := 2511) dL_law_2496 rfl (fun h => absurd (by decide) h) (fun _ => ?_)
    refine l_aload_n dL_law_2499 rfl ?_
    refine l_iconst dL_law_2500 ?_
    refine l_laload dL_law_2501 ?_
    refine l_iload dL_law_2502 rfl ?_
    refine l_i2l dL_law_2504 ?_
    refine l_lcmpE dL_law_2505 (by show w'.2.1 0 = (zI z').toInt64; rw [hw2, e3, hz']) ?_
    refine l_if_eq (tgt := 2511) dL_law_2506 rfl (fun _ => ?_) (fun h => absurd (by decide) h)
    refine l_goto (tgt := 3627) dL_law_2511 rfl ?_
    refine l_weak (L' := [some (.ref 54), some (.ref 0), some (.ref 37), some (.ref 52), some (.ref 53), some (.int (zI i)), none, none, none]) (by simp [wkB]) (l_widen (by omega) (by omega) (loop _ ?_))
    exact hI2
  · obtain ⟨c2, hW2, hM⟩ := hP2 _ _ hE
    have ec : c2 = c := W3_un hW2 hWc
    subst ec
    refine l_istore dL_law_2451 (by decide) rfl ?_
    refine l_aload_n dL_law_2453 rfl ?_
    refine l_arg (j := 1) hs (by omega) (by omega) h2 dL_law_2454 dL_law_2455 dL_law_2457 dL_law_2458 dL_law_2459 rfl rfl ?_
    refine l_arg (j := 2) hs (by omega) (by omega) h2 dL_law_2460 dL_law_2461 dL_law_2463 dL_law_2464 dL_law_2465 rfl rfl ?_
    refine l_arg (j := 3) hs (by omega) (by omega) h2 dL_law_2466 dL_law_2467 dL_law_2469 dL_law_2470 dL_law_2471 rfl rfl ?_
    refine l_arg (j := 4) hs (by omega) (by omega) h2 dL_law_2472 dL_law_2473 dL_law_2475 dL_law_2476 dL_law_2477 rfl rfl ?_
    refine l_callM (av := [.int (zI (xs (i + 1).toNat).toInt), .int (zI (xs (i + 2).toNat).toInt), .int (zI (xs (i + 3).toNat).toInt), .int (zI (xs (i + 4).toNat).toInt)]) (o := 37) (rest := []) dL_law_2478 mlL_288 md_X8_bytesFilled hM rfl rfl rfl (by decide) (by decide) (by show _ ≤ 601024; omega) (by show _ ≤ 7293033; omega) (Nat.le_of_ble_eq_true rfl) (fun E M' h => h) (fun v M2 hq => ?_)
    obtain ⟨z', rfl, h0, hI2⟩ := hq
    refine l_istore dL_law_2481 (by decide) rfl ?_
    refine l_aload_n dL_law_2483 rfl ?_
    refine l_callM (av := []) (o := 37) (rest := []) dL_law_2484 mlL_179 md_X8_thrown (m_thrown (M := M2)) rfl rfl rfl (by decide) (by decide) (by show _ ≤ 601024; omega) (by show _ ≤ 7293033; omega) (Nat.le_of_ble_eq_true rfl) (fun E M' h => h) (fun v M3 hq => ?_)
    obtain ⟨rfl, rfl⟩ := hq
    refine l_iload dL_law_2487 rfl ?_
    refine l_icmp_eqT (tgt := 2494) dL_law_2489 rfl (by rw [h0]) ?_
    refine l_iload dL_law_2494 rfl ?_
    refine l_if_ne (tgt := 2511) dL_law_2496 rfl (fun _ => ?_) (fun h => absurd h (W3_z hWc))
    refine l_goto (tgt := 3627) dL_law_2511 rfl ?_
    refine l_weak (L' := [some (.ref 54), some (.ref 0), some (.ref 37), some (.ref 52), some (.ref 53), some (.int (zI i)), none, none, none]) (by simp [wkB]) (l_widen (by omega) (by omega) (loop _ ?_))
    exact hI2
set_option maxHeartbeats 1000000 in
theorem lc_35 (hs : lScr X A Ls xs) (h2 : Ls ≤ 3072) (i0 : 0 ≤ i) (i6 : i + 6 ≤ Ls) (hI : Inv w.1) (hkc : kc + 6 ≤ 601024) (hks : ks + 36 ≤ 7293033) (loop : ∀ w' : lM, Inv w'.1 → LW X (cL_law, 9, rt, room_1, [], cy, A, Q) (kc + 6) (ks + 36) 3627 [some (.ref 54), some (.ref 0), some (.ref 37), some (.ref 52), some (.ref 53), some (.int (zI i)), none, none, none] [] w') : LW X (cL_law, 9, rt, room_1, [], cy, A, Q) kc ks 2514 [some (.ref 54), some (.ref 0), some (.ref 37), some (.ref 52), some (.ref 53), some (.int (zI i)), none, none, none] [] w := by
  obtain ⟨P', hC, hP1, hP2⟩ := p_bytesShifted hI (zR_of (xs (i + 1).toNat)) (zR_of (xs (i + 2).toNat))
  refine l_aload_n dL_law_2514 rfl ?_
  refine l_arg (j := 1) hs (by omega) (by omega) h2 dL_law_2515 dL_law_2516 dL_law_2518 dL_law_2519 dL_law_2520 rfl rfl ?_
  refine l_arg (j := 2) hs (by omega) (by omega) h2 dL_law_2521 dL_law_2522 dL_law_2524 dL_law_2525 dL_law_2526 rfl rfl ?_
  refine l_aload_n dL_law_2527 rfl ?_
  refine l_callW (av := [.ref 0, .int (zI (xs (i + 1).toNat).toInt), .int (zI (xs (i + 2).toNat).toInt), .ref 52]) (rest := []) dL_law_2528 mlL_289 mdL_bytesShifted (w_bytesShifted hC (fun v M' h => (hP1 v M' h).elim fun z hz => ⟨z, hz.1⟩) (fun E M' h => (hP2 E M' h).elim fun c hc => ⟨c, hc.1⟩)) rfl (by decide) (by decide) (by show _ ≤ 601024; omega) (by show _ ≤ 7293033; omega) (Nat.le_of_ble_eq_true rfl) (fun v w' hq => ?_)
  rcases hq with ⟨z, M', rfl, hz, hw1, hw2⟩ | ⟨E, M', c, hWc, hE, rfl, rfl⟩
  · obtain ⟨z2, e2, hM⟩ := hP1 _ _ hz
    have e3 : zI z = zI z2 := by simpa using e2
    rw [← hw1] at hM
    refine l_istore dL_law_2531 (by decide) rfl ?_
    refine l_aload_n dL_law_2533 rfl ?_
    refine l_arg (j := 1) hs (by omega) (by omega) h2 dL_law_2534 dL_law_2535 dL_law_2537 dL_law_2538 dL_law_2539 rfl rfl ?_
    refine l_arg (j := 2) hs (by omega) (by omega) h2 dL_law_2540 dL_law_2541 dL_law_2543 dL_law_2544 dL_law_2545 rfl rfl ?_
    refine l_callM (av := [.int (zI (xs (i + 1).toNat).toInt), .int (zI (xs (i + 2).toNat).toInt)]) (o := 37) (rest := []) dL_law_2546 mlL_291 md_X8_bytesShifted hM rfl rfl rfl (by decide) (by decide) (by show _ ≤ 601024; omega) (by show _ ≤ 7293033; omega) (Nat.le_of_ble_eq_true rfl) (fun E M' h => h) (fun v M2 hq => ?_)
    obtain ⟨z', rfl, hz', h0, hI2⟩ := hq
    refine l_istore dL_law_2549 (by decide) rfl ?_
    refine l_aload_n dL_law_2551 rfl ?_
    refine l_callM (av := []) (o := 37) (rest := []) dL_law_2552 mlL_179 md_X8_thrown (m_thrown (M := M2)) rfl rfl rfl (by decide) (by decide) (by show _ ≤ 601024; omega) (by show _ ≤ 7293033; omega) (Nat.le_of_ble_eq_true rfl) (fun E M' h => h) (fun v M3 hq => ?_)
    obtain ⟨rfl, rfl⟩ := hq
    refine l_iload dL_law_2555 rfl ?_
    refine l_icmp_eqT (tgt := 2562) dL_law_2557 rfl (by rw [h0]) ?_
    refine l_iload dL_law_2562 rfl ?_
    refine l_if_ne (tgt := 2579) dL_law_2564 rfl (fun h => absurd (by decide) h) (fun _ => ?_)
    refine l_aload_n dL_law_2567 rfl ?_
    refine l_iconst dL_law_2568 ?_
    refine l_laload dL_law_2569 ?_
    refine l_iload dL_law_2570 rfl ?_
    refine l_i2l dL_law_2572 ?_
    refine l_lcmpE dL_law_2573 (by show w'.2.1 0 = (zI z').toInt64; rw [hw2, e3, hz']) ?_
    refine l_if_eq (tgt := 2579) dL_law_2574 rfl (fun _ => ?_) (fun h => absurd (by decide) h)
    refine l_goto (tgt := 3627) dL_law_2579 rfl ?_
    refine l_weak (L' := [some (.ref 54), some (.ref 0), some (.ref 37), some (.ref 52), some (.ref 53), some (.int (zI i)), none, none, none]) (by simp [wkB]) (l_widen (by omega) (by omega) (loop _ ?_))
    exact hI2
  · obtain ⟨c2, hW2, hM⟩ := hP2 _ _ hE
    have ec : c2 = c := W2_un hW2 hWc
    subst ec
    refine l_istore dL_law_2531 (by decide) rfl ?_
    refine l_aload_n dL_law_2533 rfl ?_
    refine l_arg (j := 1) hs (by omega) (by omega) h2 dL_law_2534 dL_law_2535 dL_law_2537 dL_law_2538 dL_law_2539 rfl rfl ?_
    refine l_arg (j := 2) hs (by omega) (by omega) h2 dL_law_2540 dL_law_2541 dL_law_2543 dL_law_2544 dL_law_2545 rfl rfl ?_
    refine l_callM (av := [.int (zI (xs (i + 1).toNat).toInt), .int (zI (xs (i + 2).toNat).toInt)]) (o := 37) (rest := []) dL_law_2546 mlL_291 md_X8_bytesShifted hM rfl rfl rfl (by decide) (by decide) (by show _ ≤ 601024; omega) (by show _ ≤ 7293033; omega) (Nat.le_of_ble_eq_true rfl) (fun E M' h => h) (fun v M2 hq => ?_)
    obtain ⟨z', rfl, h0, hI2⟩ := hq
    refine l_istore dL_law_2549 (by decide) rfl ?_
    refine l_aload_n dL_law_2551 rfl ?_
    refine l_callM (av := []) (o := 37) (rest := []) dL_law_2552 mlL_179 md_X8_thrown (m_thrown (M := M2)) rfl rfl rfl (by decide) (by decide) (by show _ ≤ 601024; omega) (by show _ ≤ 7293033; omega) (Nat.le_of_ble_eq_true rfl) (fun E M' h => h) (fun v M3 hq => ?_)
    obtain ⟨rfl, rfl⟩ := hq
    refine l_iload dL_law_2555 rfl ?_
    refine l_icmp_eqT (tgt := 2562) dL_law_2557 rfl (by rw [h0]) ?_
    refine l_iload dL_law_2562 rfl ?_
    refine l_if_ne (tgt := 2579) dL_law_2564 rfl (fun _ => ?_) (fun h => absurd h (W2_z hWc))
    refine l_goto (tgt := 3627) dL_law_2579 rfl ?_
    refine l_weak (L' := [some (.ref 54), some (.ref 0), some (.ref 37), some (.ref 52), some (.ref 53), some (.int (zI i)), none, none, none]) (by simp [wkB]) (l_widen (by omega) (by omega) (loop _ ?_))
    exact hI2
set_option maxHeartbeats 1000000 in
theorem lc_36 (hs : lScr X A Ls xs) (h2 : Ls ≤ 3072) (i0 : 0 ≤ i) (i6 : i + 6 ≤ Ls) (hI : Inv w.1) (hkc : kc + 6 ≤ 601024) (hks : ks + 36 ≤ 7293033) (loop : ∀ w' : lM, Inv w'.1 → LW X (cL_law, 9, rt, room_1, [], cy, A, Q) (kc + 6) (ks + 36) 3627 [some (.ref 54), some (.ref 0), some (.ref 37), some (.ref 52), some (.ref 53), some (.int (zI i)), none, none, none] [] w') : LW X (cL_law, 9, rt, room_1, [], cy, A, Q) kc ks 2582 [some (.ref 54), some (.ref 0), some (.ref 37), some (.ref 52), some (.ref 53), some (.int (zI i)), none, none, none] [] w := by
  obtain ⟨P', hC, hP1, hP2⟩ := p_mostLike hI (zR_of (xs (i + 1).toNat)) (zR_of (xs (i + 2).toNat)) (zR_of (xs (i + 3).toNat))
  refine l_aload_n dL_law_2582 rfl ?_
  refine l_arg (j := 1) hs (by omega) (by omega) h2 dL_law_2583 dL_law_2584 dL_law_2586 dL_law_2587 dL_law_2588 rfl rfl ?_
  refine l_arg (j := 2) hs (by omega) (by omega) h2 dL_law_2589 dL_law_2590 dL_law_2592 dL_law_2593 dL_law_2594 rfl rfl ?_
  refine l_arg (j := 3) hs (by omega) (by omega) h2 dL_law_2595 dL_law_2596 dL_law_2598 dL_law_2599 dL_law_2600 rfl rfl ?_
  refine l_aload_n dL_law_2601 rfl ?_
  refine l_callW (av := [.ref 0, .int (zI (xs (i + 1).toNat).toInt), .int (zI (xs (i + 2).toNat).toInt), .int (zI (xs (i + 3).toNat).toInt), .ref 52]) (rest := []) dL_law_2602 mlL_292 mdL_mostLike (w_mostLike hC (fun v M' h => (hP1 v M' h).elim fun z hz => ⟨z, hz.1⟩) (fun E M' h => (hP2 E M' h).elim fun c hc => ⟨c, hc.1⟩)) rfl (by decide) (by decide) (by show _ ≤ 601024; omega) (by show _ ≤ 7293033; omega) (Nat.le_of_ble_eq_true rfl) (fun v w' hq => ?_)
  rcases hq with ⟨z, M', rfl, hz, hw1, hw2⟩ | ⟨E, M', c, hWc, hE, rfl, rfl⟩
  · obtain ⟨z2, e2, hM⟩ := hP1 _ _ hz
    have e3 : zI z = zI z2 := by simpa using e2
    rw [← hw1] at hM
    refine l_istore dL_law_2605 (by decide) rfl ?_
    refine l_aload_n dL_law_2607 rfl ?_
    refine l_arg (j := 1) hs (by omega) (by omega) h2 dL_law_2608 dL_law_2609 dL_law_2611 dL_law_2612 dL_law_2613 rfl rfl ?_
    refine l_arg (j := 2) hs (by omega) (by omega) h2 dL_law_2614 dL_law_2615 dL_law_2617 dL_law_2618 dL_law_2619 rfl rfl ?_
    refine l_arg (j := 3) hs (by omega) (by omega) h2 dL_law_2620 dL_law_2621 dL_law_2623 dL_law_2624 dL_law_2625 rfl rfl ?_
    refine l_callM (av := [.int (zI (xs (i + 1).toNat).toInt), .int (zI (xs (i + 2).toNat).toInt), .int (zI (xs (i + 3).toNat).toInt)]) (o := 37) (rest := []) dL_law_2626 mlL_294 md_X8_mostLike hM rfl rfl rfl (by decide) (by decide) (by show _ ≤ 601024; omega) (by show _ ≤ 7293033; omega) (Nat.le_of_ble_eq_true rfl) (fun E M' h => h) (fun v M2 hq => ?_)
    obtain ⟨z', rfl, hz', h0, hI2⟩ := hq
    refine l_istore dL_law_2629 (by decide) rfl ?_
    refine l_aload_n dL_law_2631 rfl ?_
    refine l_callM (av := []) (o := 37) (rest := []) dL_law_2632 mlL_179 md_X8_thrown (m_thrown (M := M2)) rfl rfl rfl (by decide) (by decide) (by show _ ≤ 601024; omega) (by show _ ≤ 7293033; omega) (Nat.le_of_ble_eq_true rfl) (fun E M' h => h) (fun v M3 hq => ?_)
    obtain ⟨rfl, rfl⟩ := hq
    refine l_iload dL_law_2635 rfl ?_
    refine l_icmp_eqT (tgt := 2642) dL_law_2637 rfl (by rw [h0]) ?_
    refine l_iload dL_law_2642 rfl ?_
    refine l_if_ne (tgt := 2659) dL_law_2644 rfl (fun h => absurd (by decide) h) (fun _ => ?_)
    refine l_aload_n dL_law_2647 rfl ?_
    refine l_iconst dL_law_2648 ?_
    refine l_laload dL_law_2649 ?_
    refine l_iload dL_law_2650 rfl ?_
    refine l_i2l dL_law_2652 ?_
    refine l_lcmpE dL_law_2653 (by show w'.2.1 0 = (zI z').toInt64; rw [hw2, e3, hz']) ?_
    refine l_if_eq (tgt := 2659) dL_law_2654 rfl (fun _ => ?_) (fun h => absurd (by decide) h)
    refine l_goto (tgt := 3627) dL_law_2659 rfl ?_
    refine l_weak (L' := [some (.ref 54), some (.ref 0), some (.ref 37), some (.ref 52), some (.ref 53), some (.int (zI i)), none, none, none]) (by simp [wkB]) (l_widen (by omega) (by omega) (loop _ ?_))
    exact hI2
  · obtain ⟨c2, hW2, hM⟩ := hP2 _ _ hE
    have ec : c2 = c := W2_un hW2 hWc
    subst ec
    refine l_istore dL_law_2605 (by decide) rfl ?_
    refine l_aload_n dL_law_2607 rfl ?_
    refine l_arg (j := 1) hs (by omega) (by omega) h2 dL_law_2608 dL_law_2609 dL_law_2611 dL_law_2612 dL_law_2613 rfl rfl ?_
    refine l_arg (j := 2) hs (by omega) (by omega) h2 dL_law_2614 dL_law_2615 dL_law_2617 dL_law_2618 dL_law_2619 rfl rfl ?_
    refine l_arg (j := 3) hs (by omega) (by omega) h2 dL_law_2620 dL_law_2621 dL_law_2623 dL_law_2624 dL_law_2625 rfl rfl ?_
    refine l_callM (av := [.int (zI (xs (i + 1).toNat).toInt), .int (zI (xs (i + 2).toNat).toInt), .int (zI (xs (i + 3).toNat).toInt)]) (o := 37) (rest := []) dL_law_2626 mlL_294 md_X8_mostLike hM rfl rfl rfl (by decide) (by decide) (by show _ ≤ 601024; omega) (by show _ ≤ 7293033; omega) (Nat.le_of_ble_eq_true rfl) (fun E M' h => h) (fun v M2 hq => ?_)
    obtain ⟨z', rfl, h0, hI2⟩ := hq
    refine l_istore dL_law_2629 (by decide) rfl ?_
    refine l_aload_n dL_law_2631 rfl ?_
    refine l_callM (av := []) (o := 37) (rest := []) dL_law_2632 mlL_179 md_X8_thrown (m_thrown (M := M2)) rfl rfl rfl (by decide) (by decide) (by show _ ≤ 601024; omega) (by show _ ≤ 7293033; omega) (Nat.le_of_ble_eq_true rfl) (fun E M' h => h) (fun v M3 hq => ?_)
    obtain ⟨rfl, rfl⟩ := hq
    refine l_iload dL_law_2635 rfl ?_
    refine l_icmp_eqT (tgt := 2642) dL_law_2637 rfl (by rw [h0]) ?_
    refine l_iload dL_law_2642 rfl ?_
    refine l_if_ne (tgt := 2659) dL_law_2644 rfl (fun _ => ?_) (fun h => absurd h (W2_z hWc))
    refine l_goto (tgt := 3627) dL_law_2659 rfl ?_
    refine l_weak (L' := [some (.ref 54), some (.ref 0), some (.ref 37), some (.ref 52), some (.ref 53), some (.int (zI i)), none, none, none]) (by simp [wkB]) (l_widen (by omega) (by omega) (loop _ ?_))
    exact hI2
set_option maxHeartbeats 1000000 in
theorem lc_37 (hs : lScr X A Ls xs) (h2 : Ls ≤ 3072) (i0 : 0 ≤ i) (i6 : i + 6 ≤ Ls) (hI : Inv w.1) (hkc : kc + 6 ≤ 601024) (hks : ks + 36 ≤ 7293033) (loop : ∀ w' : lM, Inv w'.1 → LW X (cL_law, 9, rt, room_1, [], cy, A, Q) (kc + 6) (ks + 36) 3627 [some (.ref 54), some (.ref 0), some (.ref 37), some (.ref 52), some (.ref 53), some (.int (zI i)), none, none, none] [] w') : LW X (cL_law, 9, rt, room_1, [], cy, A, Q) kc ks 2662 [some (.ref 54), some (.ref 0), some (.ref 37), some (.ref 52), some (.ref 53), some (.int (zI i)), none, none, none] [] w := by
  obtain ⟨P', hC, hP1, hP2⟩ := p_writeBytes hI (zR_of (xs (i + 1).toNat))
  refine l_aload_n dL_law_2662 rfl ?_
  refine l_arg (j := 1) hs (by omega) (by omega) h2 dL_law_2663 dL_law_2664 dL_law_2666 dL_law_2667 dL_law_2668 rfl rfl ?_
  refine l_aload_n dL_law_2669 rfl ?_
  refine l_callW (av := [.ref 0, .int (zI (xs (i + 1).toNat).toInt), .ref 52]) (rest := []) dL_law_2670 mlL_295 mdL_writeBytes (w_writeBytes hC (fun v M' h => (hP1 v M' h).elim fun z hz => ⟨z, hz.1⟩) (fun E M' h => (hP2 E M' h).elim fun c hc => ⟨c, hc.1⟩)) rfl (by decide) (by decide) (by show _ ≤ 601024; omega) (by show _ ≤ 7293033; omega) (Nat.le_of_ble_eq_true rfl) (fun v w' hq => ?_)
  rcases hq with ⟨z, M', rfl, hz, hw1, hw2⟩ | ⟨E, M', c, hWc, hE, rfl, rfl⟩
  · obtain ⟨z2, e2, hM⟩ := hP1 _ _ hz
    have e3 : zI z = zI z2 := by simpa using e2
    rw [← hw1] at hM
    refine l_istore dL_law_2673 (by decide) rfl ?_
    refine l_aload_n dL_law_2675 rfl ?_
    refine l_arg (j := 1) hs (by omega) (by omega) h2 dL_law_2676 dL_law_2677 dL_law_2679 dL_law_2680 dL_law_2681 rfl rfl ?_
    refine l_callM (av := [.int (zI (xs (i + 1).toNat).toInt)]) (o := 37) (rest := []) dL_law_2682 mlL_297 md_X8_writeBytes hM rfl rfl rfl (by decide) (by decide) (by show _ ≤ 601024; omega) (by show _ ≤ 7293033; omega) (Nat.le_of_ble_eq_true rfl) (fun E M' h => h) (fun v M2 hq => ?_)
    obtain ⟨z', rfl, hz', h0, hI2⟩ := hq
    refine l_istore dL_law_2685 (by decide) rfl ?_
    refine l_aload_n dL_law_2687 rfl ?_
    refine l_callM (av := []) (o := 37) (rest := []) dL_law_2688 mlL_179 md_X8_thrown (m_thrown (M := M2)) rfl rfl rfl (by decide) (by decide) (by show _ ≤ 601024; omega) (by show _ ≤ 7293033; omega) (Nat.le_of_ble_eq_true rfl) (fun E M' h => h) (fun v M3 hq => ?_)
    obtain ⟨rfl, rfl⟩ := hq
    refine l_iload dL_law_2691 rfl ?_
    refine l_icmp_eqT (tgt := 2698) dL_law_2693 rfl (by rw [h0]) ?_
    refine l_iload dL_law_2698 rfl ?_
    refine l_if_ne (tgt := 2715) dL_law_2700 rfl (fun h => absurd (by decide) h) (fun _ => ?_)
    refine l_aload_n dL_law_2703 rfl ?_
    refine l_iconst dL_law_2704 ?_
    refine l_laload dL_law_2705 ?_
    refine l_iload dL_law_2706 rfl ?_
    refine l_i2l dL_law_2708 ?_
    refine l_lcmpE dL_law_2709 (by show w'.2.1 0 = (zI z').toInt64; rw [hw2, e3, hz']) ?_
    refine l_if_eq (tgt := 2715) dL_law_2710 rfl (fun _ => ?_) (fun h => absurd (by decide) h)
    refine l_goto (tgt := 3627) dL_law_2715 rfl ?_
    refine l_weak (L' := [some (.ref 54), some (.ref 0), some (.ref 37), some (.ref 52), some (.ref 53), some (.int (zI i)), none, none, none]) (by simp [wkB]) (l_widen (by omega) (by omega) (loop _ ?_))
    exact hI2
  · obtain ⟨c2, hW2, hM⟩ := hP2 _ _ hE
    have ec : c2 = c := W2_un hW2 hWc
    subst ec
    refine l_istore dL_law_2673 (by decide) rfl ?_
    refine l_aload_n dL_law_2675 rfl ?_
    refine l_arg (j := 1) hs (by omega) (by omega) h2 dL_law_2676 dL_law_2677 dL_law_2679 dL_law_2680 dL_law_2681 rfl rfl ?_
    refine l_callM (av := [.int (zI (xs (i + 1).toNat).toInt)]) (o := 37) (rest := []) dL_law_2682 mlL_297 md_X8_writeBytes hM rfl rfl rfl (by decide) (by decide) (by show _ ≤ 601024; omega) (by show _ ≤ 7293033; omega) (Nat.le_of_ble_eq_true rfl) (fun E M' h => h) (fun v M2 hq => ?_)
    obtain ⟨z', rfl, h0, hI2⟩ := hq
    refine l_istore dL_law_2685 (by decide) rfl ?_
    refine l_aload_n dL_law_2687 rfl ?_
    refine l_callM (av := []) (o := 37) (rest := []) dL_law_2688 mlL_179 md_X8_thrown (m_thrown (M := M2)) rfl rfl rfl (by decide) (by decide) (by show _ ≤ 601024; omega) (by show _ ≤ 7293033; omega) (Nat.le_of_ble_eq_true rfl) (fun E M' h => h) (fun v M3 hq => ?_)
    obtain ⟨rfl, rfl⟩ := hq
    refine l_iload dL_law_2691 rfl ?_
    refine l_icmp_eqT (tgt := 2698) dL_law_2693 rfl (by rw [h0]) ?_
    refine l_iload dL_law_2698 rfl ?_
    refine l_if_ne (tgt := 2715) dL_law_2700 rfl (fun _ => ?_) (fun h => absurd h (W2_z hWc))
    refine l_goto (tgt := 3627) dL_law_2715 rfl ?_
    refine l_weak (L' := [some (.ref 54), some (.ref 0), some (.ref 37), some (.ref 52), some (.ref 53), some (.int (zI i)), none, none, none]) (by simp [wkB]) (l_widen (by omega) (by omega) (loop _ ?_))
    exact hI2
set_option maxHeartbeats 1000000 in
theorem lc_38 (hs : lScr X A Ls xs) (h2 : Ls ≤ 3072) (i0 : 0 ≤ i) (i6 : i + 6 ≤ Ls) (hI : Inv w.1) (hkc : kc + 6 ≤ 601024) (hks : ks + 36 ≤ 7293033) (loop : ∀ w' : lM, Inv w'.1 → LW X (cL_law, 9, rt, room_1, [], cy, A, Q) (kc + 6) (ks + 36) 3627 [some (.ref 54), some (.ref 0), some (.ref 37), some (.ref 52), some (.ref 53), some (.int (zI i)), none, none, none] [] w') : LW X (cL_law, 9, rt, room_1, [], cy, A, Q) kc ks 2718 [some (.ref 54), some (.ref 0), some (.ref 37), some (.ref 52), some (.ref 53), some (.int (zI i)), none, none, none] [] w := by
  obtain ⟨P', hC, hP1, hP2⟩ := p_writeBits hI (zR_of (xs (i + 1).toNat)) (zR_of (xs (i + 2).toNat)) (zR_of (xs (i + 3).toNat))
  refine l_aload_n dL_law_2718 rfl ?_
  refine l_arg (j := 1) hs (by omega) (by omega) h2 dL_law_2719 dL_law_2720 dL_law_2722 dL_law_2723 dL_law_2724 rfl rfl ?_
  refine l_arg (j := 2) hs (by omega) (by omega) h2 dL_law_2725 dL_law_2726 dL_law_2728 dL_law_2729 dL_law_2730 rfl rfl ?_
  refine l_arg (j := 3) hs (by omega) (by omega) h2 dL_law_2731 dL_law_2732 dL_law_2734 dL_law_2735 dL_law_2736 rfl rfl ?_
  refine l_aload_n dL_law_2737 rfl ?_
  refine l_callW (av := [.ref 0, .int (zI (xs (i + 1).toNat).toInt), .int (zI (xs (i + 2).toNat).toInt), .int (zI (xs (i + 3).toNat).toInt), .ref 52]) (rest := []) dL_law_2738 mlL_298 mdL_writeBits (w_writeBits hC (fun v M' h => (hP1 v M' h).elim fun z hz => ⟨z, hz.1⟩) (fun E M' h => (hP2 E M' h).elim fun c hc => ⟨c, hc.1⟩)) rfl (by decide) (by decide) (by show _ ≤ 601024; omega) (by show _ ≤ 7293033; omega) (Nat.le_of_ble_eq_true rfl) (fun v w' hq => ?_)
  rcases hq with ⟨z, M', rfl, hz, hw1, hw2⟩ | ⟨E, M', c, hWc, hE, rfl, rfl⟩
  · obtain ⟨z2, e2, hM⟩ := hP1 _ _ hz
    have e3 : zI z = zI z2 := by simpa using e2
    rw [← hw1] at hM
    refine l_istore dL_law_2741 (by decide) rfl ?_
    refine l_aload_n dL_law_2743 rfl ?_
    refine l_arg (j := 1) hs (by omega) (by omega) h2 dL_law_2744 dL_law_2745 dL_law_2747 dL_law_2748 dL_law_2749 rfl rfl ?_
    refine l_arg (j := 2) hs (by omega) (by omega) h2 dL_law_2750 dL_law_2751 dL_law_2753 dL_law_2754 dL_law_2755 rfl rfl ?_
    refine l_arg (j := 3) hs (by omega) (by omega) h2 dL_law_2756 dL_law_2757 dL_law_2759 dL_law_2760 dL_law_2761 rfl rfl ?_
    refine l_callM (av := [.int (zI (xs (i + 1).toNat).toInt), .int (zI (xs (i + 2).toNat).toInt), .int (zI (xs (i + 3).toNat).toInt)]) (o := 37) (rest := []) dL_law_2762 mlL_300 md_X8_writeBits hM rfl rfl rfl (by decide) (by decide) (by show _ ≤ 601024; omega) (by show _ ≤ 7293033; omega) (Nat.le_of_ble_eq_true rfl) (fun E M' h => h) (fun v M2 hq => ?_)
    obtain ⟨z', rfl, hz', h0, hI2⟩ := hq
    refine l_istore dL_law_2765 (by decide) rfl ?_
    refine l_aload_n dL_law_2767 rfl ?_
    refine l_callM (av := []) (o := 37) (rest := []) dL_law_2768 mlL_179 md_X8_thrown (m_thrown (M := M2)) rfl rfl rfl (by decide) (by decide) (by show _ ≤ 601024; omega) (by show _ ≤ 7293033; omega) (Nat.le_of_ble_eq_true rfl) (fun E M' h => h) (fun v M3 hq => ?_)
    obtain ⟨rfl, rfl⟩ := hq
    refine l_iload dL_law_2771 rfl ?_
    refine l_icmp_eqT (tgt := 2778) dL_law_2773 rfl (by rw [h0]) ?_
    refine l_iload dL_law_2778 rfl ?_
    refine l_if_ne (tgt := 2795) dL_law_2780 rfl (fun h => absurd (by decide) h) (fun _ => ?_)
    refine l_aload_n dL_law_2783 rfl ?_
    refine l_iconst dL_law_2784 ?_
    refine l_laload dL_law_2785 ?_
    refine l_iload dL_law_2786 rfl ?_
    refine l_i2l dL_law_2788 ?_
    refine l_lcmpE dL_law_2789 (by show w'.2.1 0 = (zI z').toInt64; rw [hw2, e3, hz']) ?_
    refine l_if_eq (tgt := 2795) dL_law_2790 rfl (fun _ => ?_) (fun h => absurd (by decide) h)
    refine l_goto (tgt := 3627) dL_law_2795 rfl ?_
    refine l_weak (L' := [some (.ref 54), some (.ref 0), some (.ref 37), some (.ref 52), some (.ref 53), some (.int (zI i)), none, none, none]) (by simp [wkB]) (l_widen (by omega) (by omega) (loop _ ?_))
    exact hI2
  · obtain ⟨c2, hW2, hM⟩ := hP2 _ _ hE
    have ec : c2 = c := W3_un hW2 hWc
    subst ec
    refine l_istore dL_law_2741 (by decide) rfl ?_
    refine l_aload_n dL_law_2743 rfl ?_
    refine l_arg (j := 1) hs (by omega) (by omega) h2 dL_law_2744 dL_law_2745 dL_law_2747 dL_law_2748 dL_law_2749 rfl rfl ?_
    refine l_arg (j := 2) hs (by omega) (by omega) h2 dL_law_2750 dL_law_2751 dL_law_2753 dL_law_2754 dL_law_2755 rfl rfl ?_
    refine l_arg (j := 3) hs (by omega) (by omega) h2 dL_law_2756 dL_law_2757 dL_law_2759 dL_law_2760 dL_law_2761 rfl rfl ?_
    refine l_callM (av := [.int (zI (xs (i + 1).toNat).toInt), .int (zI (xs (i + 2).toNat).toInt), .int (zI (xs (i + 3).toNat).toInt)]) (o := 37) (rest := []) dL_law_2762 mlL_300 md_X8_writeBits hM rfl rfl rfl (by decide) (by decide) (by show _ ≤ 601024; omega) (by show _ ≤ 7293033; omega) (Nat.le_of_ble_eq_true rfl) (fun E M' h => h) (fun v M2 hq => ?_)
    obtain ⟨z', rfl, h0, hI2⟩ := hq
    refine l_istore dL_law_2765 (by decide) rfl ?_
    refine l_aload_n dL_law_2767 rfl ?_
    refine l_callM (av := []) (o := 37) (rest := []) dL_law_2768 mlL_179 md_X8_thrown (m_thrown (M := M2)) rfl rfl rfl (by decide) (by decide) (by show _ ≤ 601024; omega) (by show _ ≤ 7293033; omega) (Nat.le_of_ble_eq_true rfl) (fun E M' h => h) (fun v M3 hq => ?_)
    obtain ⟨rfl, rfl⟩ := hq
    refine l_iload dL_law_2771 rfl ?_
    refine l_icmp_eqT (tgt := 2778) dL_law_2773 rfl (by rw [h0]) ?_
    refine l_iload dL_law_2778 rfl ?_
    refine l_if_ne (tgt := 2795) dL_law_2780 rfl (fun _ => ?_) (fun h => absurd h (W3_z hWc))
    refine l_goto (tgt := 3627) dL_law_2795 rfl ?_
    refine l_weak (L' := [some (.ref 54), some (.ref 0), some (.ref 37), some (.ref 52), some (.ref 53), some (.int (zI i)), none, none, none]) (by simp [wkB]) (l_widen (by omega) (by omega) (loop _ ?_))
    exact hI2
set_option maxHeartbeats 1000000 in
theorem lc_39 (hs : lScr X A Ls xs) (h2 : Ls ≤ 3072) (i0 : 0 ≤ i) (i6 : i + 6 ≤ Ls) (hI : Inv w.1) (hkc : kc + 6 ≤ 601024) (hks : ks + 36 ≤ 7293033) (loop : ∀ w' : lM, Inv w'.1 → LW X (cL_law, 9, rt, room_1, [], cy, A, Q) (kc + 6) (ks + 36) 3627 [some (.ref 54), some (.ref 0), some (.ref 37), some (.ref 52), some (.ref 53), some (.int (zI i)), none, none, none] [] w') : LW X (cL_law, 9, rt, room_1, [], cy, A, Q) kc ks 2798 [some (.ref 54), some (.ref 0), some (.ref 37), some (.ref 52), some (.ref 53), some (.int (zI i)), none, none, none] [] w := by
  obtain ⟨P', hC, hP1, hP2⟩ := p_writeTree hI (zR_of (xs (i + 1).toNat))
  refine l_aload_n dL_law_2798 rfl ?_
  refine l_arg (j := 1) hs (by omega) (by omega) h2 dL_law_2799 dL_law_2800 dL_law_2802 dL_law_2803 dL_law_2804 rfl rfl ?_
  refine l_aload_n dL_law_2805 rfl ?_
  refine l_callW (av := [.ref 0, .int (zI (xs (i + 1).toNat).toInt), .ref 52]) (rest := []) dL_law_2806 mlL_301 mdL_writeTree (w_writeTree hC (fun v M' h => (hP1 v M' h).elim fun z hz => ⟨z, hz.1⟩) (fun E M' h => (hP2 E M' h).elim fun c hc => ⟨c, hc.1⟩)) rfl (by decide) (by decide) (by show _ ≤ 601024; omega) (by show _ ≤ 7293033; omega) (Nat.le_of_ble_eq_true rfl) (fun v w' hq => ?_)
  rcases hq with ⟨z, M', rfl, hz, hw1, hw2⟩ | ⟨E, M', c, hWc, hE, rfl, rfl⟩
  · obtain ⟨z2, e2, hM⟩ := hP1 _ _ hz
    have e3 : zI z = zI z2 := by simpa using e2
    rw [← hw1] at hM
    refine l_istore dL_law_2809 (by decide) rfl ?_
    refine l_aload_n dL_law_2811 rfl ?_
    refine l_arg (j := 1) hs (by omega) (by omega) h2 dL_law_2812 dL_law_2813 dL_law_2815 dL_law_2816 dL_law_2817 rfl rfl ?_
    refine l_callM (av := [.int (zI (xs (i + 1).toNat).toInt)]) (o := 37) (rest := []) dL_law_2818 mlL_303 md_X8_writeTree hM rfl rfl rfl (by decide) (by decide) (by show _ ≤ 601024; omega) (by show _ ≤ 7293033; omega) (Nat.le_of_ble_eq_true rfl) (fun E M' h => h) (fun v M2 hq => ?_)
    obtain ⟨z', rfl, hz', h0, hI2⟩ := hq
    refine l_istore dL_law_2821 (by decide) rfl ?_
    refine l_aload_n dL_law_2823 rfl ?_
    refine l_callM (av := []) (o := 37) (rest := []) dL_law_2824 mlL_179 md_X8_thrown (m_thrown (M := M2)) rfl rfl rfl (by decide) (by decide) (by show _ ≤ 601024; omega) (by show _ ≤ 7293033; omega) (Nat.le_of_ble_eq_true rfl) (fun E M' h => h) (fun v M3 hq => ?_)
    obtain ⟨rfl, rfl⟩ := hq
    refine l_iload dL_law_2827 rfl ?_
    refine l_icmp_eqT (tgt := 2834) dL_law_2829 rfl (by rw [h0]) ?_
    refine l_iload dL_law_2834 rfl ?_
    refine l_if_ne (tgt := 2851) dL_law_2836 rfl (fun h => absurd (by decide) h) (fun _ => ?_)
    refine l_aload_n dL_law_2839 rfl ?_
    refine l_iconst dL_law_2840 ?_
    refine l_laload dL_law_2841 ?_
    refine l_iload dL_law_2842 rfl ?_
    refine l_i2l dL_law_2844 ?_
    refine l_lcmpE dL_law_2845 (by show w'.2.1 0 = (zI z').toInt64; rw [hw2, e3, hz']) ?_
    refine l_if_eq (tgt := 2851) dL_law_2846 rfl (fun _ => ?_) (fun h => absurd (by decide) h)
    refine l_goto (tgt := 3627) dL_law_2851 rfl ?_
    refine l_weak (L' := [some (.ref 54), some (.ref 0), some (.ref 37), some (.ref 52), some (.ref 53), some (.int (zI i)), none, none, none]) (by simp [wkB]) (l_widen (by omega) (by omega) (loop _ ?_))
    exact hI2
  · obtain ⟨c2, hW2, hM⟩ := hP2 _ _ hE
    have ec : c2 = c := W2_un hW2 hWc
    subst ec
    refine l_istore dL_law_2809 (by decide) rfl ?_
    refine l_aload_n dL_law_2811 rfl ?_
    refine l_arg (j := 1) hs (by omega) (by omega) h2 dL_law_2812 dL_law_2813 dL_law_2815 dL_law_2816 dL_law_2817 rfl rfl ?_
    refine l_callM (av := [.int (zI (xs (i + 1).toNat).toInt)]) (o := 37) (rest := []) dL_law_2818 mlL_303 md_X8_writeTree hM rfl rfl rfl (by decide) (by decide) (by show _ ≤ 601024; omega) (by show _ ≤ 7293033; omega) (Nat.le_of_ble_eq_true rfl) (fun E M' h => h) (fun v M2 hq => ?_)
    obtain ⟨z', rfl, h0, hI2⟩ := hq
    refine l_istore dL_law_2821 (by decide) rfl ?_
    refine l_aload_n dL_law_2823 rfl ?_
    refine l_callM (av := []) (o := 37) (rest := []) dL_law_2824 mlL_179 md_X8_thrown (m_thrown (M := M2)) rfl rfl rfl (by decide) (by decide) (by show _ ≤ 601024; omega) (by show _ ≤ 7293033; omega) (Nat.le_of_ble_eq_true rfl) (fun E M' h => h) (fun v M3 hq => ?_)
    obtain ⟨rfl, rfl⟩ := hq
    refine l_iload dL_law_2827 rfl ?_
    refine l_icmp_eqT (tgt := 2834) dL_law_2829 rfl (by rw [h0]) ?_
    refine l_iload dL_law_2834 rfl ?_
    refine l_if_ne (tgt := 2851) dL_law_2836 rfl (fun _ => ?_) (fun h => absurd h (W2_z hWc))
    refine l_goto (tgt := 3627) dL_law_2851 rfl ?_
    refine l_weak (L' := [some (.ref 54), some (.ref 0), some (.ref 37), some (.ref 52), some (.ref 53), some (.int (zI i)), none, none, none]) (by simp [wkB]) (l_widen (by omega) (by omega) (loop _ ?_))
    exact hI2
set_option maxHeartbeats 1000000 in
theorem lc_40 (hs : lScr X A Ls xs) (h2 : Ls ≤ 3072) (i0 : 0 ≤ i) (i6 : i + 6 ≤ Ls) (hI : Inv w.1) (hkc : kc + 6 ≤ 601024) (hks : ks + 36 ≤ 7293033) (loop : ∀ w' : lM, Inv w'.1 → LW X (cL_law, 9, rt, room_1, [], cy, A, Q) (kc + 6) (ks + 36) 3627 [some (.ref 54), some (.ref 0), some (.ref 37), some (.ref 52), some (.ref 53), some (.int (zI i)), none, none, none] [] w') : LW X (cL_law, 9, rt, room_1, [], cy, A, Q) kc ks 2854 [some (.ref 54), some (.ref 0), some (.ref 37), some (.ref 52), some (.ref 53), some (.int (zI i)), none, none, none] [] w := by
  obtain ⟨P', hC, hP1, hP2⟩ := p_textByte hI (zR_of (xs (i + 1).toNat))
  refine l_aload_n dL_law_2854 rfl ?_
  refine l_arg (j := 1) hs (by omega) (by omega) h2 dL_law_2855 dL_law_2856 dL_law_2858 dL_law_2859 dL_law_2860 rfl rfl ?_
  refine l_aload_n dL_law_2861 rfl ?_
  refine l_callW (av := [.ref 0, .int (zI (xs (i + 1).toNat).toInt), .ref 52]) (rest := []) dL_law_2862 mlL_304 mdL_textByte (w_textByte hC (fun v M' h => (hP1 v M' h).elim fun z hz => ⟨z, hz.1⟩) (fun E M' h => (hP2 E M' h).elim fun c hc => ⟨c, hc.1⟩)) rfl (by decide) (by decide) (by show _ ≤ 601024; omega) (by show _ ≤ 7293033; omega) (Nat.le_of_ble_eq_true rfl) (fun v w' hq => ?_)
  rcases hq with ⟨z, M', rfl, hz, hw1, hw2⟩ | ⟨E, M', c, hWc, hE, rfl, rfl⟩
  · obtain ⟨z2, e2, hM⟩ := hP1 _ _ hz
    have e3 : zI z = zI z2 := by simpa using e2
    rw [← hw1] at hM
    refine l_istore dL_law_2865 (by decide) rfl ?_
    refine l_aload_n dL_law_2867 rfl ?_
    refine l_arg (j := 1) hs (by omega) (by omega) h2 dL_law_2868 dL_law_2869 dL_law_2871 dL_law_2872 dL_law_2873 rfl rfl ?_
    refine l_callM (av := [.int (zI (xs (i + 1).toNat).toInt)]) (o := 37) (rest := []) dL_law_2874 mlL_306 md_X8_textByte hM rfl rfl rfl (by decide) (by decide) (by show _ ≤ 601024; omega) (by show _ ≤ 7293033; omega) (Nat.le_of_ble_eq_true rfl) (fun E M' h => h) (fun v M2 hq => ?_)
    obtain ⟨z', rfl, hz', h0, hI2⟩ := hq
    refine l_istore dL_law_2877 (by decide) rfl ?_
    refine l_aload_n dL_law_2879 rfl ?_
    refine l_callM (av := []) (o := 37) (rest := []) dL_law_2880 mlL_179 md_X8_thrown (m_thrown (M := M2)) rfl rfl rfl (by decide) (by decide) (by show _ ≤ 601024; omega) (by show _ ≤ 7293033; omega) (Nat.le_of_ble_eq_true rfl) (fun E M' h => h) (fun v M3 hq => ?_)
    obtain ⟨rfl, rfl⟩ := hq
    refine l_iload dL_law_2883 rfl ?_
    refine l_icmp_eqT (tgt := 2890) dL_law_2885 rfl (by rw [h0]) ?_
    refine l_iload dL_law_2890 rfl ?_
    refine l_if_ne (tgt := 2907) dL_law_2892 rfl (fun h => absurd (by decide) h) (fun _ => ?_)
    refine l_aload_n dL_law_2895 rfl ?_
    refine l_iconst dL_law_2896 ?_
    refine l_laload dL_law_2897 ?_
    refine l_iload dL_law_2898 rfl ?_
    refine l_i2l dL_law_2900 ?_
    refine l_lcmpE dL_law_2901 (by show w'.2.1 0 = (zI z').toInt64; rw [hw2, e3, hz']) ?_
    refine l_if_eq (tgt := 2907) dL_law_2902 rfl (fun _ => ?_) (fun h => absurd (by decide) h)
    refine l_goto (tgt := 3627) dL_law_2907 rfl ?_
    refine l_weak (L' := [some (.ref 54), some (.ref 0), some (.ref 37), some (.ref 52), some (.ref 53), some (.int (zI i)), none, none, none]) (by simp [wkB]) (l_widen (by omega) (by omega) (loop _ ?_))
    exact hI2
  · obtain ⟨c2, hW2, hM⟩ := hP2 _ _ hE
    have ec : c2 = c := Wt_un hW2 hWc
    subst ec
    refine l_istore dL_law_2865 (by decide) rfl ?_
    refine l_aload_n dL_law_2867 rfl ?_
    refine l_arg (j := 1) hs (by omega) (by omega) h2 dL_law_2868 dL_law_2869 dL_law_2871 dL_law_2872 dL_law_2873 rfl rfl ?_
    refine l_callM (av := [.int (zI (xs (i + 1).toNat).toInt)]) (o := 37) (rest := []) dL_law_2874 mlL_306 md_X8_textByte hM rfl rfl rfl (by decide) (by decide) (by show _ ≤ 601024; omega) (by show _ ≤ 7293033; omega) (Nat.le_of_ble_eq_true rfl) (fun E M' h => h) (fun v M2 hq => ?_)
    obtain ⟨z', rfl, h0, hI2⟩ := hq
    refine l_istore dL_law_2877 (by decide) rfl ?_
    refine l_aload_n dL_law_2879 rfl ?_
    refine l_callM (av := []) (o := 37) (rest := []) dL_law_2880 mlL_179 md_X8_thrown (m_thrown (M := M2)) rfl rfl rfl (by decide) (by decide) (by show _ ≤ 601024; omega) (by show _ ≤ 7293033; omega) (Nat.le_of_ble_eq_true rfl) (fun E M' h => h) (fun v M3 hq => ?_)
    obtain ⟨rfl, rfl⟩ := hq
    refine l_iload dL_law_2883 rfl ?_
    refine l_icmp_eqT (tgt := 2890) dL_law_2885 rfl (by rw [h0]) ?_
    refine l_iload dL_law_2890 rfl ?_
    refine l_if_ne (tgt := 2907) dL_law_2892 rfl (fun _ => ?_) (fun h => absurd h (Wt_z hWc))
    refine l_goto (tgt := 3627) dL_law_2907 rfl ?_
    refine l_weak (L' := [some (.ref 54), some (.ref 0), some (.ref 37), some (.ref 52), some (.ref 53), some (.int (zI i)), none, none, none]) (by simp [wkB]) (l_widen (by omega) (by omega) (loop _ ?_))
    exact hI2
set_option maxHeartbeats 1000000 in
theorem lc_41 (hs : lScr X A Ls xs) (h2 : Ls ≤ 3072) (i0 : 0 ≤ i) (i6 : i + 6 ≤ Ls) (hI : Inv w.1) (hkc : kc + 6 ≤ 601024) (hks : ks + 36 ≤ 7293033) (loop : ∀ w' : lM, Inv w'.1 → LW X (cL_law, 9, rt, room_1, [], cy, A, Q) (kc + 6) (ks + 36) 3627 [some (.ref 54), some (.ref 0), some (.ref 37), some (.ref 52), some (.ref 53), some (.int (zI i)), none, none, none] [] w') : LW X (cL_law, 9, rt, room_1, [], cy, A, Q) kc ks 2910 [some (.ref 54), some (.ref 0), some (.ref 37), some (.ref 52), some (.ref 53), some (.int (zI i)), none, none, none] [] w := by
  obtain ⟨P', hC, hP1, hP2⟩ := p_fill hI (zR_of (xs (i + 1).toNat)) (zR_of (xs (i + 2).toNat)) (zR_of (xs (i + 3).toNat)) (zR_of (xs (i + 4).toNat))
  refine l_aload_n dL_law_2910 rfl ?_
  refine l_arg (j := 1) hs (by omega) (by omega) h2 dL_law_2911 dL_law_2912 dL_law_2914 dL_law_2915 dL_law_2916 rfl rfl ?_
  refine l_arg (j := 2) hs (by omega) (by omega) h2 dL_law_2917 dL_law_2918 dL_law_2920 dL_law_2921 dL_law_2922 rfl rfl ?_
  refine l_arg (j := 3) hs (by omega) (by omega) h2 dL_law_2923 dL_law_2924 dL_law_2926 dL_law_2927 dL_law_2928 rfl rfl ?_
  refine l_arg (j := 4) hs (by omega) (by omega) h2 dL_law_2929 dL_law_2930 dL_law_2932 dL_law_2933 dL_law_2934 rfl rfl ?_
  refine l_aload_n dL_law_2935 rfl ?_
  refine l_callW (av := [.ref 0, .int (zI (xs (i + 1).toNat).toInt), .int (zI (xs (i + 2).toNat).toInt), .int (zI (xs (i + 3).toNat).toInt), .int (zI (xs (i + 4).toNat).toInt), .ref 52]) (rest := []) dL_law_2936 mlL_307 mdL_fill (w_fill hC (fun v M' h => (hP1 v M' h).elim fun z hz => ⟨z, hz.1⟩) (fun E M' h => (hP2 E M' h).elim fun c hc => ⟨c, hc.1⟩)) rfl (by decide) (by decide) (by show _ ≤ 601024; omega) (by show _ ≤ 7293033; omega) (Nat.le_of_ble_eq_true rfl) (fun v w' hq => ?_)
  rcases hq with ⟨z, M', rfl, hz, hw1, hw2⟩ | ⟨E, M', c, hWc, hE, rfl, rfl⟩
  · obtain ⟨z2, e2, hM⟩ := hP1 _ _ hz
    have e3 : zI z = zI z2 := by simpa using e2
    rw [← hw1] at hM
    refine l_istore dL_law_2939 (by decide) rfl ?_
    refine l_aload_n dL_law_2941 rfl ?_
    refine l_arg (j := 1) hs (by omega) (by omega) h2 dL_law_2942 dL_law_2943 dL_law_2945 dL_law_2946 dL_law_2947 rfl rfl ?_
    refine l_arg (j := 2) hs (by omega) (by omega) h2 dL_law_2948 dL_law_2949 dL_law_2951 dL_law_2952 dL_law_2953 rfl rfl ?_
    refine l_arg (j := 3) hs (by omega) (by omega) h2 dL_law_2954 dL_law_2955 dL_law_2957 dL_law_2958 dL_law_2959 rfl rfl ?_
    refine l_arg (j := 4) hs (by omega) (by omega) h2 dL_law_2960 dL_law_2961 dL_law_2963 dL_law_2964 dL_law_2965 rfl rfl ?_
    refine l_callM (av := [.int (zI (xs (i + 1).toNat).toInt), .int (zI (xs (i + 2).toNat).toInt), .int (zI (xs (i + 3).toNat).toInt), .int (zI (xs (i + 4).toNat).toInt)]) (o := 37) (rest := []) dL_law_2966 mlL_309 md_X8_fill hM rfl rfl rfl (by decide) (by decide) (by show _ ≤ 601024; omega) (by show _ ≤ 7293033; omega) (Nat.le_of_ble_eq_true rfl) (fun E M' h => h) (fun v M2 hq => ?_)
    obtain ⟨z', rfl, hz', h0, hI2⟩ := hq
    refine l_istore dL_law_2969 (by decide) rfl ?_
    refine l_aload_n dL_law_2971 rfl ?_
    refine l_callM (av := []) (o := 37) (rest := []) dL_law_2972 mlL_179 md_X8_thrown (m_thrown (M := M2)) rfl rfl rfl (by decide) (by decide) (by show _ ≤ 601024; omega) (by show _ ≤ 7293033; omega) (Nat.le_of_ble_eq_true rfl) (fun E M' h => h) (fun v M3 hq => ?_)
    obtain ⟨rfl, rfl⟩ := hq
    refine l_iload dL_law_2975 rfl ?_
    refine l_icmp_eqT (tgt := 2982) dL_law_2977 rfl (by rw [h0]) ?_
    refine l_iload dL_law_2982 rfl ?_
    refine l_if_ne (tgt := 2999) dL_law_2984 rfl (fun h => absurd (by decide) h) (fun _ => ?_)
    refine l_aload_n dL_law_2987 rfl ?_
    refine l_iconst dL_law_2988 ?_
    refine l_laload dL_law_2989 ?_
    refine l_iload dL_law_2990 rfl ?_
    refine l_i2l dL_law_2992 ?_
    refine l_lcmpE dL_law_2993 (by show w'.2.1 0 = (zI z').toInt64; rw [hw2, e3, hz']) ?_
    refine l_if_eq (tgt := 2999) dL_law_2994 rfl (fun _ => ?_) (fun h => absurd (by decide) h)
    refine l_goto (tgt := 3627) dL_law_2999 rfl ?_
    refine l_weak (L' := [some (.ref 54), some (.ref 0), some (.ref 37), some (.ref 52), some (.ref 53), some (.int (zI i)), none, none, none]) (by simp [wkB]) (l_widen (by omega) (by omega) (loop _ ?_))
    exact hI2
  · obtain ⟨c2, hW2, hM⟩ := hP2 _ _ hE
    have ec : c2 = c := W3_un hW2 hWc
    subst ec
    refine l_istore dL_law_2939 (by decide) rfl ?_
    refine l_aload_n dL_law_2941 rfl ?_
    refine l_arg (j := 1) hs (by omega) (by omega) h2 dL_law_2942 dL_law_2943 dL_law_2945 dL_law_2946 dL_law_2947 rfl rfl ?_
    refine l_arg (j := 2) hs (by omega) (by omega) h2 dL_law_2948 dL_law_2949 dL_law_2951 dL_law_2952 dL_law_2953 rfl rfl ?_
    refine l_arg (j := 3) hs (by omega) (by omega) h2 dL_law_2954 dL_law_2955 dL_law_2957 dL_law_2958 dL_law_2959 rfl rfl ?_
    refine l_arg (j := 4) hs (by omega) (by omega) h2 dL_law_2960 dL_law_2961 dL_law_2963 dL_law_2964 dL_law_2965 rfl rfl ?_
    refine l_callM (av := [.int (zI (xs (i + 1).toNat).toInt), .int (zI (xs (i + 2).toNat).toInt), .int (zI (xs (i + 3).toNat).toInt), .int (zI (xs (i + 4).toNat).toInt)]) (o := 37) (rest := []) dL_law_2966 mlL_309 md_X8_fill hM rfl rfl rfl (by decide) (by decide) (by show _ ≤ 601024; omega) (by show _ ≤ 7293033; omega) (Nat.le_of_ble_eq_true rfl) (fun E M' h => h) (fun v M2 hq => ?_)
    obtain ⟨z', rfl, h0, hI2⟩ := hq
    refine l_istore dL_law_2969 (by decide) rfl ?_
    refine l_aload_n dL_law_2971 rfl ?_
    refine l_callM (av := []) (o := 37) (rest := []) dL_law_2972 mlL_179 md_X8_thrown (m_thrown (M := M2)) rfl rfl rfl (by decide) (by decide) (by show _ ≤ 601024; omega) (by show _ ≤ 7293033; omega) (Nat.le_of_ble_eq_true rfl) (fun E M' h => h) (fun v M3 hq => ?_)
    obtain ⟨rfl, rfl⟩ := hq
    refine l_iload dL_law_2975 rfl ?_
    refine l_icmp_eqT (tgt := 2982) dL_law_2977 rfl (by rw [h0]) ?_
    refine l_iload dL_law_2982 rfl ?_
    refine l_if_ne (tgt := 2999) dL_law_2984 rfl (fun _ => ?_) (fun h => absurd h (W3_z hWc))
    refine l_goto (tgt := 3627) dL_law_2999 rfl ?_
    refine l_weak (L' := [some (.ref 54), some (.ref 0), some (.ref 37), some (.ref 52), some (.ref 53), some (.int (zI i)), none, none, none]) (by simp [wkB]) (l_widen (by omega) (by omega) (loop _ ?_))
    exact hI2
set_option maxHeartbeats 1000000 in
theorem lc_42 (hs : lScr X A Ls xs) (h2 : Ls ≤ 3072) (i0 : 0 ≤ i) (i6 : i + 6 ≤ Ls) (hI : Inv w.1) (hkc : kc + 6 ≤ 601024) (hks : ks + 36 ≤ 7293033) (loop : ∀ w' : lM, Inv w'.1 → LW X (cL_law, 9, rt, room_1, [], cy, A, Q) (kc + 6) (ks + 36) 3627 [some (.ref 54), some (.ref 0), some (.ref 37), some (.ref 52), some (.ref 53), some (.int (zI i)), none, none, none] [] w') : LW X (cL_law, 9, rt, room_1, [], cy, A, Q) kc ks 3002 [some (.ref 54), some (.ref 0), some (.ref 37), some (.ref 52), some (.ref 53), some (.int (zI i)), none, none, none] [] w := by
  obtain ⟨P', hC, hP1, hP2⟩ := p_flip hI (zR_of (xs (i + 1).toNat)) (zR_of (xs (i + 2).toNat)) (zR_of (xs (i + 3).toNat))
  refine l_aload_n dL_law_3002 rfl ?_
  refine l_arg (j := 1) hs (by omega) (by omega) h2 dL_law_3003 dL_law_3004 dL_law_3006 dL_law_3007 dL_law_3008 rfl rfl ?_
  refine l_arg (j := 2) hs (by omega) (by omega) h2 dL_law_3009 dL_law_3010 dL_law_3012 dL_law_3013 dL_law_3014 rfl rfl ?_
  refine l_arg (j := 3) hs (by omega) (by omega) h2 dL_law_3015 dL_law_3016 dL_law_3018 dL_law_3019 dL_law_3020 rfl rfl ?_
  refine l_aload_n dL_law_3021 rfl ?_
  refine l_callW (av := [.ref 0, .int (zI (xs (i + 1).toNat).toInt), .int (zI (xs (i + 2).toNat).toInt), .int (zI (xs (i + 3).toNat).toInt), .ref 52]) (rest := []) dL_law_3022 mlL_310 mdL_flip (w_flip hC (fun v M' h => (hP1 v M' h).elim fun z hz => ⟨z, hz.1⟩) (fun E M' h => (hP2 E M' h).elim fun c hc => ⟨c, hc.1⟩)) rfl (by decide) (by decide) (by show _ ≤ 601024; omega) (by show _ ≤ 7293033; omega) (Nat.le_of_ble_eq_true rfl) (fun v w' hq => ?_)
  rcases hq with ⟨z, M', rfl, hz, hw1, hw2⟩ | ⟨E, M', c, hWc, hE, rfl, rfl⟩
  · obtain ⟨z2, e2, hM⟩ := hP1 _ _ hz
    have e3 : zI z = zI z2 := by simpa using e2
    rw [← hw1] at hM
    refine l_istore dL_law_3025 (by decide) rfl ?_
    refine l_aload_n dL_law_3027 rfl ?_
    refine l_arg (j := 1) hs (by omega) (by omega) h2 dL_law_3028 dL_law_3029 dL_law_3031 dL_law_3032 dL_law_3033 rfl rfl ?_
    refine l_arg (j := 2) hs (by omega) (by omega) h2 dL_law_3034 dL_law_3035 dL_law_3037 dL_law_3038 dL_law_3039 rfl rfl ?_
    refine l_arg (j := 3) hs (by omega) (by omega) h2 dL_law_3040 dL_law_3041 dL_law_3043 dL_law_3044 dL_law_3045 rfl rfl ?_
    refine l_callM (av := [.int (zI (xs (i + 1).toNat).toInt), .int (zI (xs (i + 2).toNat).toInt), .int (zI (xs (i + 3).toNat).toInt)]) (o := 37) (rest := []) dL_law_3046 mlL_312 md_X8_flip hM rfl rfl rfl (by decide) (by decide) (by show _ ≤ 601024; omega) (by show _ ≤ 7293033; omega) (Nat.le_of_ble_eq_true rfl) (fun E M' h => h) (fun v M2 hq => ?_)
    obtain ⟨z', rfl, hz', h0, hI2⟩ := hq
    refine l_istore dL_law_3049 (by decide) rfl ?_
    refine l_aload_n dL_law_3051 rfl ?_
    refine l_callM (av := []) (o := 37) (rest := []) dL_law_3052 mlL_179 md_X8_thrown (m_thrown (M := M2)) rfl rfl rfl (by decide) (by decide) (by show _ ≤ 601024; omega) (by show _ ≤ 7293033; omega) (Nat.le_of_ble_eq_true rfl) (fun E M' h => h) (fun v M3 hq => ?_)
    obtain ⟨rfl, rfl⟩ := hq
    refine l_iload dL_law_3055 rfl ?_
    refine l_icmp_eqT (tgt := 3062) dL_law_3057 rfl (by rw [h0]) ?_
    refine l_iload dL_law_3062 rfl ?_
    refine l_if_ne (tgt := 3079) dL_law_3064 rfl (fun h => absurd (by decide) h) (fun _ => ?_)
    refine l_aload_n dL_law_3067 rfl ?_
    refine l_iconst dL_law_3068 ?_
    refine l_laload dL_law_3069 ?_
    refine l_iload dL_law_3070 rfl ?_
    refine l_i2l dL_law_3072 ?_
    refine l_lcmpE dL_law_3073 (by show w'.2.1 0 = (zI z').toInt64; rw [hw2, e3, hz']) ?_
    refine l_if_eq (tgt := 3079) dL_law_3074 rfl (fun _ => ?_) (fun h => absurd (by decide) h)
    refine l_goto (tgt := 3627) dL_law_3079 rfl ?_
    refine l_weak (L' := [some (.ref 54), some (.ref 0), some (.ref 37), some (.ref 52), some (.ref 53), some (.int (zI i)), none, none, none]) (by simp [wkB]) (l_widen (by omega) (by omega) (loop _ ?_))
    exact hI2
  · obtain ⟨c2, hW2, hM⟩ := hP2 _ _ hE
    have ec : c2 = c := W2_un hW2 hWc
    subst ec
    refine l_istore dL_law_3025 (by decide) rfl ?_
    refine l_aload_n dL_law_3027 rfl ?_
    refine l_arg (j := 1) hs (by omega) (by omega) h2 dL_law_3028 dL_law_3029 dL_law_3031 dL_law_3032 dL_law_3033 rfl rfl ?_
    refine l_arg (j := 2) hs (by omega) (by omega) h2 dL_law_3034 dL_law_3035 dL_law_3037 dL_law_3038 dL_law_3039 rfl rfl ?_
    refine l_arg (j := 3) hs (by omega) (by omega) h2 dL_law_3040 dL_law_3041 dL_law_3043 dL_law_3044 dL_law_3045 rfl rfl ?_
    refine l_callM (av := [.int (zI (xs (i + 1).toNat).toInt), .int (zI (xs (i + 2).toNat).toInt), .int (zI (xs (i + 3).toNat).toInt)]) (o := 37) (rest := []) dL_law_3046 mlL_312 md_X8_flip hM rfl rfl rfl (by decide) (by decide) (by show _ ≤ 601024; omega) (by show _ ≤ 7293033; omega) (Nat.le_of_ble_eq_true rfl) (fun E M' h => h) (fun v M2 hq => ?_)
    obtain ⟨z', rfl, h0, hI2⟩ := hq
    refine l_istore dL_law_3049 (by decide) rfl ?_
    refine l_aload_n dL_law_3051 rfl ?_
    refine l_callM (av := []) (o := 37) (rest := []) dL_law_3052 mlL_179 md_X8_thrown (m_thrown (M := M2)) rfl rfl rfl (by decide) (by decide) (by show _ ≤ 601024; omega) (by show _ ≤ 7293033; omega) (Nat.le_of_ble_eq_true rfl) (fun E M' h => h) (fun v M3 hq => ?_)
    obtain ⟨rfl, rfl⟩ := hq
    refine l_iload dL_law_3055 rfl ?_
    refine l_icmp_eqT (tgt := 3062) dL_law_3057 rfl (by rw [h0]) ?_
    refine l_iload dL_law_3062 rfl ?_
    refine l_if_ne (tgt := 3079) dL_law_3064 rfl (fun _ => ?_) (fun h => absurd h (W2_z hWc))
    refine l_goto (tgt := 3627) dL_law_3079 rfl ?_
    refine l_weak (L' := [some (.ref 54), some (.ref 0), some (.ref 37), some (.ref 52), some (.ref 53), some (.int (zI i)), none, none, none]) (by simp [wkB]) (l_widen (by omega) (by omega) (loop _ ?_))
    exact hI2
set_option maxHeartbeats 1000000 in
theorem lc_43 (hs : lScr X A Ls xs) (h2 : Ls ≤ 3072) (i0 : 0 ≤ i) (i6 : i + 6 ≤ Ls) (hI : Inv w.1) (hkc : kc + 6 ≤ 601024) (hks : ks + 36 ≤ 7293033) (loop : ∀ w' : lM, Inv w'.1 → LW X (cL_law, 9, rt, room_1, [], cy, A, Q) (kc + 6) (ks + 36) 3627 [some (.ref 54), some (.ref 0), some (.ref 37), some (.ref 52), some (.ref 53), some (.int (zI i)), none, none, none] [] w') : LW X (cL_law, 9, rt, room_1, [], cy, A, Q) kc ks 3082 [some (.ref 54), some (.ref 0), some (.ref 37), some (.ref 52), some (.ref 53), some (.int (zI i)), none, none, none] [] w := by
  obtain ⟨P', hC, hP1, hP2⟩ := p_combine hI (zR_of (xs (i + 2).toNat)) (zR_of (xs (i + 3).toNat)) (zR_of (xs (i + 4).toNat)) (zR_of (xs (i + 1).toNat))
  refine l_aload_n dL_law_3082 rfl ?_
  refine l_arg (j := 1) hs (by omega) (by omega) h2 dL_law_3083 dL_law_3084 dL_law_3086 dL_law_3087 dL_law_3088 rfl rfl ?_
  refine l_arg (j := 2) hs (by omega) (by omega) h2 dL_law_3089 dL_law_3090 dL_law_3092 dL_law_3093 dL_law_3094 rfl rfl ?_
  refine l_arg (j := 3) hs (by omega) (by omega) h2 dL_law_3095 dL_law_3096 dL_law_3098 dL_law_3099 dL_law_3100 rfl rfl ?_
  refine l_arg (j := 4) hs (by omega) (by omega) h2 dL_law_3101 dL_law_3102 dL_law_3104 dL_law_3105 dL_law_3106 rfl rfl ?_
  refine l_aload_n dL_law_3107 rfl ?_
  refine l_callW (av := [.ref 0, .int (zI (xs (i + 1).toNat).toInt), .int (zI (xs (i + 2).toNat).toInt), .int (zI (xs (i + 3).toNat).toInt), .int (zI (xs (i + 4).toNat).toInt), .ref 52]) (rest := []) dL_law_3108 mlL_313 mdL_combine (w_combine hC (fun v M' h => (hP1 v M' h).elim fun z hz => ⟨z, hz.1⟩) (fun E M' h => (hP2 E M' h).elim fun c hc => ⟨c, hc.1⟩)) rfl (by decide) (by decide) (by show _ ≤ 601024; omega) (by show _ ≤ 7293033; omega) (Nat.le_of_ble_eq_true rfl) (fun v w' hq => ?_)
  rcases hq with ⟨z, M', rfl, hz, hw1, hw2⟩ | ⟨E, M', c, hWc, hE, rfl, rfl⟩
  · obtain ⟨z2, e2, hM⟩ := hP1 _ _ hz
    have e3 : zI z = zI z2 := by simpa using e2
    rw [← hw1] at hM
    refine l_istore dL_law_3111 (by decide) rfl ?_
    refine l_aload_n dL_law_3113 rfl ?_
    refine l_arg (j := 1) hs (by omega) (by omega) h2 dL_law_3114 dL_law_3115 dL_law_3117 dL_law_3118 dL_law_3119 rfl rfl ?_
    refine l_arg (j := 2) hs (by omega) (by omega) h2 dL_law_3120 dL_law_3121 dL_law_3123 dL_law_3124 dL_law_3125 rfl rfl ?_
    refine l_arg (j := 3) hs (by omega) (by omega) h2 dL_law_3126 dL_law_3127 dL_law_3129 dL_law_3130 dL_law_3131 rfl rfl ?_
    refine l_arg (j := 4) hs (by omega) (by omega) h2 dL_law_3132 dL_law_3133 dL_law_3135 dL_law_3136 dL_law_3137 rfl rfl ?_
    refine l_callM (av := [.int (zI (xs (i + 1).toNat).toInt), .int (zI (xs (i + 2).toNat).toInt), .int (zI (xs (i + 3).toNat).toInt), .int (zI (xs (i + 4).toNat).toInt)]) (o := 37) (rest := []) dL_law_3138 mlL_315 md_X8_combine hM rfl rfl rfl (by decide) (by decide) (by show _ ≤ 601024; omega) (by show _ ≤ 7293033; omega) (Nat.le_of_ble_eq_true rfl) (fun E M' h => h) (fun v M2 hq => ?_)
    obtain ⟨z', rfl, hz', h0, hI2⟩ := hq
    refine l_istore dL_law_3141 (by decide) rfl ?_
    refine l_aload_n dL_law_3143 rfl ?_
    refine l_callM (av := []) (o := 37) (rest := []) dL_law_3144 mlL_179 md_X8_thrown (m_thrown (M := M2)) rfl rfl rfl (by decide) (by decide) (by show _ ≤ 601024; omega) (by show _ ≤ 7293033; omega) (Nat.le_of_ble_eq_true rfl) (fun E M' h => h) (fun v M3 hq => ?_)
    obtain ⟨rfl, rfl⟩ := hq
    refine l_iload dL_law_3147 rfl ?_
    refine l_icmp_eqT (tgt := 3154) dL_law_3149 rfl (by rw [h0]) ?_
    refine l_iload dL_law_3154 rfl ?_
    refine l_if_ne (tgt := 3171) dL_law_3156 rfl (fun h => absurd (by decide) h) (fun _ => ?_)
    refine l_aload_n dL_law_3159 rfl ?_
    refine l_iconst dL_law_3160 ?_
    refine l_laload dL_law_3161 ?_
    refine l_iload dL_law_3162 rfl ?_
    refine l_i2l dL_law_3164 ?_
    refine l_lcmpE dL_law_3165 (by show w'.2.1 0 = (zI z').toInt64; rw [hw2, e3, hz']) ?_
    refine l_if_eq (tgt := 3171) dL_law_3166 rfl (fun _ => ?_) (fun h => absurd (by decide) h)
    refine l_goto (tgt := 3627) dL_law_3171 rfl ?_
    refine l_weak (L' := [some (.ref 54), some (.ref 0), some (.ref 37), some (.ref 52), some (.ref 53), some (.int (zI i)), none, none, none]) (by simp [wkB]) (l_widen (by omega) (by omega) (loop _ ?_))
    exact hI2
  · obtain ⟨c2, hW2, hM⟩ := hP2 _ _ hE
    have ec : c2 = c := W3_un hW2 hWc
    subst ec
    refine l_istore dL_law_3111 (by decide) rfl ?_
    refine l_aload_n dL_law_3113 rfl ?_
    refine l_arg (j := 1) hs (by omega) (by omega) h2 dL_law_3114 dL_law_3115 dL_law_3117 dL_law_3118 dL_law_3119 rfl rfl ?_
    refine l_arg (j := 2) hs (by omega) (by omega) h2 dL_law_3120 dL_law_3121 dL_law_3123 dL_law_3124 dL_law_3125 rfl rfl ?_
    refine l_arg (j := 3) hs (by omega) (by omega) h2 dL_law_3126 dL_law_3127 dL_law_3129 dL_law_3130 dL_law_3131 rfl rfl ?_
    refine l_arg (j := 4) hs (by omega) (by omega) h2 dL_law_3132 dL_law_3133 dL_law_3135 dL_law_3136 dL_law_3137 rfl rfl ?_
    refine l_callM (av := [.int (zI (xs (i + 1).toNat).toInt), .int (zI (xs (i + 2).toNat).toInt), .int (zI (xs (i + 3).toNat).toInt), .int (zI (xs (i + 4).toNat).toInt)]) (o := 37) (rest := []) dL_law_3138 mlL_315 md_X8_combine hM rfl rfl rfl (by decide) (by decide) (by show _ ≤ 601024; omega) (by show _ ≤ 7293033; omega) (Nat.le_of_ble_eq_true rfl) (fun E M' h => h) (fun v M2 hq => ?_)
    obtain ⟨z', rfl, h0, hI2⟩ := hq
    refine l_istore dL_law_3141 (by decide) rfl ?_
    refine l_aload_n dL_law_3143 rfl ?_
    refine l_callM (av := []) (o := 37) (rest := []) dL_law_3144 mlL_179 md_X8_thrown (m_thrown (M := M2)) rfl rfl rfl (by decide) (by decide) (by show _ ≤ 601024; omega) (by show _ ≤ 7293033; omega) (Nat.le_of_ble_eq_true rfl) (fun E M' h => h) (fun v M3 hq => ?_)
    obtain ⟨rfl, rfl⟩ := hq
    refine l_iload dL_law_3147 rfl ?_
    refine l_icmp_eqT (tgt := 3154) dL_law_3149 rfl (by rw [h0]) ?_
    refine l_iload dL_law_3154 rfl ?_
    refine l_if_ne (tgt := 3171) dL_law_3156 rfl (fun _ => ?_) (fun h => absurd h (W3_z hWc))
    refine l_goto (tgt := 3627) dL_law_3171 rfl ?_
    refine l_weak (L' := [some (.ref 54), some (.ref 0), some (.ref 37), some (.ref 52), some (.ref 53), some (.int (zI i)), none, none, none]) (by simp [wkB]) (l_widen (by omega) (by omega) (loop _ ?_))
    exact hI2
set_option maxHeartbeats 1000000 in
theorem lc_44 (hs : lScr X A Ls xs) (h2 : Ls ≤ 3072) (i0 : 0 ≤ i) (i6 : i + 6 ≤ Ls) (hI : Inv w.1) (hkc : kc + 6 ≤ 601024) (hks : ks + 36 ≤ 7293033) (loop : ∀ w' : lM, Inv w'.1 → LW X (cL_law, 9, rt, room_1, [], cy, A, Q) (kc + 6) (ks + 36) 3627 [some (.ref 54), some (.ref 0), some (.ref 37), some (.ref 52), some (.ref 53), some (.int (zI i)), none, none, none] [] w') : LW X (cL_law, 9, rt, room_1, [], cy, A, Q) kc ks 3174 [some (.ref 54), some (.ref 0), some (.ref 37), some (.ref 52), some (.ref 53), some (.int (zI i)), none, none, none] [] w := by
  obtain ⟨P', hC, hP1, hP2⟩ := p_copyBlock hI (zR_of (xs (i + 1).toNat)) (zR_of (xs (i + 2).toNat)) (zR_of (xs (i + 3).toNat)) (zR_of (xs (i + 4).toNat))
  refine l_aload_n dL_law_3174 rfl ?_
  refine l_arg (j := 1) hs (by omega) (by omega) h2 dL_law_3175 dL_law_3176 dL_law_3178 dL_law_3179 dL_law_3180 rfl rfl ?_
  refine l_arg (j := 2) hs (by omega) (by omega) h2 dL_law_3181 dL_law_3182 dL_law_3184 dL_law_3185 dL_law_3186 rfl rfl ?_
  refine l_arg (j := 3) hs (by omega) (by omega) h2 dL_law_3187 dL_law_3188 dL_law_3190 dL_law_3191 dL_law_3192 rfl rfl ?_
  refine l_arg (j := 4) hs (by omega) (by omega) h2 dL_law_3193 dL_law_3194 dL_law_3196 dL_law_3197 dL_law_3198 rfl rfl ?_
  refine l_aload_n dL_law_3199 rfl ?_
  refine l_callW (av := [.ref 0, .int (zI (xs (i + 1).toNat).toInt), .int (zI (xs (i + 2).toNat).toInt), .int (zI (xs (i + 3).toNat).toInt), .int (zI (xs (i + 4).toNat).toInt), .ref 52]) (rest := []) dL_law_3200 mlL_316 mdL_copyBlock (w_copyBlock hC (fun v M' h => (hP1 v M' h).elim fun z hz => ⟨z, hz.1⟩) (fun E M' h => (hP2 E M' h).elim fun c hc => ⟨c, hc.1⟩)) rfl (by decide) (by decide) (by show _ ≤ 601024; omega) (by show _ ≤ 7293033; omega) (Nat.le_of_ble_eq_true rfl) (fun v w' hq => ?_)
  rcases hq with ⟨z, M', rfl, hz, hw1, hw2⟩ | ⟨E, M', c, hWc, hE, rfl, rfl⟩
  · obtain ⟨z2, e2, hM⟩ := hP1 _ _ hz
    have e3 : zI z = zI z2 := by simpa using e2
    rw [← hw1] at hM
    refine l_istore dL_law_3203 (by decide) rfl ?_
    refine l_aload_n dL_law_3205 rfl ?_
    refine l_arg (j := 1) hs (by omega) (by omega) h2 dL_law_3206 dL_law_3207 dL_law_3209 dL_law_3210 dL_law_3211 rfl rfl ?_
    refine l_arg (j := 2) hs (by omega) (by omega) h2 dL_law_3212 dL_law_3213 dL_law_3215 dL_law_3216 dL_law_3217 rfl rfl ?_
    refine l_arg (j := 3) hs (by omega) (by omega) h2 dL_law_3218 dL_law_3219 dL_law_3221 dL_law_3222 dL_law_3223 rfl rfl ?_
    refine l_arg (j := 4) hs (by omega) (by omega) h2 dL_law_3224 dL_law_3225 dL_law_3227 dL_law_3228 dL_law_3229 rfl rfl ?_
    refine l_callM (av := [.int (zI (xs (i + 1).toNat).toInt), .int (zI (xs (i + 2).toNat).toInt), .int (zI (xs (i + 3).toNat).toInt), .int (zI (xs (i + 4).toNat).toInt)]) (o := 37) (rest := []) dL_law_3230 mlL_318 md_X8_copyBlock hM rfl rfl rfl (by decide) (by decide) (by show _ ≤ 601024; omega) (by show _ ≤ 7293033; omega) (Nat.le_of_ble_eq_true rfl) (fun E M' h => h) (fun v M2 hq => ?_)
    obtain ⟨z', rfl, hz', h0, hI2⟩ := hq
    refine l_istore dL_law_3233 (by decide) rfl ?_
    refine l_aload_n dL_law_3235 rfl ?_
    refine l_callM (av := []) (o := 37) (rest := []) dL_law_3236 mlL_179 md_X8_thrown (m_thrown (M := M2)) rfl rfl rfl (by decide) (by decide) (by show _ ≤ 601024; omega) (by show _ ≤ 7293033; omega) (Nat.le_of_ble_eq_true rfl) (fun E M' h => h) (fun v M3 hq => ?_)
    obtain ⟨rfl, rfl⟩ := hq
    refine l_iload dL_law_3239 rfl ?_
    refine l_icmp_eqT (tgt := 3246) dL_law_3241 rfl (by rw [h0]) ?_
    refine l_iload dL_law_3246 rfl ?_
    refine l_if_ne (tgt := 3263) dL_law_3248 rfl (fun h => absurd (by decide) h) (fun _ => ?_)
    refine l_aload_n dL_law_3251 rfl ?_
    refine l_iconst dL_law_3252 ?_
    refine l_laload dL_law_3253 ?_
    refine l_iload dL_law_3254 rfl ?_
    refine l_i2l dL_law_3256 ?_
    refine l_lcmpE dL_law_3257 (by show w'.2.1 0 = (zI z').toInt64; rw [hw2, e3, hz']) ?_
    refine l_if_eq (tgt := 3263) dL_law_3258 rfl (fun _ => ?_) (fun h => absurd (by decide) h)
    refine l_goto (tgt := 3627) dL_law_3263 rfl ?_
    refine l_weak (L' := [some (.ref 54), some (.ref 0), some (.ref 37), some (.ref 52), some (.ref 53), some (.int (zI i)), none, none, none]) (by simp [wkB]) (l_widen (by omega) (by omega) (loop _ ?_))
    exact hI2
  · obtain ⟨c2, hW2, hM⟩ := hP2 _ _ hE
    have ec : c2 = c := W2_un hW2 hWc
    subst ec
    refine l_istore dL_law_3203 (by decide) rfl ?_
    refine l_aload_n dL_law_3205 rfl ?_
    refine l_arg (j := 1) hs (by omega) (by omega) h2 dL_law_3206 dL_law_3207 dL_law_3209 dL_law_3210 dL_law_3211 rfl rfl ?_
    refine l_arg (j := 2) hs (by omega) (by omega) h2 dL_law_3212 dL_law_3213 dL_law_3215 dL_law_3216 dL_law_3217 rfl rfl ?_
    refine l_arg (j := 3) hs (by omega) (by omega) h2 dL_law_3218 dL_law_3219 dL_law_3221 dL_law_3222 dL_law_3223 rfl rfl ?_
    refine l_arg (j := 4) hs (by omega) (by omega) h2 dL_law_3224 dL_law_3225 dL_law_3227 dL_law_3228 dL_law_3229 rfl rfl ?_
    refine l_callM (av := [.int (zI (xs (i + 1).toNat).toInt), .int (zI (xs (i + 2).toNat).toInt), .int (zI (xs (i + 3).toNat).toInt), .int (zI (xs (i + 4).toNat).toInt)]) (o := 37) (rest := []) dL_law_3230 mlL_318 md_X8_copyBlock hM rfl rfl rfl (by decide) (by decide) (by show _ ≤ 601024; omega) (by show _ ≤ 7293033; omega) (Nat.le_of_ble_eq_true rfl) (fun E M' h => h) (fun v M2 hq => ?_)
    obtain ⟨z', rfl, h0, hI2⟩ := hq
    refine l_istore dL_law_3233 (by decide) rfl ?_
    refine l_aload_n dL_law_3235 rfl ?_
    refine l_callM (av := []) (o := 37) (rest := []) dL_law_3236 mlL_179 md_X8_thrown (m_thrown (M := M2)) rfl rfl rfl (by decide) (by decide) (by show _ ≤ 601024; omega) (by show _ ≤ 7293033; omega) (Nat.le_of_ble_eq_true rfl) (fun E M' h => h) (fun v M3 hq => ?_)
    obtain ⟨rfl, rfl⟩ := hq
    refine l_iload dL_law_3239 rfl ?_
    refine l_icmp_eqT (tgt := 3246) dL_law_3241 rfl (by rw [h0]) ?_
    refine l_iload dL_law_3246 rfl ?_
    refine l_if_ne (tgt := 3263) dL_law_3248 rfl (fun _ => ?_) (fun h => absurd h (W2_z hWc))
    refine l_goto (tgt := 3627) dL_law_3263 rfl ?_
    refine l_weak (L' := [some (.ref 54), some (.ref 0), some (.ref 37), some (.ref 52), some (.ref 53), some (.int (zI i)), none, none, none]) (by simp [wkB]) (l_widen (by omega) (by omega) (loop _ ?_))
    exact hI2
set_option maxHeartbeats 1000000 in
theorem lc_45 (hs : lScr X A Ls xs) (h2 : Ls ≤ 3072) (i0 : 0 ≤ i) (i6 : i + 6 ≤ Ls) (hI : Inv w.1) (hkc : kc + 6 ≤ 601024) (hks : ks + 36 ≤ 7293033) (loop : ∀ w' : lM, Inv w'.1 → LW X (cL_law, 9, rt, room_1, [], cy, A, Q) (kc + 6) (ks + 36) 3627 [some (.ref 54), some (.ref 0), some (.ref 37), some (.ref 52), some (.ref 53), some (.int (zI i)), none, none, none] [] w') : LW X (cL_law, 9, rt, room_1, [], cy, A, Q) kc ks 3266 [some (.ref 54), some (.ref 0), some (.ref 37), some (.ref 52), some (.ref 53), some (.int (zI i)), none, none, none] [] w := by
  obtain ⟨P', hC, hP1, hP2⟩ := p_shift hI (zR_of (xs (i + 1).toNat)) (zR_of (xs (i + 2).toNat))
  refine l_aload_n dL_law_3266 rfl ?_
  refine l_arg (j := 1) hs (by omega) (by omega) h2 dL_law_3267 dL_law_3268 dL_law_3270 dL_law_3271 dL_law_3272 rfl rfl ?_
  refine l_arg (j := 2) hs (by omega) (by omega) h2 dL_law_3273 dL_law_3274 dL_law_3276 dL_law_3277 dL_law_3278 rfl rfl ?_
  refine l_aload_n dL_law_3279 rfl ?_
  refine l_callW (av := [.ref 0, .int (zI (xs (i + 1).toNat).toInt), .int (zI (xs (i + 2).toNat).toInt), .ref 52]) (rest := []) dL_law_3280 mlL_319 mdL_shift (w_shift hC (fun v M' h => (hP1 v M' h).elim fun z hz => ⟨z, hz.1⟩) (fun E M' h => (hP2 E M' h).elim fun c hc => ⟨c, hc.1⟩)) rfl (by decide) (by decide) (by show _ ≤ 601024; omega) (by show _ ≤ 7293033; omega) (Nat.le_of_ble_eq_true rfl) (fun v w' hq => ?_)
  rcases hq with ⟨z, M', rfl, hz, hw1, hw2⟩ | ⟨E, M', c, hWc, hE, rfl, rfl⟩
  · obtain ⟨z2, e2, hM⟩ := hP1 _ _ hz
    have e3 : zI z = zI z2 := by simpa using e2
    rw [← hw1] at hM
    refine l_istore dL_law_3283 (by decide) rfl ?_
    refine l_aload_n dL_law_3285 rfl ?_
    refine l_arg (j := 1) hs (by omega) (by omega) h2 dL_law_3286 dL_law_3287 dL_law_3289 dL_law_3290 dL_law_3291 rfl rfl ?_
    refine l_arg (j := 2) hs (by omega) (by omega) h2 dL_law_3292 dL_law_3293 dL_law_3295 dL_law_3296 dL_law_3297 rfl rfl ?_
    refine l_callM (av := [.int (zI (xs (i + 1).toNat).toInt), .int (zI (xs (i + 2).toNat).toInt)]) (o := 37) (rest := []) dL_law_3298 mlL_321 md_X8_shift hM rfl rfl rfl (by decide) (by decide) (by show _ ≤ 601024; omega) (by show _ ≤ 7293033; omega) (Nat.le_of_ble_eq_true rfl) (fun E M' h => h) (fun v M2 hq => ?_)
    obtain ⟨z', rfl, hz', h0, hI2⟩ := hq
    refine l_istore dL_law_3301 (by decide) rfl ?_
    refine l_aload_n dL_law_3303 rfl ?_
    refine l_callM (av := []) (o := 37) (rest := []) dL_law_3304 mlL_179 md_X8_thrown (m_thrown (M := M2)) rfl rfl rfl (by decide) (by decide) (by show _ ≤ 601024; omega) (by show _ ≤ 7293033; omega) (Nat.le_of_ble_eq_true rfl) (fun E M' h => h) (fun v M3 hq => ?_)
    obtain ⟨rfl, rfl⟩ := hq
    refine l_iload dL_law_3307 rfl ?_
    refine l_icmp_eqT (tgt := 3314) dL_law_3309 rfl (by rw [h0]) ?_
    refine l_iload dL_law_3314 rfl ?_
    refine l_if_ne (tgt := 3331) dL_law_3316 rfl (fun h => absurd (by decide) h) (fun _ => ?_)
    refine l_aload_n dL_law_3319 rfl ?_
    refine l_iconst dL_law_3320 ?_
    refine l_laload dL_law_3321 ?_
    refine l_iload dL_law_3322 rfl ?_
    refine l_i2l dL_law_3324 ?_
    refine l_lcmpE dL_law_3325 (by show w'.2.1 0 = (zI z').toInt64; rw [hw2, e3, hz']) ?_
    refine l_if_eq (tgt := 3331) dL_law_3326 rfl (fun _ => ?_) (fun h => absurd (by decide) h)
    refine l_goto (tgt := 3627) dL_law_3331 rfl ?_
    refine l_weak (L' := [some (.ref 54), some (.ref 0), some (.ref 37), some (.ref 52), some (.ref 53), some (.int (zI i)), none, none, none]) (by simp [wkB]) (l_widen (by omega) (by omega) (loop _ ?_))
    exact hI2
  · obtain ⟨c2, hW2, hM⟩ := hP2 _ _ hE
    have ec : c2 = c := W2_un hW2 hWc
    subst ec
    refine l_istore dL_law_3283 (by decide) rfl ?_
    refine l_aload_n dL_law_3285 rfl ?_
    refine l_arg (j := 1) hs (by omega) (by omega) h2 dL_law_3286 dL_law_3287 dL_law_3289 dL_law_3290 dL_law_3291 rfl rfl ?_
    refine l_arg (j := 2) hs (by omega) (by omega) h2 dL_law_3292 dL_law_3293 dL_law_3295 dL_law_3296 dL_law_3297 rfl rfl ?_
    refine l_callM (av := [.int (zI (xs (i + 1).toNat).toInt), .int (zI (xs (i + 2).toNat).toInt)]) (o := 37) (rest := []) dL_law_3298 mlL_321 md_X8_shift hM rfl rfl rfl (by decide) (by decide) (by show _ ≤ 601024; omega) (by show _ ≤ 7293033; omega) (Nat.le_of_ble_eq_true rfl) (fun E M' h => h) (fun v M2 hq => ?_)
    obtain ⟨z', rfl, h0, hI2⟩ := hq
    refine l_istore dL_law_3301 (by decide) rfl ?_
    refine l_aload_n dL_law_3303 rfl ?_
    refine l_callM (av := []) (o := 37) (rest := []) dL_law_3304 mlL_179 md_X8_thrown (m_thrown (M := M2)) rfl rfl rfl (by decide) (by decide) (by show _ ≤ 601024; omega) (by show _ ≤ 7293033; omega) (Nat.le_of_ble_eq_true rfl) (fun E M' h => h) (fun v M3 hq => ?_)
    obtain ⟨rfl, rfl⟩ := hq
    refine l_iload dL_law_3307 rfl ?_
    refine l_icmp_eqT (tgt := 3314) dL_law_3309 rfl (by rw [h0]) ?_
    refine l_iload dL_law_3314 rfl ?_
    refine l_if_ne (tgt := 3331) dL_law_3316 rfl (fun _ => ?_) (fun h => absurd h (W2_z hWc))
    refine l_goto (tgt := 3627) dL_law_3331 rfl ?_
    refine l_weak (L' := [some (.ref 54), some (.ref 0), some (.ref 37), some (.ref 52), some (.ref 53), some (.int (zI i)), none, none, none]) (by simp [wkB]) (l_widen (by omega) (by omega) (loop _ ?_))
    exact hI2
set_option maxHeartbeats 1000000 in
theorem lc_46 (hs : lScr X A Ls xs) (h2 : Ls ≤ 3072) (i0 : 0 ≤ i) (i6 : i + 6 ≤ Ls) (hI : Inv w.1) (hkc : kc + 6 ≤ 601024) (hks : ks + 36 ≤ 7293033) (loop : ∀ w' : lM, Inv w'.1 → LW X (cL_law, 9, rt, room_1, [], cy, A, Q) (kc + 6) (ks + 36) 3627 [some (.ref 54), some (.ref 0), some (.ref 37), some (.ref 52), some (.ref 53), some (.int (zI i)), none, none, none] [] w') : LW X (cL_law, 9, rt, room_1, [], cy, A, Q) kc ks 3334 [some (.ref 54), some (.ref 0), some (.ref 37), some (.ref 52), some (.ref 53), some (.int (zI i)), none, none, none] [] w := by
  obtain ⟨P', hC, hP1, hP2⟩ := p_mirror hI (zR_of (xs (i + 1).toNat))
  refine l_aload_n dL_law_3334 rfl ?_
  refine l_arg (j := 1) hs (by omega) (by omega) h2 dL_law_3335 dL_law_3336 dL_law_3338 dL_law_3339 dL_law_3340 rfl rfl ?_
  refine l_aload_n dL_law_3341 rfl ?_
  refine l_callW (av := [.ref 0, .int (zI (xs (i + 1).toNat).toInt), .ref 52]) (rest := []) dL_law_3342 mlL_322 mdL_mirror (w_mirror hC (fun v M' h => (hP1 v M' h).elim fun z hz => ⟨z, hz.1⟩) (fun E M' h => (hP2 E M' h).elim fun c hc => ⟨c, hc.1⟩)) rfl (by decide) (by decide) (by show _ ≤ 601024; omega) (by show _ ≤ 7293033; omega) (Nat.le_of_ble_eq_true rfl) (fun v w' hq => ?_)
  rcases hq with ⟨z, M', rfl, hz, hw1, hw2⟩ | ⟨E, M', c, hWc, hE, rfl, rfl⟩
  · obtain ⟨z2, e2, hM⟩ := hP1 _ _ hz
    have e3 : zI z = zI z2 := by simpa using e2
    rw [← hw1] at hM
    refine l_istore dL_law_3345 (by decide) rfl ?_
    refine l_aload_n dL_law_3347 rfl ?_
    refine l_arg (j := 1) hs (by omega) (by omega) h2 dL_law_3348 dL_law_3349 dL_law_3351 dL_law_3352 dL_law_3353 rfl rfl ?_
    refine l_callM (av := [.int (zI (xs (i + 1).toNat).toInt)]) (o := 37) (rest := []) dL_law_3354 mlL_324 md_X8_mirror hM rfl rfl rfl (by decide) (by decide) (by show _ ≤ 601024; omega) (by show _ ≤ 7293033; omega) (Nat.le_of_ble_eq_true rfl) (fun E M' h => h) (fun v M2 hq => ?_)
    obtain ⟨z', rfl, hz', h0, hI2⟩ := hq
    refine l_istore dL_law_3357 (by decide) rfl ?_
    refine l_aload_n dL_law_3359 rfl ?_
    refine l_callM (av := []) (o := 37) (rest := []) dL_law_3360 mlL_179 md_X8_thrown (m_thrown (M := M2)) rfl rfl rfl (by decide) (by decide) (by show _ ≤ 601024; omega) (by show _ ≤ 7293033; omega) (Nat.le_of_ble_eq_true rfl) (fun E M' h => h) (fun v M3 hq => ?_)
    obtain ⟨rfl, rfl⟩ := hq
    refine l_iload dL_law_3363 rfl ?_
    refine l_icmp_eqT (tgt := 3370) dL_law_3365 rfl (by rw [h0]) ?_
    refine l_iload dL_law_3370 rfl ?_
    refine l_if_ne (tgt := 3387) dL_law_3372 rfl (fun h => absurd (by decide) h) (fun _ => ?_)
    refine l_aload_n dL_law_3375 rfl ?_
    refine l_iconst dL_law_3376 ?_
    refine l_laload dL_law_3377 ?_
    refine l_iload dL_law_3378 rfl ?_
    refine l_i2l dL_law_3380 ?_
    refine l_lcmpE dL_law_3381 (by show w'.2.1 0 = (zI z').toInt64; rw [hw2, e3, hz']) ?_
    refine l_if_eq (tgt := 3387) dL_law_3382 rfl (fun _ => ?_) (fun h => absurd (by decide) h)
    refine l_goto (tgt := 3627) dL_law_3387 rfl ?_
    refine l_weak (L' := [some (.ref 54), some (.ref 0), some (.ref 37), some (.ref 52), some (.ref 53), some (.int (zI i)), none, none, none]) (by simp [wkB]) (l_widen (by omega) (by omega) (loop _ ?_))
    exact hI2
  · obtain ⟨c2, hW2, hM⟩ := hP2 _ _ hE
    have ec : c2 = c := W2_un hW2 hWc
    subst ec
    refine l_istore dL_law_3345 (by decide) rfl ?_
    refine l_aload_n dL_law_3347 rfl ?_
    refine l_arg (j := 1) hs (by omega) (by omega) h2 dL_law_3348 dL_law_3349 dL_law_3351 dL_law_3352 dL_law_3353 rfl rfl ?_
    refine l_callM (av := [.int (zI (xs (i + 1).toNat).toInt)]) (o := 37) (rest := []) dL_law_3354 mlL_324 md_X8_mirror hM rfl rfl rfl (by decide) (by decide) (by show _ ≤ 601024; omega) (by show _ ≤ 7293033; omega) (Nat.le_of_ble_eq_true rfl) (fun E M' h => h) (fun v M2 hq => ?_)
    obtain ⟨z', rfl, h0, hI2⟩ := hq
    refine l_istore dL_law_3357 (by decide) rfl ?_
    refine l_aload_n dL_law_3359 rfl ?_
    refine l_callM (av := []) (o := 37) (rest := []) dL_law_3360 mlL_179 md_X8_thrown (m_thrown (M := M2)) rfl rfl rfl (by decide) (by decide) (by show _ ≤ 601024; omega) (by show _ ≤ 7293033; omega) (Nat.le_of_ble_eq_true rfl) (fun E M' h => h) (fun v M3 hq => ?_)
    obtain ⟨rfl, rfl⟩ := hq
    refine l_iload dL_law_3363 rfl ?_
    refine l_icmp_eqT (tgt := 3370) dL_law_3365 rfl (by rw [h0]) ?_
    refine l_iload dL_law_3370 rfl ?_
    refine l_if_ne (tgt := 3387) dL_law_3372 rfl (fun _ => ?_) (fun h => absurd h (W2_z hWc))
    refine l_goto (tgt := 3627) dL_law_3387 rfl ?_
    refine l_weak (L' := [some (.ref 54), some (.ref 0), some (.ref 37), some (.ref 52), some (.ref 53), some (.int (zI i)), none, none, none]) (by simp [wkB]) (l_widen (by omega) (by omega) (loop _ ?_))
    exact hI2
set_option maxHeartbeats 1000000 in
theorem lc_47 (hs : lScr X A Ls xs) (h2 : Ls ≤ 3072) (i0 : 0 ≤ i) (i6 : i + 6 ≤ Ls) (hI : Inv w.1) (hkc : kc + 6 ≤ 601024) (hks : ks + 36 ≤ 7293033) (loop : ∀ w' : lM, Inv w'.1 → LW X (cL_law, 9, rt, room_1, [], cy, A, Q) (kc + 6) (ks + 36) 3627 [some (.ref 54), some (.ref 0), some (.ref 37), some (.ref 52), some (.ref 53), some (.int (zI i)), none, none, none] [] w') : LW X (cL_law, 9, rt, room_1, [], cy, A, Q) kc ks 3390 [some (.ref 54), some (.ref 0), some (.ref 37), some (.ref 52), some (.ref 53), some (.int (zI i)), none, none, none] [] w := by
  obtain ⟨P', hC, hP1, hP2⟩ := p_read hI (zR_of (xs (i + 1).toNat)) (zR_of (xs (i + 2).toNat))
  refine l_aload_n dL_law_3390 rfl ?_
  refine l_arg (j := 1) hs (by omega) (by omega) h2 dL_law_3391 dL_law_3392 dL_law_3394 dL_law_3395 dL_law_3396 rfl rfl ?_
  refine l_arg (j := 2) hs (by omega) (by omega) h2 dL_law_3397 dL_law_3398 dL_law_3400 dL_law_3401 dL_law_3402 rfl rfl ?_
  refine l_aload_n dL_law_3403 rfl ?_
  refine l_callW (av := [.ref 0, .int (zI (xs (i + 1).toNat).toInt), .int (zI (xs (i + 2).toNat).toInt), .ref 52]) (rest := []) dL_law_3404 mlL_325 mdL_read (w_read hC (fun v M' h => (hP1 v M' h).elim fun z hz => ⟨z, hz.1⟩) (fun E M' h => (hP2 E M' h).elim fun c hc => ⟨c, hc.1⟩)) rfl (by decide) (by decide) (by show _ ≤ 601024; omega) (by show _ ≤ 7293033; omega) (Nat.le_of_ble_eq_true rfl) (fun v w' hq => ?_)
  rcases hq with ⟨z, M', rfl, hz, hw1, hw2⟩ | ⟨E, M', c, hWc, hE, rfl, rfl⟩
  · obtain ⟨z2, e2, hM⟩ := hP1 _ _ hz
    have e3 : zI z = zI z2 := by simpa using e2
    rw [← hw1] at hM
    refine l_istore dL_law_3407 (by decide) rfl ?_
    refine l_aload_n dL_law_3409 rfl ?_
    refine l_arg (j := 1) hs (by omega) (by omega) h2 dL_law_3410 dL_law_3411 dL_law_3413 dL_law_3414 dL_law_3415 rfl rfl ?_
    refine l_arg (j := 2) hs (by omega) (by omega) h2 dL_law_3416 dL_law_3417 dL_law_3419 dL_law_3420 dL_law_3421 rfl rfl ?_
    refine l_callM (av := [.int (zI (xs (i + 1).toNat).toInt), .int (zI (xs (i + 2).toNat).toInt)]) (o := 37) (rest := []) dL_law_3422 mlL_327 md_X8_read hM rfl rfl rfl (by decide) (by decide) (by show _ ≤ 601024; omega) (by show _ ≤ 7293033; omega) (Nat.le_of_ble_eq_true rfl) (fun E M' h => h) (fun v M2 hq => ?_)
    obtain ⟨z', rfl, hz', h0, hI2⟩ := hq
    refine l_istore dL_law_3425 (by decide) rfl ?_
    refine l_aload_n dL_law_3427 rfl ?_
    refine l_callM (av := []) (o := 37) (rest := []) dL_law_3428 mlL_179 md_X8_thrown (m_thrown (M := M2)) rfl rfl rfl (by decide) (by decide) (by show _ ≤ 601024; omega) (by show _ ≤ 7293033; omega) (Nat.le_of_ble_eq_true rfl) (fun E M' h => h) (fun v M3 hq => ?_)
    obtain ⟨rfl, rfl⟩ := hq
    refine l_iload dL_law_3431 rfl ?_
    refine l_icmp_eqT (tgt := 3438) dL_law_3433 rfl (by rw [h0]) ?_
    refine l_iload dL_law_3438 rfl ?_
    refine l_if_ne (tgt := 3455) dL_law_3440 rfl (fun h => absurd (by decide) h) (fun _ => ?_)
    refine l_aload_n dL_law_3443 rfl ?_
    refine l_iconst dL_law_3444 ?_
    refine l_laload dL_law_3445 ?_
    refine l_iload dL_law_3446 rfl ?_
    refine l_i2l dL_law_3448 ?_
    refine l_lcmpE dL_law_3449 (by show w'.2.1 0 = (zI z').toInt64; rw [hw2, e3, hz']) ?_
    refine l_if_eq (tgt := 3455) dL_law_3450 rfl (fun _ => ?_) (fun h => absurd (by decide) h)
    refine l_goto (tgt := 3627) dL_law_3455 rfl ?_
    refine l_weak (L' := [some (.ref 54), some (.ref 0), some (.ref 37), some (.ref 52), some (.ref 53), some (.int (zI i)), none, none, none]) (by simp [wkB]) (l_widen (by omega) (by omega) (loop _ ?_))
    exact hI2
  · obtain ⟨c2, hW2, hM⟩ := hP2 _ _ hE
    have ec : c2 = c := W3_un hW2 hWc
    subst ec
    refine l_istore dL_law_3407 (by decide) rfl ?_
    refine l_aload_n dL_law_3409 rfl ?_
    refine l_arg (j := 1) hs (by omega) (by omega) h2 dL_law_3410 dL_law_3411 dL_law_3413 dL_law_3414 dL_law_3415 rfl rfl ?_
    refine l_arg (j := 2) hs (by omega) (by omega) h2 dL_law_3416 dL_law_3417 dL_law_3419 dL_law_3420 dL_law_3421 rfl rfl ?_
    refine l_callM (av := [.int (zI (xs (i + 1).toNat).toInt), .int (zI (xs (i + 2).toNat).toInt)]) (o := 37) (rest := []) dL_law_3422 mlL_327 md_X8_read hM rfl rfl rfl (by decide) (by decide) (by show _ ≤ 601024; omega) (by show _ ≤ 7293033; omega) (Nat.le_of_ble_eq_true rfl) (fun E M' h => h) (fun v M2 hq => ?_)
    obtain ⟨z', rfl, h0, hI2⟩ := hq
    refine l_istore dL_law_3425 (by decide) rfl ?_
    refine l_aload_n dL_law_3427 rfl ?_
    refine l_callM (av := []) (o := 37) (rest := []) dL_law_3428 mlL_179 md_X8_thrown (m_thrown (M := M2)) rfl rfl rfl (by decide) (by decide) (by show _ ≤ 601024; omega) (by show _ ≤ 7293033; omega) (Nat.le_of_ble_eq_true rfl) (fun E M' h => h) (fun v M3 hq => ?_)
    obtain ⟨rfl, rfl⟩ := hq
    refine l_iload dL_law_3431 rfl ?_
    refine l_icmp_eqT (tgt := 3438) dL_law_3433 rfl (by rw [h0]) ?_
    refine l_iload dL_law_3438 rfl ?_
    refine l_if_ne (tgt := 3455) dL_law_3440 rfl (fun _ => ?_) (fun h => absurd h (W3_z hWc))
    refine l_goto (tgt := 3627) dL_law_3455 rfl ?_
    refine l_weak (L' := [some (.ref 54), some (.ref 0), some (.ref 37), some (.ref 52), some (.ref 53), some (.int (zI i)), none, none, none]) (by simp [wkB]) (l_widen (by omega) (by omega) (loop _ ?_))
    exact hI2
set_option maxHeartbeats 1000000 in
theorem lc_48 (hs : lScr X A Ls xs) (h2 : Ls ≤ 3072) (i0 : 0 ≤ i) (i6 : i + 6 ≤ Ls) (hI : Inv w.1) (hkc : kc + 6 ≤ 601024) (hks : ks + 36 ≤ 7293033) (loop : ∀ w' : lM, Inv w'.1 → LW X (cL_law, 9, rt, room_1, [], cy, A, Q) (kc + 6) (ks + 36) 3627 [some (.ref 54), some (.ref 0), some (.ref 37), some (.ref 52), some (.ref 53), some (.int (zI i)), none, none, none] [] w') : LW X (cL_law, 9, rt, room_1, [], cy, A, Q) kc ks 3458 [some (.ref 54), some (.ref 0), some (.ref 37), some (.ref 52), some (.ref 53), some (.int (zI i)), none, none, none] [] w := by
  obtain ⟨P', hC, hP1, hP2⟩ := p_undo hI 
  refine l_aload_n dL_law_3458 rfl ?_
  refine l_aload_n dL_law_3459 rfl ?_
  refine l_callW (av := [.ref 0, .ref 52]) (rest := []) dL_law_3460 mlL_328 mdL_undo (w_undo hC (fun v M' h => (hP1 v M' h).elim fun z hz => ⟨z, hz.1⟩) (fun E M' h => (hP2 E M' h).elim fun c hc => ⟨c, hc.1⟩)) rfl (by decide) (by decide) (by show _ ≤ 601024; omega) (by show _ ≤ 7293033; omega) (Nat.le_of_ble_eq_true rfl) (fun v w' hq => ?_)
  rcases hq with ⟨z, M', rfl, hz, hw1, hw2⟩ | ⟨E, M', c, hWc, hE, rfl, rfl⟩
  · obtain ⟨z2, e2, hM⟩ := hP1 _ _ hz
    have e3 : zI z = zI z2 := by simpa using e2
    rw [← hw1] at hM
    refine l_istore dL_law_3463 (by decide) rfl ?_
    refine l_aload_n dL_law_3465 rfl ?_
    refine l_callM (av := []) (o := 37) (rest := []) dL_law_3466 mlL_330 md_X8_undo hM rfl rfl rfl (by decide) (by decide) (by show _ ≤ 601024; omega) (by show _ ≤ 7293033; omega) (Nat.le_of_ble_eq_true rfl) (fun E M' h => h) (fun v M2 hq => ?_)
    obtain ⟨z', rfl, hz', h0, hI2⟩ := hq
    refine l_istore dL_law_3469 (by decide) rfl ?_
    refine l_aload_n dL_law_3471 rfl ?_
    refine l_callM (av := []) (o := 37) (rest := []) dL_law_3472 mlL_179 md_X8_thrown (m_thrown (M := M2)) rfl rfl rfl (by decide) (by decide) (by show _ ≤ 601024; omega) (by show _ ≤ 7293033; omega) (Nat.le_of_ble_eq_true rfl) (fun E M' h => h) (fun v M3 hq => ?_)
    obtain ⟨rfl, rfl⟩ := hq
    refine l_iload dL_law_3475 rfl ?_
    refine l_icmp_eqT (tgt := 3482) dL_law_3477 rfl (by rw [h0]) ?_
    refine l_iload dL_law_3482 rfl ?_
    refine l_if_ne (tgt := 3499) dL_law_3484 rfl (fun h => absurd (by decide) h) (fun _ => ?_)
    refine l_aload_n dL_law_3487 rfl ?_
    refine l_iconst dL_law_3488 ?_
    refine l_laload dL_law_3489 ?_
    refine l_iload dL_law_3490 rfl ?_
    refine l_i2l dL_law_3492 ?_
    refine l_lcmpE dL_law_3493 (by show w'.2.1 0 = (zI z').toInt64; rw [hw2, e3, hz']) ?_
    refine l_if_eq (tgt := 3499) dL_law_3494 rfl (fun _ => ?_) (fun h => absurd (by decide) h)
    refine l_goto (tgt := 3627) dL_law_3499 rfl ?_
    refine l_weak (L' := [some (.ref 54), some (.ref 0), some (.ref 37), some (.ref 52), some (.ref 53), some (.int (zI i)), none, none, none]) (by simp [wkB]) (l_widen (by omega) (by omega) (loop _ ?_))
    exact hI2
  · obtain ⟨c2, hW2, hM⟩ := hP2 _ _ hE
    have ec : c2 = c := W1_un hW2 hWc
    subst ec
    refine l_istore dL_law_3463 (by decide) rfl ?_
    refine l_aload_n dL_law_3465 rfl ?_
    refine l_callM (av := []) (o := 37) (rest := []) dL_law_3466 mlL_330 md_X8_undo hM rfl rfl rfl (by decide) (by decide) (by show _ ≤ 601024; omega) (by show _ ≤ 7293033; omega) (Nat.le_of_ble_eq_true rfl) (fun E M' h => h) (fun v M2 hq => ?_)
    obtain ⟨z', rfl, h0, hI2⟩ := hq
    refine l_istore dL_law_3469 (by decide) rfl ?_
    refine l_aload_n dL_law_3471 rfl ?_
    refine l_callM (av := []) (o := 37) (rest := []) dL_law_3472 mlL_179 md_X8_thrown (m_thrown (M := M2)) rfl rfl rfl (by decide) (by decide) (by show _ ≤ 601024; omega) (by show _ ≤ 7293033; omega) (Nat.le_of_ble_eq_true rfl) (fun E M' h => h) (fun v M3 hq => ?_)
    obtain ⟨rfl, rfl⟩ := hq
    refine l_iload dL_law_3475 rfl ?_
    refine l_icmp_eqT (tgt := 3482) dL_law_3477 rfl (by rw [h0]) ?_
    refine l_iload dL_law_3482 rfl ?_
    refine l_if_ne (tgt := 3499) dL_law_3484 rfl (fun _ => ?_) (fun h => absurd h (W1_z hWc))
    refine l_goto (tgt := 3627) dL_law_3499 rfl ?_
    refine l_weak (L' := [some (.ref 54), some (.ref 0), some (.ref 37), some (.ref 52), some (.ref 53), some (.int (zI i)), none, none, none]) (by simp [wkB]) (l_widen (by omega) (by omega) (loop _ ?_))
    exact hI2
set_option maxHeartbeats 1000000 in
theorem lc_49 (hs : lScr X A Ls xs) (h2 : Ls ≤ 3072) (i0 : 0 ≤ i) (i6 : i + 6 ≤ Ls) (hI : Inv w.1) (hkc : kc + 6 ≤ 601024) (hks : ks + 36 ≤ 7293033) (loop : ∀ w' : lM, Inv w'.1 → LW X (cL_law, 9, rt, room_1, [], cy, A, Q) (kc + 6) (ks + 36) 3627 [some (.ref 54), some (.ref 0), some (.ref 37), some (.ref 52), some (.ref 53), some (.int (zI i)), none, none, none] [] w') : LW X (cL_law, 9, rt, room_1, [], cy, A, Q) kc ks 3502 [some (.ref 54), some (.ref 0), some (.ref 37), some (.ref 52), some (.ref 53), some (.int (zI i)), none, none, none] [] w := by
  obtain ⟨P', hC, hP1, hP2⟩ := p_undoable hI 
  refine l_aload_n dL_law_3502 rfl ?_
  refine l_callM (av := []) (o := 0) (rest := []) dL_law_3503 mlL_331 md_X7_undoable hC rfl rfl rfl (by decide) (by decide) (by show _ ≤ 601024; omega) (by show _ ≤ 7293033; omega) (Nat.le_of_ble_eq_true rfl) (fun E M' h => (hP2 E M' h).elim fun c hc => hc.1) (fun v M' hp => ?_)
  obtain ⟨z, rfl, hM⟩ := hP1 v M' hp
  refine l_aload_n dL_law_3506 rfl ?_
  refine l_callM (av := []) (o := 37) (rest := [.int (zI z)]) dL_law_3507 mlL_334 md_X8_undoable hM rfl rfl rfl (by decide) (by decide) (by show _ ≤ 601024; omega) (by show _ ≤ 7293033; omega) (Nat.le_of_ble_eq_true rfl) (fun E M' h => h) (fun v M2 hq => ?_)
  obtain ⟨z', rfl, rfl, h0, hI2⟩ := hq
  refine l_icmp_eqT (tgt := 3627) dL_law_3510 rfl rfl ?_
  refine l_weak (L' := [some (.ref 54), some (.ref 0), some (.ref 37), some (.ref 52), some (.ref 53), some (.int (zI i)), none, none, none]) (by simp [wkB]) (l_widen (by omega) (by omega) (loop _ ?_))
  exact hI2
set_option maxHeartbeats 1000000 in
theorem lc_50 (hs : lScr X A Ls xs) (h2 : Ls ≤ 3072) (i0 : 0 ≤ i) (i6 : i + 6 ≤ Ls) (hI : Inv w.1) (hkc : kc + 6 ≤ 601024) (hks : ks + 36 ≤ 7293033) (loop : ∀ w' : lM, Inv w'.1 → LW X (cL_law, 9, rt, room_1, [], cy, A, Q) (kc + 6) (ks + 36) 3627 [some (.ref 54), some (.ref 0), some (.ref 37), some (.ref 52), some (.ref 53), some (.int (zI i)), none, none, none] [] w') : LW X (cL_law, 9, rt, room_1, [], cy, A, Q) kc ks 3515 [some (.ref 54), some (.ref 0), some (.ref 37), some (.ref 52), some (.ref 53), some (.int (zI i)), none, none, none] [] w := by
  obtain ⟨P', hC, hP1, hP2⟩ := p_save hI (zR_of (xs (i + 1).toNat))
  refine l_aload_n dL_law_3515 rfl ?_
  refine l_arg (j := 1) hs (by omega) (by omega) h2 dL_law_3516 dL_law_3517 dL_law_3519 dL_law_3520 dL_law_3521 rfl rfl ?_
  refine l_aload_n dL_law_3522 rfl ?_
  refine l_callW (av := [.ref 0, .int (zI (xs (i + 1).toNat).toInt), .ref 52]) (rest := []) dL_law_3523 mlL_335 mdL_save (w_save hC (fun v M' h => (hP1 v M' h).elim fun z hz => ⟨z, hz.1⟩) (fun E M' h => (hP2 E M' h).elim fun c hc => ⟨c, hc.1⟩)) rfl (by decide) (by decide) (by show _ ≤ 601024; omega) (by show _ ≤ 7293033; omega) (Nat.le_of_ble_eq_true rfl) (fun v w' hq => ?_)
  rcases hq with ⟨z, M', rfl, hz, hw1, hw2⟩ | ⟨E, M', c, hWc, hE, rfl, rfl⟩
  · obtain ⟨z2, e2, hM⟩ := hP1 _ _ hz
    have e3 : zI z = zI z2 := by simpa using e2
    rw [← hw1] at hM
    refine l_istore dL_law_3526 (by decide) rfl ?_
    refine l_aload_n dL_law_3528 rfl ?_
    refine l_arg (j := 1) hs (by omega) (by omega) h2 dL_law_3529 dL_law_3530 dL_law_3532 dL_law_3533 dL_law_3534 rfl rfl ?_
    refine l_callM (av := [.int (zI (xs (i + 1).toNat).toInt)]) (o := 37) (rest := []) dL_law_3535 mlL_337 md_X8_save hM rfl rfl rfl (by decide) (by decide) (by show _ ≤ 601024; omega) (by show _ ≤ 7293033; omega) (Nat.le_of_ble_eq_true rfl) (fun E M' h => h) (fun v M2 hq => ?_)
    obtain ⟨z', rfl, hz', h0, hI2⟩ := hq
    refine l_istore dL_law_3538 (by decide) rfl ?_
    refine l_aload_n dL_law_3540 rfl ?_
    refine l_callM (av := []) (o := 37) (rest := []) dL_law_3541 mlL_179 md_X8_thrown (m_thrown (M := M2)) rfl rfl rfl (by decide) (by decide) (by show _ ≤ 601024; omega) (by show _ ≤ 7293033; omega) (Nat.le_of_ble_eq_true rfl) (fun E M' h => h) (fun v M3 hq => ?_)
    obtain ⟨rfl, rfl⟩ := hq
    refine l_iload dL_law_3544 rfl ?_
    refine l_icmp_eqT (tgt := 3551) dL_law_3546 rfl (by rw [h0]) ?_
    refine l_iload dL_law_3551 rfl ?_
    refine l_if_ne (tgt := 3568) dL_law_3553 rfl (fun h => absurd (by decide) h) (fun _ => ?_)
    refine l_aload_n dL_law_3556 rfl ?_
    refine l_iconst dL_law_3557 ?_
    refine l_laload dL_law_3558 ?_
    refine l_iload dL_law_3559 rfl ?_
    refine l_i2l dL_law_3561 ?_
    refine l_lcmpE dL_law_3562 (by show w'.2.1 0 = (zI z').toInt64; rw [hw2, e3, hz']) ?_
    refine l_if_eq (tgt := 3568) dL_law_3563 rfl (fun _ => ?_) (fun h => absurd (by decide) h)
    refine l_goto (tgt := 3627) dL_law_3568 rfl ?_
    refine l_weak (L' := [some (.ref 54), some (.ref 0), some (.ref 37), some (.ref 52), some (.ref 53), some (.int (zI i)), none, none, none]) (by simp [wkB]) (l_widen (by omega) (by omega) (loop _ ?_))
    exact hI2
  · obtain ⟨c2, hW2, hM⟩ := hP2 _ _ hE
    have ec : c2 = c := W2_un hW2 hWc
    subst ec
    refine l_istore dL_law_3526 (by decide) rfl ?_
    refine l_aload_n dL_law_3528 rfl ?_
    refine l_arg (j := 1) hs (by omega) (by omega) h2 dL_law_3529 dL_law_3530 dL_law_3532 dL_law_3533 dL_law_3534 rfl rfl ?_
    refine l_callM (av := [.int (zI (xs (i + 1).toNat).toInt)]) (o := 37) (rest := []) dL_law_3535 mlL_337 md_X8_save hM rfl rfl rfl (by decide) (by decide) (by show _ ≤ 601024; omega) (by show _ ≤ 7293033; omega) (Nat.le_of_ble_eq_true rfl) (fun E M' h => h) (fun v M2 hq => ?_)
    obtain ⟨z', rfl, h0, hI2⟩ := hq
    refine l_istore dL_law_3538 (by decide) rfl ?_
    refine l_aload_n dL_law_3540 rfl ?_
    refine l_callM (av := []) (o := 37) (rest := []) dL_law_3541 mlL_179 md_X8_thrown (m_thrown (M := M2)) rfl rfl rfl (by decide) (by decide) (by show _ ≤ 601024; omega) (by show _ ≤ 7293033; omega) (Nat.le_of_ble_eq_true rfl) (fun E M' h => h) (fun v M3 hq => ?_)
    obtain ⟨rfl, rfl⟩ := hq
    refine l_iload dL_law_3544 rfl ?_
    refine l_icmp_eqT (tgt := 3551) dL_law_3546 rfl (by rw [h0]) ?_
    refine l_iload dL_law_3551 rfl ?_
    refine l_if_ne (tgt := 3568) dL_law_3553 rfl (fun _ => ?_) (fun h => absurd h (W2_z hWc))
    refine l_goto (tgt := 3627) dL_law_3568 rfl ?_
    refine l_weak (L' := [some (.ref 54), some (.ref 0), some (.ref 37), some (.ref 52), some (.ref 53), some (.int (zI i)), none, none, none]) (by simp [wkB]) (l_widen (by omega) (by omega) (loop _ ?_))
    exact hI2
set_option maxHeartbeats 1000000 in
theorem lc_51 (hs : lScr X A Ls xs) (h2 : Ls ≤ 3072) (i0 : 0 ≤ i) (i6 : i + 6 ≤ Ls) (hI : Inv w.1) (hkc : kc + 6 ≤ 601024) (hks : ks + 36 ≤ 7293033) (loop : ∀ w' : lM, Inv w'.1 → LW X (cL_law, 9, rt, room_1, [], cy, A, Q) (kc + 6) (ks + 36) 3627 [some (.ref 54), some (.ref 0), some (.ref 37), some (.ref 52), some (.ref 53), some (.int (zI i)), none, none, none] [] w') : LW X (cL_law, 9, rt, room_1, [], cy, A, Q) kc ks 3571 [some (.ref 54), some (.ref 0), some (.ref 37), some (.ref 52), some (.ref 53), some (.int (zI i)), none, none, none] [] w := by
  obtain ⟨P', hC, hP1, hP2⟩ := p_restore hI (zR_of (xs (i + 1).toNat))
  refine l_aload_n dL_law_3571 rfl ?_
  refine l_arg (j := 1) hs (by omega) (by omega) h2 dL_law_3572 dL_law_3573 dL_law_3575 dL_law_3576 dL_law_3577 rfl rfl ?_
  refine l_aload_n dL_law_3578 rfl ?_
  refine l_callW (av := [.ref 0, .int (zI (xs (i + 1).toNat).toInt), .ref 52]) (rest := []) dL_law_3579 mlL_338 mdL_restore (w_restore hC (fun v M' h => (hP1 v M' h).elim fun z hz => ⟨z, hz.1⟩) (fun E M' h => (hP2 E M' h).elim fun c hc => ⟨c, hc.1⟩)) rfl (by decide) (by decide) (by show _ ≤ 601024; omega) (by show _ ≤ 7293033; omega) (Nat.le_of_ble_eq_true rfl) (fun v w' hq => ?_)
  rcases hq with ⟨z, M', rfl, hz, hw1, hw2⟩ | ⟨E, M', c, hWc, hE, rfl, rfl⟩
  · obtain ⟨z2, e2, hM⟩ := hP1 _ _ hz
    have e3 : zI z = zI z2 := by simpa using e2
    rw [← hw1] at hM
    refine l_istore dL_law_3582 (by decide) rfl ?_
    refine l_aload_n dL_law_3584 rfl ?_
    refine l_arg (j := 1) hs (by omega) (by omega) h2 dL_law_3585 dL_law_3586 dL_law_3588 dL_law_3589 dL_law_3590 rfl rfl ?_
    refine l_callM (av := [.int (zI (xs (i + 1).toNat).toInt)]) (o := 37) (rest := []) dL_law_3591 mlL_340 md_X8_restore hM rfl rfl rfl (by decide) (by decide) (by show _ ≤ 601024; omega) (by show _ ≤ 7293033; omega) (Nat.le_of_ble_eq_true rfl) (fun E M' h => h) (fun v M2 hq => ?_)
    obtain ⟨z', rfl, hz', h0, hI2⟩ := hq
    refine l_istore dL_law_3594 (by decide) rfl ?_
    refine l_aload_n dL_law_3596 rfl ?_
    refine l_callM (av := []) (o := 37) (rest := []) dL_law_3597 mlL_179 md_X8_thrown (m_thrown (M := M2)) rfl rfl rfl (by decide) (by decide) (by show _ ≤ 601024; omega) (by show _ ≤ 7293033; omega) (Nat.le_of_ble_eq_true rfl) (fun E M' h => h) (fun v M3 hq => ?_)
    obtain ⟨rfl, rfl⟩ := hq
    refine l_iload dL_law_3600 rfl ?_
    refine l_icmp_eqT (tgt := 3607) dL_law_3602 rfl (by rw [h0]) ?_
    refine l_iload dL_law_3607 rfl ?_
    refine l_if_ne (tgt := 3624) dL_law_3609 rfl (fun h => absurd (by decide) h) (fun _ => ?_)
    refine l_aload_n dL_law_3612 rfl ?_
    refine l_iconst dL_law_3613 ?_
    refine l_laload dL_law_3614 ?_
    refine l_iload dL_law_3615 rfl ?_
    refine l_i2l dL_law_3617 ?_
    refine l_lcmpE dL_law_3618 (by show w'.2.1 0 = (zI z').toInt64; rw [hw2, e3, hz']) ?_
    refine l_if_eq (tgt := 3624) dL_law_3619 rfl (fun _ => ?_) (fun h => absurd (by decide) h)
    refine l_goto (tgt := 3627) dL_law_3624 rfl ?_
    refine l_weak (L' := [some (.ref 54), some (.ref 0), some (.ref 37), some (.ref 52), some (.ref 53), some (.int (zI i)), none, none, none]) (by simp [wkB]) (l_widen (by omega) (by omega) (loop _ ?_))
    exact hI2
  · obtain ⟨c2, hW2, hM⟩ := hP2 _ _ hE
    have ec : c2 = c := Wr_un hW2 hWc
    subst ec
    refine l_istore dL_law_3582 (by decide) rfl ?_
    refine l_aload_n dL_law_3584 rfl ?_
    refine l_arg (j := 1) hs (by omega) (by omega) h2 dL_law_3585 dL_law_3586 dL_law_3588 dL_law_3589 dL_law_3590 rfl rfl ?_
    refine l_callM (av := [.int (zI (xs (i + 1).toNat).toInt)]) (o := 37) (rest := []) dL_law_3591 mlL_340 md_X8_restore hM rfl rfl rfl (by decide) (by decide) (by show _ ≤ 601024; omega) (by show _ ≤ 7293033; omega) (Nat.le_of_ble_eq_true rfl) (fun E M' h => h) (fun v M2 hq => ?_)
    obtain ⟨z', rfl, h0, hI2⟩ := hq
    refine l_istore dL_law_3594 (by decide) rfl ?_
    refine l_aload_n dL_law_3596 rfl ?_
    refine l_callM (av := []) (o := 37) (rest := []) dL_law_3597 mlL_179 md_X8_thrown (m_thrown (M := M2)) rfl rfl rfl (by decide) (by decide) (by show _ ≤ 601024; omega) (by show _ ≤ 7293033; omega) (Nat.le_of_ble_eq_true rfl) (fun E M' h => h) (fun v M3 hq => ?_)
    obtain ⟨rfl, rfl⟩ := hq
    refine l_iload dL_law_3600 rfl ?_
    refine l_icmp_eqT (tgt := 3607) dL_law_3602 rfl (by rw [h0]) ?_
    refine l_iload dL_law_3607 rfl ?_
    refine l_if_ne (tgt := 3624) dL_law_3609 rfl (fun _ => ?_) (fun h => absurd h (Wr_z hWc))
    refine l_goto (tgt := 3627) dL_law_3624 rfl ?_
    refine l_weak (L' := [some (.ref 54), some (.ref 0), some (.ref 37), some (.ref 52), some (.ref 53), some (.int (zI i)), none, none, none]) (by simp [wkB]) (l_widen (by omega) (by omega) (loop _ ?_))
    exact hI2
end CASES


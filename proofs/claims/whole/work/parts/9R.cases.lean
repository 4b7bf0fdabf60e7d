/-! The law's cases. -/
theorem W1_un {E : String} {c c' : Int} (h : W1 E c) (h' : W1 E c') : c = c' := by rw [h.2, h'.2]
theorem W2_un {E : String} {c c' : Int} (h : W2 E c) (h' : W2 E c') : c = c' := by
  obtain ⟨rfl, h⟩ := h
  obtain ⟨e, h'⟩ := h'
  rcases h with rfl | rfl <;> rcases h' with rfl | rfl <;> first | rfl | exact absurd e (by decide)
theorem W3_un {E : String} {c c' : Int} (h : W3 E c) (h' : W3 E c') : c = c' := by
  obtain ⟨rfl, h⟩ := h
  obtain ⟨e, h'⟩ := h'
  rcases h with rfl | rfl | rfl <;> rcases h' with rfl | rfl | rfl <;> first | rfl | exact absurd e (by decide)
theorem Wc_un {E : String} {c c' : Int} (h : Wc E c) (h' : Wc E c') : c = c' := by
  rcases h with ⟨rfl, rfl⟩ | ⟨rfl, rfl⟩ <;> rcases h' with ⟨e, rfl⟩ | ⟨e, rfl⟩ <;> first | rfl | exact absurd e (by decide)
theorem Wl_un {E : String} {c c' : Int} (h : Wl E c) (h' : Wl E c') : c = c' := by
  rcases h with ⟨rfl, rfl⟩ | ⟨rfl, rfl⟩ <;> rcases h' with ⟨e, rfl⟩ | ⟨e, rfl⟩ <;> first | rfl | exact absurd e (by decide)
theorem Wr_un {E : String} {c c' : Int} (h : Wr E c) (h' : Wr E c') : c = c' := by
  rcases h with ⟨rfl, rfl⟩ | ⟨rfl, rfl⟩ <;> rcases h' with ⟨e, rfl⟩ | ⟨e, rfl⟩ <;> first | rfl | exact absurd e (by decide)
theorem Wt_un {E : String} {c c' : Int} (h : Wt E c) (h' : Wt E c') : c = c' := by rw [h.2, h'.2]
theorem W1_z {E : String} {c : Int} (h : W1 E c) : ¬ zI c = 0 := by rw [h.2]; decide
theorem W2_z {E : String} {c : Int} (h : W2 E c) : ¬ zI c = 0 := by rcases h.2 with rfl | rfl <;> decide
theorem W3_z {E : String} {c : Int} (h : W3 E c) : ¬ zI c = 0 := by rcases h.2 with rfl | rfl | rfl <;> decide
theorem Wc_z {E : String} {c : Int} (h : Wc E c) : ¬ zI c = 0 := by rcases h with ⟨_, rfl⟩ | ⟨_, rfl⟩ <;> decide
theorem Wl_z {E : String} {c : Int} (h : Wl E c) : ¬ zI c = 0 := by rcases h with ⟨_, rfl⟩ | ⟨_, rfl⟩ <;> decide
theorem Wr_z {E : String} {c : Int} (h : Wr E c) : ¬ zI c = 0 := by rcases h with ⟨_, rfl⟩ | ⟨_, rfl⟩ <;> decide
theorem Wt_z {E : String} {c : Int} (h : Wt E c) : ¬ zI c = 0 := by rw [h.2]; decide
section CASES
variable {X : qX} {rt : Option FieldType} {cy : ClassId × ClassId} {A : Nat → Prop} {Q : State → Prop} {kc ks : Nat} {Ls : Nat} {xs : Nat → Int32} {i : Int} {w : lM}
set_option maxHeartbeats 1000000 in
theorem lc_0 (hs : lScr X A Ls xs) (h2 : Ls ≤ 3072) (i0 : 0 ≤ i) (i6 : i + 6 ≤ Ls) (hI : Inv w.1) (hkc : kc + 6 ≤ 601024) (hks : ks + 36 ≤ 7293033) (loop : ∀ w' : lM, Inv w'.1 → LW X (cL_law, 9, rt, room_1, [], cy, A, Q) (kc + 6) (ks + 36) 3627 [some (.ref 54), some (.ref 0), some (.ref 37), some (.ref 52), some (.ref 53), some (.int (zI i)), none, none, none] [] w') : LW X (cL_law, 9, rt, room_1, [], cy, A, Q) kc ks 268 [some (.ref 54), some (.ref 0), some (.ref 37), some (.ref 52), some (.ref 53), some (.int (zI i)), none, none, none] [] w := by
  obtain ⟨P', hC, hP1, hP2⟩ := p_append hI 
  refine l_aload_n dL_law_268 rfl ?_
  refine l_arg (j := 1) hs (by omega) (by omega) h2 dL_law_269 dL_law_270 dL_law_272 dL_law_273 dL_law_274 rfl rfl ?_
  refine l_arg (j := 2) hs (by omega) (by omega) h2 dL_law_275 dL_law_276 dL_law_278 dL_law_279 dL_law_280 rfl rfl ?_
  refine l_arg (j := 3) hs (by omega) (by omega) h2 dL_law_281 dL_law_282 dL_law_284 dL_law_285 dL_law_286 rfl rfl ?_
  refine l_arg (j := 4) hs (by omega) (by omega) h2 dL_law_287 dL_law_288 dL_law_290 dL_law_291 dL_law_292 rfl rfl ?_
  refine l_arg (j := 5) hs (by omega) (by omega) h2 dL_law_293 dL_law_294 dL_law_296 dL_law_297 dL_law_298 rfl rfl ?_
  refine l_callM (av := [.int (zI (xs (i + 1).toNat).toInt), .int (zI (xs (i + 2).toNat).toInt), .int (zI (xs (i + 3).toNat).toInt), .int (zI (xs (i + 4).toNat).toInt), .int (zI (xs (i + 5).toNat).toInt)]) (o := 0) (rest := []) dL_law_299 mlL_168 md_X7_append hC rfl rfl rfl (by decide) (by decide) (by show _ ≤ 601024; omega) (by show _ ≤ 7293033; omega) (Nat.le_of_ble_eq_true rfl) (fun E M' h => (hP2 E M' h).elim fun c hc => hc.1) (fun v M' hp => ?_)
  obtain ⟨z, rfl, hM⟩ := hP1 v M' hp
  refine l_aload_n dL_law_302 rfl ?_
  refine l_arg (j := 1) hs (by omega) (by omega) h2 dL_law_303 dL_law_304 dL_law_306 dL_law_307 dL_law_308 rfl rfl ?_
  refine l_arg (j := 2) hs (by omega) (by omega) h2 dL_law_309 dL_law_310 dL_law_312 dL_law_313 dL_law_314 rfl rfl ?_
  refine l_arg (j := 3) hs (by omega) (by omega) h2 dL_law_315 dL_law_316 dL_law_318 dL_law_319 dL_law_320 rfl rfl ?_
  refine l_arg (j := 4) hs (by omega) (by omega) h2 dL_law_321 dL_law_322 dL_law_324 dL_law_325 dL_law_326 rfl rfl ?_
  refine l_arg (j := 5) hs (by omega) (by omega) h2 dL_law_327 dL_law_328 dL_law_330 dL_law_331 dL_law_332 rfl rfl ?_
  refine l_callM (av := [.int (zI (xs (i + 1).toNat).toInt), .int (zI (xs (i + 2).toNat).toInt), .int (zI (xs (i + 3).toNat).toInt), .int (zI (xs (i + 4).toNat).toInt), .int (zI (xs (i + 5).toNat).toInt)]) (o := 37) (rest := [.int (zI z)]) dL_law_333 mlL_172 md_X8_append hM rfl rfl rfl (by decide) (by decide) (by show _ ≤ 601024; omega) (by show _ ≤ 7293033; omega) (Nat.le_of_ble_eq_true rfl) (fun E M' h => h) (fun v M2 hq => ?_)
  obtain ⟨z', rfl, rfl, h0, hI2⟩ := hq
  refine l_icmp_eqT (tgt := 3627) dL_law_336 rfl rfl ?_
  refine l_weak (L' := [some (.ref 54), some (.ref 0), some (.ref 37), some (.ref 52), some (.ref 53), some (.int (zI i)), none, none, none]) (by simp [wkB]) (l_widen (by omega) (by omega) (loop _ ?_))
  exact hI2
set_option maxHeartbeats 1000000 in
theorem lc_1 (hs : lScr X A Ls xs) (h2 : Ls ≤ 3072) (i0 : 0 ≤ i) (i6 : i + 6 ≤ Ls) (hI : Inv w.1) (hkc : kc + 6 ≤ 601024) (hks : ks + 36 ≤ 7293033) (loop : ∀ w' : lM, Inv w'.1 → LW X (cL_law, 9, rt, room_1, [], cy, A, Q) (kc + 6) (ks + 36) 3627 [some (.ref 54), some (.ref 0), some (.ref 37), some (.ref 52), some (.ref 53), some (.int (zI i)), none, none, none] [] w') : LW X (cL_law, 9, rt, room_1, [], cy, A, Q) kc ks 341 [some (.ref 54), some (.ref 0), some (.ref 37), some (.ref 52), some (.ref 53), some (.int (zI i)), none, none, none] [] w := by
  obtain ⟨P', hC, hP1, hP2⟩ := p_load hI (zR_of (xs (i + 1).toNat))
  refine l_aload_n dL_law_341 rfl ?_
  refine l_arg (j := 1) hs (by omega) (by omega) h2 dL_law_342 dL_law_343 dL_law_345 dL_law_346 dL_law_347 rfl rfl ?_
  refine l_aload_n dL_law_348 rfl ?_
  refine l_callW (av := [.ref 0, .int (zI (xs (i + 1).toNat).toInt), .ref 52]) (rest := []) dL_law_349 mlL_173 mdL_load (w_load hC (fun v M' h => (hP1 v M' h).elim fun z hz => ⟨z, hz.1⟩) (fun E M' h => (hP2 E M' h).elim fun c hc => ⟨c, hc.1⟩)) rfl (by decide) (by decide) (by show _ ≤ 601024; omega) (by show _ ≤ 7293033; omega) (Nat.le_of_ble_eq_true rfl) (fun v w' hq => ?_)
  rcases hq with ⟨z, M', rfl, hz, hw1, hw2⟩ | ⟨E, M', c, hWc, hE, rfl, rfl⟩
  · obtain ⟨z2, e2, hM⟩ := hP1 _ _ hz
    have e3 : zI z = zI z2 := by simpa using e2
    rw [← hw1] at hM
    refine l_istore dL_law_352 (by decide) rfl ?_
    refine l_aload_n dL_law_354 rfl ?_
    refine l_arg (j := 1) hs (by omega) (by omega) h2 dL_law_355 dL_law_356 dL_law_358 dL_law_359 dL_law_360 rfl rfl ?_
    refine l_callM (av := [.int (zI (xs (i + 1).toNat).toInt)]) (o := 37) (rest := []) dL_law_361 mlL_178 md_X8_load hM rfl rfl rfl (by decide) (by decide) (by show _ ≤ 601024; omega) (by show _ ≤ 7293033; omega) (Nat.le_of_ble_eq_true rfl) (fun E M' h => h) (fun v M2 hq => ?_)
    obtain ⟨z', rfl, hz', h0, hI2⟩ := hq
    refine l_istore dL_law_364 (by decide) rfl ?_
    refine l_aload_n dL_law_366 rfl ?_
    refine l_callM (av := []) (o := 37) (rest := []) dL_law_367 mlL_179 md_X8_thrown (m_thrown (M := M2)) rfl rfl rfl (by decide) (by decide) (by show _ ≤ 601024; omega) (by show _ ≤ 7293033; omega) (Nat.le_of_ble_eq_true rfl) (fun E M' h => h) (fun v M3 hq => ?_)
    obtain ⟨rfl, rfl⟩ := hq
    refine l_iload dL_law_370 rfl ?_
    refine l_icmp_eqT (tgt := 377) dL_law_372 rfl (by rw [h0]) ?_
    refine l_iload dL_law_377 rfl ?_
    refine l_if_ne (tgt := 394) dL_law_379 rfl (fun h => absurd (by decide) h) (fun _ => ?_)
    refine l_aload_n dL_law_382 rfl ?_
    refine l_iconst dL_law_383 ?_
    refine l_laload dL_law_384 ?_
    refine l_iload dL_law_385 rfl ?_
    refine l_i2l dL_law_387 ?_
    refine l_lcmpE dL_law_388 (by show w'.2.1 0 = (zI z').toInt64; rw [hw2, e3, hz']) ?_
    refine l_if_eq (tgt := 394) dL_law_389 rfl (fun _ => ?_) (fun h => absurd (by decide) h)
    refine l_goto (tgt := 3627) dL_law_394 rfl ?_
    refine l_weak (L' := [some (.ref 54), some (.ref 0), some (.ref 37), some (.ref 52), some (.ref 53), some (.int (zI i)), none, none, none]) (by simp [wkB]) (l_widen (by omega) (by omega) (loop _ ?_))
    exact hI2
  · obtain ⟨c2, hW2, hM⟩ := hP2 _ _ hE
    have ec : c2 = c := Wl_un hW2 hWc
    subst ec
    refine l_istore dL_law_352 (by decide) rfl ?_
    refine l_aload_n dL_law_354 rfl ?_
    refine l_arg (j := 1) hs (by omega) (by omega) h2 dL_law_355 dL_law_356 dL_law_358 dL_law_359 dL_law_360 rfl rfl ?_
    refine l_callM (av := [.int (zI (xs (i + 1).toNat).toInt)]) (o := 37) (rest := []) dL_law_361 mlL_178 md_X8_load hM rfl rfl rfl (by decide) (by decide) (by show _ ≤ 601024; omega) (by show _ ≤ 7293033; omega) (Nat.le_of_ble_eq_true rfl) (fun E M' h => h) (fun v M2 hq => ?_)
    obtain ⟨z', rfl, h0, hI2⟩ := hq
    refine l_istore dL_law_364 (by decide) rfl ?_
    refine l_aload_n dL_law_366 rfl ?_
    refine l_callM (av := []) (o := 37) (rest := []) dL_law_367 mlL_179 md_X8_thrown (m_thrown (M := M2)) rfl rfl rfl (by decide) (by decide) (by show _ ≤ 601024; omega) (by show _ ≤ 7293033; omega) (Nat.le_of_ble_eq_true rfl) (fun E M' h => h) (fun v M3 hq => ?_)
    obtain ⟨rfl, rfl⟩ := hq
    refine l_iload dL_law_370 rfl ?_
    refine l_icmp_eqT (tgt := 377) dL_law_372 rfl (by rw [h0]) ?_
    refine l_iload dL_law_377 rfl ?_
    refine l_if_ne (tgt := 394) dL_law_379 rfl (fun _ => ?_) (fun h => absurd h (Wl_z hWc))
    refine l_goto (tgt := 3627) dL_law_394 rfl ?_
    refine l_weak (L' := [some (.ref 54), some (.ref 0), some (.ref 37), some (.ref 52), some (.ref 53), some (.int (zI i)), none, none, none]) (by simp [wkB]) (l_widen (by omega) (by omega) (loop _ ?_))
    exact hI2
set_option maxHeartbeats 1000000 in
theorem lc_2 (hs : lScr X A Ls xs) (h2 : Ls ≤ 3072) (i0 : 0 ≤ i) (i6 : i + 6 ≤ Ls) (hI : Inv w.1) (hkc : kc + 6 ≤ 601024) (hks : ks + 36 ≤ 7293033) (loop : ∀ w' : lM, Inv w'.1 → LW X (cL_law, 9, rt, room_1, [], cy, A, Q) (kc + 6) (ks + 36) 3627 [some (.ref 54), some (.ref 0), some (.ref 37), some (.ref 52), some (.ref 53), some (.int (zI i)), none, none, none] [] w') : LW X (cL_law, 9, rt, room_1, [], cy, A, Q) kc ks 397 [some (.ref 54), some (.ref 0), some (.ref 37), some (.ref 52), some (.ref 53), some (.int (zI i)), none, none, none] [] w := by
  obtain ⟨P', hC, hP1, hP2⟩ := p_parseError hI 
  refine l_aload_n dL_law_397 rfl ?_
  refine l_callM (av := []) (o := 0) (rest := []) dL_law_398 mlL_182 md_X7_parseError hC rfl rfl rfl (by decide) (by decide) (by show _ ≤ 601024; omega) (by show _ ≤ 7293033; omega) (Nat.le_of_ble_eq_true rfl) (fun E M' h => (hP2 E M' h).elim fun c hc => hc.1) (fun v M' hp => ?_)
  obtain ⟨z, rfl, hM⟩ := hP1 v M' hp
  refine l_aload_n dL_law_401 rfl ?_
  refine l_callM (av := []) (o := 37) (rest := [.int (zI z)]) dL_law_402 mlL_185 md_X8_parseError hM rfl rfl rfl (by decide) (by decide) (by show _ ≤ 601024; omega) (by show _ ≤ 7293033; omega) (Nat.le_of_ble_eq_true rfl) (fun E M' h => h) (fun v M2 hq => ?_)
  obtain ⟨z', rfl, rfl, h0, hI2⟩ := hq
  refine l_icmp_eqT (tgt := 3627) dL_law_405 rfl rfl ?_
  refine l_weak (L' := [some (.ref 54), some (.ref 0), some (.ref 37), some (.ref 52), some (.ref 53), some (.int (zI i)), none, none, none]) (by simp [wkB]) (l_widen (by omega) (by omega) (loop _ ?_))
  exact hI2
set_option maxHeartbeats 1000000 in
theorem lc_9 (hs : lScr X A Ls xs) (h2 : Ls ≤ 3072) (i0 : 0 ≤ i) (i6 : i + 6 ≤ Ls) (hI : Inv w.1) (hkc : kc + 6 ≤ 601024) (hks : ks + 36 ≤ 7293033) (loop : ∀ w' : lM, Inv w'.1 → LW X (cL_law, 9, rt, room_1, [], cy, A, Q) (kc + 6) (ks + 36) 3627 [some (.ref 54), some (.ref 0), some (.ref 37), some (.ref 52), some (.ref 53), some (.int (zI i)), none, none, none] [] w') : LW X (cL_law, 9, rt, room_1, [], cy, A, Q) kc ks 672 [some (.ref 54), some (.ref 0), some (.ref 37), some (.ref 52), some (.ref 53), some (.int (zI i)), none, none, none] [] w := by
  obtain ⟨P', hC, hP1, hP2⟩ := p_ones hI (zR_of (xs (i + 1).toNat)) (zR_of (xs (i + 2).toNat)) (zR_of (xs (i + 3).toNat))
  refine l_aload_n dL_law_672 rfl ?_
  refine l_arg (j := 1) hs (by omega) (by omega) h2 dL_law_673 dL_law_674 dL_law_676 dL_law_677 dL_law_678 rfl rfl ?_
  refine l_arg (j := 2) hs (by omega) (by omega) h2 dL_law_679 dL_law_680 dL_law_682 dL_law_683 dL_law_684 rfl rfl ?_
  refine l_arg (j := 3) hs (by omega) (by omega) h2 dL_law_685 dL_law_686 dL_law_688 dL_law_689 dL_law_690 rfl rfl ?_
  refine l_aload_n dL_law_691 rfl ?_
  refine l_callW (av := [.ref 0, .int (zI (xs (i + 1).toNat).toInt), .int (zI (xs (i + 2).toNat).toInt), .int (zI (xs (i + 3).toNat).toInt), .ref 52]) (rest := []) dL_law_692 mlL_207 mdL_ones (w_ones hC (fun v M' h => (hP1 v M' h).elim fun z hz => ⟨z, hz.1⟩) (fun E M' h => (hP2 E M' h).elim fun c hc => ⟨c, hc.1⟩)) rfl (by decide) (by decide) (by show _ ≤ 601024; omega) (by show _ ≤ 7293033; omega) (Nat.le_of_ble_eq_true rfl) (fun v w' hq => ?_)
  rcases hq with ⟨z, M', rfl, hz, hw1, hw2⟩ | ⟨E, M', c, hWc, hE, rfl, rfl⟩
  · obtain ⟨z2, e2, hM⟩ := hP1 _ _ hz
    have e3 : zI z = zI z2 := by simpa using e2
    rw [← hw1] at hM
    refine l_istore dL_law_695 (by decide) rfl ?_
    refine l_aload_n dL_law_697 rfl ?_
    refine l_arg (j := 1) hs (by omega) (by omega) h2 dL_law_698 dL_law_699 dL_law_701 dL_law_702 dL_law_703 rfl rfl ?_
    refine l_arg (j := 2) hs (by omega) (by omega) h2 dL_law_704 dL_law_705 dL_law_707 dL_law_708 dL_law_709 rfl rfl ?_
    refine l_arg (j := 3) hs (by omega) (by omega) h2 dL_law_710 dL_law_711 dL_law_713 dL_law_714 dL_law_715 rfl rfl ?_
    refine l_callM (av := [.int (zI (xs (i + 1).toNat).toInt), .int (zI (xs (i + 2).toNat).toInt), .int (zI (xs (i + 3).toNat).toInt)]) (o := 37) (rest := []) dL_law_716 mlL_210 md_X8_ones hM rfl rfl rfl (by decide) (by decide) (by show _ ≤ 601024; omega) (by show _ ≤ 7293033; omega) (Nat.le_of_ble_eq_true rfl) (fun E M' h => h) (fun v M2 hq => ?_)
    obtain ⟨z', rfl, hz', h0, hI2⟩ := hq
    refine l_istore dL_law_719 (by decide) rfl ?_
    refine l_aload_n dL_law_721 rfl ?_
    refine l_callM (av := []) (o := 37) (rest := []) dL_law_722 mlL_179 md_X8_thrown (m_thrown (M := M2)) rfl rfl rfl (by decide) (by decide) (by show _ ≤ 601024; omega) (by show _ ≤ 7293033; omega) (Nat.le_of_ble_eq_true rfl) (fun E M' h => h) (fun v M3 hq => ?_)
    obtain ⟨rfl, rfl⟩ := hq
    refine l_iload dL_law_725 rfl ?_
    refine l_icmp_eqT (tgt := 732) dL_law_727 rfl (by rw [h0]) ?_
    refine l_iload dL_law_732 rfl ?_
    refine l_if_ne (tgt := 749) dL_law_734 rfl (fun h => absurd (by decide) h) (fun _ => ?_)
    refine l_aload_n dL_law_737 rfl ?_
    refine l_iconst dL_law_738 ?_
    refine l_laload dL_law_739 ?_
    refine l_iload dL_law_740 rfl ?_
    refine l_i2l dL_law_742 ?_
    refine l_lcmpE dL_law_743 (by show w'.2.1 0 = (zI z').toInt64; rw [hw2, e3, hz']) ?_
    refine l_if_eq (tgt := 749) dL_law_744 rfl (fun _ => ?_) (fun h => absurd (by decide) h)
    refine l_goto (tgt := 3627) dL_law_749 rfl ?_
    refine l_weak (L' := [some (.ref 54), some (.ref 0), some (.ref 37), some (.ref 52), some (.ref 53), some (.int (zI i)), none, none, none]) (by simp [wkB]) (l_widen (by omega) (by omega) (loop _ ?_))
    exact hI2
  · obtain ⟨c2, hW2, hM⟩ := hP2 _ _ hE
    have ec : c2 = c := W2_un hW2 hWc
    subst ec
    refine l_istore dL_law_695 (by decide) rfl ?_
    refine l_aload_n dL_law_697 rfl ?_
    refine l_arg (j := 1) hs (by omega) (by omega) h2 dL_law_698 dL_law_699 dL_law_701 dL_law_702 dL_law_703 rfl rfl ?_
    refine l_arg (j := 2) hs (by omega) (by omega) h2 dL_law_704 dL_law_705 dL_law_707 dL_law_708 dL_law_709 rfl rfl ?_
    refine l_arg (j := 3) hs (by omega) (by omega) h2 dL_law_710 dL_law_711 dL_law_713 dL_law_714 dL_law_715 rfl rfl ?_
    refine l_callM (av := [.int (zI (xs (i + 1).toNat).toInt), .int (zI (xs (i + 2).toNat).toInt), .int (zI (xs (i + 3).toNat).toInt)]) (o := 37) (rest := []) dL_law_716 mlL_210 md_X8_ones hM rfl rfl rfl (by decide) (by decide) (by show _ ≤ 601024; omega) (by show _ ≤ 7293033; omega) (Nat.le_of_ble_eq_true rfl) (fun E M' h => h) (fun v M2 hq => ?_)
    obtain ⟨z', rfl, h0, hI2⟩ := hq
    refine l_istore dL_law_719 (by decide) rfl ?_
    refine l_aload_n dL_law_721 rfl ?_
    refine l_callM (av := []) (o := 37) (rest := []) dL_law_722 mlL_179 md_X8_thrown (m_thrown (M := M2)) rfl rfl rfl (by decide) (by decide) (by show _ ≤ 601024; omega) (by show _ ≤ 7293033; omega) (Nat.le_of_ble_eq_true rfl) (fun E M' h => h) (fun v M3 hq => ?_)
    obtain ⟨rfl, rfl⟩ := hq
    refine l_iload dL_law_725 rfl ?_
    refine l_icmp_eqT (tgt := 732) dL_law_727 rfl (by rw [h0]) ?_
    refine l_iload dL_law_732 rfl ?_
    refine l_if_ne (tgt := 749) dL_law_734 rfl (fun _ => ?_) (fun h => absurd h (W2_z hWc))
    refine l_goto (tgt := 3627) dL_law_749 rfl ?_
    refine l_weak (L' := [some (.ref 54), some (.ref 0), some (.ref 37), some (.ref 52), some (.ref 53), some (.int (zI i)), none, none, none]) (by simp [wkB]) (l_widen (by omega) (by omega) (loop _ ?_))
    exact hI2
end CASES


/-! The law: isWithin, meanBits. -/
section LS
variable {X : qX} {cc : ByteArray} {nL : Nat} {ret : Option FieldType} {R : Room} {hh : lH} {cy : ClassId × ClassId} {A : Nat → Prop} {Q : State → Prop} {kc ks pc : Nat} {L : List (Option Value)} {st rest : List Value} {w : lM}
theorem l_dcmp {x y : UInt64} {op : CmpOp} (dd : decode cc pc = .ok (.dcmp op, 1)) (k : LW X (cc, nL, ret, R, hh, cy, A, Q) kc ks (pc + 1) L (.int (Op.cmpValue (FP.dcmp x y) op) :: st) w) : LW X (cc, nL, ret, R, hh, cy, A, Q) kc ks (pc) L (.double y :: .double x :: st) w := by
  obtain ⟨p, l, e, s, m, args, below, meth, c, dC, dI, cyI, cyZ, ad⟩ := X
  obtain ⟨cyL, cyD⟩ := cy
  intro ok H locs ls hP hS hl
  obtain ⟨hx, hb, hml, hown, hts, hret, hlocks, hex, hK, hinj, henv, hst, hne, hA1, hA2⟩ := id ok
  exact lv_dcmp hx hb dd (k ok H locs ls hP hS hl)
theorem l_dload {i : Nat} {x : UInt64} (dd : decode cc pc = .ok (.dload i, 2)) (hv : L[i]? = some (some (.double x))) (k : LW X (cc, nL, ret, R, hh, cy, A, Q) kc ks (pc + 2) L (.double x :: st) w) : LW X (cc, nL, ret, R, hh, cy, A, Q) kc ks (pc) L (st) w := by
  obtain ⟨p, l, e, s, m, args, below, meth, c, dC, dI, cyI, cyZ, ad⟩ := X
  obtain ⟨cyL, cyD⟩ := cy
  intro ok H locs ls hP hS hl
  obtain ⟨hx, hb, hml, hown, hts, hret, hlocks, hex, hK, hinj, henv, hst, hne, hA1, hA2⟩ := id ok
  exact lv_dload hx hb dd (qLs_at hl hv) (k ok H locs ls hP hS hl)
theorem l_dstore {i : Nat} {x : UInt64} (dd : decode cc pc = .ok (.dstore i, 2)) (hn : i + 1 < nL) (ho : qOk1 L i = true) (k : LW X (cc, nL, ret, R, hh, cy, A, Q) kc ks (pc + 2) ((L.set i (some (.double x))).set (i + 1) none) (st) w) : LW X (cc, nL, ret, R, hh, cy, A, Q) kc ks (pc) L (.double x :: st) w := by
  obtain ⟨p, l, e, s, m, args, below, meth, c, dC, dI, cyI, cyZ, ad⟩ := X
  obtain ⟨cyL, cyD⟩ := cy
  intro ok H locs ls hP hS hl
  obtain ⟨hx, hb, hml, hown, hts, hret, hlocks, hex, hK, hinj, henv, hst, hne, hA1, hA2⟩ := id ok
  exact lv_dstore hx hb dd hl hn rfl (fun ls' hl' => k ok H locs ls' hP hS (qLs_set2 ho hl'))
end LS
def lPoZ (W : String → Int → Prop) (P' : qP) (w : lM) : Option Value → lM → Prop := fun v w' => (∃ (z : Int) (M' : qM), v = some (.int (zI 0)) ∧ P'.1 (some (.int (zI z))) M' ∧ w'.1 = M' ∧ w'.2.1 0 = (if zI z = 0 then Int64.ofNat 0 else Int64.ofNat 1)) ∨ ∃ (E : String) (M' : qM) (c : Int), W E c ∧ P'.2 E M' ∧ v = some (.int (zI c)) ∧ w' = (M', w.2)
def lPoD (W : String → Int → Prop) (P' : qP) (w : lM) : Option Value → lM → Prop := fun v w' => (∃ (x : UInt64) (M' : qM), v = some (.int (zI 0)) ∧ P'.1 (some (.double x)) M' ∧ w'.1 = M' ∧ w'.2.2 0 = x) ∨ ∃ (E : String) (M' : qM) (c : Int), W E c ∧ P'.2 E M' ∧ v = some (.int (zI c)) ∧ w' = (M', w.2)
section WS
variable {w : lM} {P' : qP} {u' d' : Nat} {a b : Int}
set_option maxHeartbeats 1000000 in
theorem w_isWithin (hC : qCt mX7_isWithin u' d' [.ref 0, .int (zI a), .int (zI b)] w.1 P') (h1 : ∀ v M', P'.1 v M' → ∃ z, v = some (.int (zI z))) (h2 : ∀ E M', P'.2 E M' → ∃ c, W2 E c) : lCt mL_isWithin u' (d' + 1) [.ref 0, .int (zI a), .int (zI b), .ref 52] w (lPoZ W2 P' w) := by
  refine l_intro (L := [some (.ref 0), some (.int (zI a)), some (.int (zI b)), some (.ref 52), none]) mdL_isWithin rfl rfl (Nat.le_of_ble_eq_true rfl) (fun X cy => ?_)
  refine l_aload_n dL_isWithin_0 rfl ?_
  refine l_iconst dL_isWithin_1 ?_
  refine l_aload_n dL_isWithin_2 rfl ?_
  refine l_iload_n dL_isWithin_3 rfl ?_
  refine l_iload_n dL_isWithin_4 rfl ?_
  refine l_callX (av := [.int (zI a), .int (zI b)]) (o := 0) (rest := [.int (zI 0), .ref 52]) dL_isWithin_5 mlL_94 md_X7_isWithin hC rfl rfl rfl (by show d' + 7 ≤ d' + 1 + 6; omega) (by show 8 + (_ + 11) + (100 + 40 * d') ≤ 100 + 40 * (d' + 1); exact Nat.le_trans (Nat.add_le_add_right (Nat.le_of_ble_eq_true (rfl : Nat.ble _ 40 = true)) _) (by omega)) (by show 0 + u' ≤ u'; omega) (by show 0 + 6 * u' ≤ 6 * u'; omega) (Nat.le_of_ble_eq_true rfl) (fun v M' hp => ?_) (fun E M' hp => ?_)
  · obtain ⟨z, rfl⟩ := h1 v M' hp
    refine l_if_eq (tgt := 15) dL_isWithin_8 rfl (fun hz => ?_) (fun hz => ?_)
    · refine l_lconst dL_isWithin_15 ?_
      refine l_lastore dL_isWithin_16 (fun f hf => ?_)
      refine l_goto (tgt := 28) dL_isWithin_17 rfl ?_
      refine l_iconst dL_isWithin_28 ?_
      exact l_ireturn dL_isWithin_29 (by omega) (by omega) (Or.inl ⟨z, M', rfl, hp, rfl, by rw [if_pos hz]; exact hf⟩)
    · refine l_lconst dL_isWithin_11 ?_
      refine l_goto (tgt := 16) dL_isWithin_12 rfl ?_
      refine l_lastore dL_isWithin_16 (fun f hf => ?_)
      refine l_goto (tgt := 28) dL_isWithin_17 rfl ?_
      refine l_iconst dL_isWithin_28 ?_
      exact l_ireturn dL_isWithin_29 (by omega) (by omega) (Or.inl ⟨z, M', rfl, hp, rfl, by rw [if_neg hz]; exact hf⟩)
  · obtain ⟨c, hc⟩ := h2 E M' hp
    rcases id hc with ⟨rfl, rfl | rfl⟩
    · refine ⟨20, 2, 4, ⟨[], _, _, rfl, by decide, by decide, rfl, rfl, fun z hz => absurd hz List.not_mem_nil⟩, Nat.le_of_ble_eq_true rfl, Or.inr ⟨dL_isWithin_20, rfl⟩, ?_⟩
      refine l_iconst dL_isWithin_22 ?_
      exact l_ireturn dL_isWithin_23 (by omega) (by omega) (Or.inr ⟨_, M', _, hc, hp, rfl, rfl⟩)
    · refine ⟨24, 2, 4, ⟨[(0, 17, 20, 20)], _, _, rfl, by decide, by decide, rfl, rfl, fun z hz => by
        simp only [List.mem_cons, List.not_mem_nil, or_false] at hz
        rcases hz with rfl <;> exact ⟨_, rfl, by decide⟩⟩, Nat.le_of_ble_eq_true rfl, Or.inr ⟨dL_isWithin_24, rfl⟩, ?_⟩
      refine l_iconst dL_isWithin_26 ?_
      exact l_ireturn dL_isWithin_27 (by omega) (by omega) (Or.inr ⟨_, M', _, hc, hp, rfl, rfl⟩)
set_option maxHeartbeats 1000000 in
theorem w_meanBits (hC : qCt mX7_meanBits u' d' [.ref 0, .int (zI a)] w.1 P') (h1 : ∀ v M', P'.1 v M' → ∃ x, v = some (.double x)) (h2 : ∀ E M', P'.2 E M' → ∃ c, W2 E c) : lCt mL_meanBits u' (d' + 1) [.ref 0, .int (zI a), .ref 53] w (lPoD W2 P' w) := by
  refine l_intro (L := [some (.ref 0), some (.int (zI a)), some (.ref 53), none]) mdL_meanBits rfl rfl (Nat.le_of_ble_eq_true rfl) (fun X cy => ?_)
  refine l_aload_n dL_meanBits_0 rfl ?_
  refine l_iconst dL_meanBits_1 ?_
  refine l_aload_n dL_meanBits_2 rfl ?_
  refine l_iload_n dL_meanBits_3 rfl ?_
  refine l_callX (av := [.int (zI a)]) (o := 0) (rest := [.int (zI 0), .ref 53]) dL_meanBits_4 mlL_77 md_X7_meanBits hC rfl rfl rfl (by show d' + 7 ≤ d' + 1 + 6; omega) (by show 8 + (_ + 11) + (100 + 40 * d') ≤ 100 + 40 * (d' + 1); exact Nat.le_trans (Nat.add_le_add_right (Nat.le_of_ble_eq_true (rfl : Nat.ble _ 40 = true)) _) (by omega)) (by show 0 + u' ≤ u'; omega) (by show 0 + 6 * u' ≤ 6 * u'; omega) (Nat.le_of_ble_eq_true rfl) (fun v M' hp => ?_) (fun E M' hp => ?_)
  · obtain ⟨x, rfl⟩ := h1 v M' hp
    refine l_dastore dL_meanBits_7 (fun f hf => ?_)
    refine l_goto (tgt := 17) dL_meanBits_8 rfl ?_
    refine l_iconst dL_meanBits_17 ?_
    exact l_ireturn dL_meanBits_18 (by omega) (by omega) (Or.inl ⟨x, M', rfl, hp, rfl, hf⟩)
  · obtain ⟨c, hc⟩ := h2 E M' hp
    rcases id hc with ⟨rfl, rfl | rfl⟩
    · refine ⟨11, 1, 3, ⟨[], _, _, rfl, by decide, by decide, rfl, rfl, fun z hz => absurd hz List.not_mem_nil⟩, Nat.le_of_ble_eq_true rfl, Or.inl ⟨3, rfl, dL_meanBits_11, rfl⟩, ?_⟩
      refine l_iconst dL_meanBits_12 ?_
      exact l_ireturn dL_meanBits_13 (by omega) (by omega) (Or.inr ⟨_, M', _, hc, hp, rfl, rfl⟩)
    · refine ⟨14, 1, 3, ⟨[(0, 8, 11, 20)], _, _, rfl, by decide, by decide, rfl, rfl, fun z hz => by
        simp only [List.mem_cons, List.not_mem_nil, or_false] at hz
        rcases hz with rfl <;> exact ⟨_, rfl, by decide⟩⟩, Nat.le_of_ble_eq_true rfl, Or.inl ⟨3, rfl, dL_meanBits_14, rfl⟩, ?_⟩
      refine l_iconst dL_meanBits_15 ?_
      exact l_ireturn dL_meanBits_16 (by omega) (by omega) (Or.inr ⟨_, M', _, hc, hp, rfl, rfl⟩)
end WS
section CS
variable {X : qX} {rt : Option FieldType} {cy : ClassId × ClassId} {A : Nat → Prop} {Q : State → Prop} {kc ks : Nat} {Ls : Nat} {xs : Nat → Int32} {i : Int} {w : lM}
set_option maxHeartbeats 1000000 in
theorem lc_28 (hs : lScr X A Ls xs) (h2 : Ls ≤ 3072) (i0 : 0 ≤ i) (i6 : i + 6 ≤ Ls) (hI : Inv w.1) (hkc : kc + 6 ≤ 601024) (hks : ks + 36 ≤ 7293033) (loop : ∀ w' : lM, Inv w'.1 → LW X (cL_law, 9, rt, room_1, [], cy, A, Q) (kc + 6) (ks + 36) 3627 [some (.ref 54), some (.ref 0), some (.ref 37), some (.ref 52), some (.ref 53), some (.int (zI i)), none, none, none] [] w') : LW X (cL_law, 9, rt, room_1, [], cy, A, Q) kc ks 1983 [some (.ref 54), some (.ref 0), some (.ref 37), some (.ref 52), some (.ref 53), some (.int (zI i)), none, none, none] [] w := by
  obtain ⟨P', hC, hP1, hP2⟩ := p_isWithin hI (zR_of (xs (i + 1).toNat)) (zR_of (xs (i + 2).toNat))
  refine l_aload_n dL_law_1983 rfl ?_
  refine l_arg (j := 1) hs (by omega) (by omega) h2 dL_law_1984 dL_law_1985 dL_law_1987 dL_law_1988 dL_law_1989 rfl rfl ?_
  refine l_arg (j := 2) hs (by omega) (by omega) h2 dL_law_1990 dL_law_1991 dL_law_1993 dL_law_1994 dL_law_1995 rfl rfl ?_
  refine l_aload_n dL_law_1996 rfl ?_
  refine l_callW (av := [.ref 0, .int (zI (xs (i + 1).toNat).toInt), .int (zI (xs (i + 2).toNat).toInt), .ref 52]) (rest := []) dL_law_1997 mlL_268 mdL_isWithin (w_isWithin hC (fun v M' h => (hP1 v M' h).elim fun z hz => ⟨z, hz.1⟩) (fun E M' h => (hP2 E M' h).elim fun c hc => ⟨c, hc.1⟩)) rfl (by decide) (by decide) (by show _ ≤ 601024; omega) (by show _ ≤ 7293033; omega) (Nat.le_of_ble_eq_true rfl) (fun v w' hq => ?_)
  rcases hq with ⟨z, M', rfl, hz, hw1, hw2⟩ | ⟨E, M', c, hWc, hE, rfl, rfl⟩
  · obtain ⟨z2, e2, hM⟩ := hP1 _ _ hz
    have e3 : zI z = zI z2 := by simpa using e2
    rw [← hw1] at hM
    refine l_istore dL_law_2000 (by decide) rfl ?_
    refine l_aload_n dL_law_2002 rfl ?_
    refine l_arg (j := 1) hs (by omega) (by omega) h2 dL_law_2003 dL_law_2004 dL_law_2006 dL_law_2007 dL_law_2008 rfl rfl ?_
    refine l_arg (j := 2) hs (by omega) (by omega) h2 dL_law_2009 dL_law_2010 dL_law_2012 dL_law_2013 dL_law_2014 rfl rfl ?_
    refine l_callM (av := [.int (zI (xs (i + 1).toNat).toInt), .int (zI (xs (i + 2).toNat).toInt)]) (o := 37) (rest := []) dL_law_2015 mlL_270 md_X8_isWithin hM rfl rfl rfl (by decide) (by decide) (by show _ ≤ 601024; omega) (by show _ ≤ 7293033; omega) (Nat.le_of_ble_eq_true rfl) (fun E M' h => h) (fun v M2 hq => ?_)
    obtain ⟨z', rfl, hz', h0, hI2⟩ := hq
    refine l_istore dL_law_2018 (by decide) rfl ?_
    refine l_aload_n dL_law_2020 rfl ?_
    refine l_callM (av := []) (o := 37) (rest := []) dL_law_2021 mlL_179 md_X8_thrown (m_thrown (M := M2)) rfl rfl rfl (by decide) (by decide) (by show _ ≤ 601024; omega) (by show _ ≤ 7293033; omega) (Nat.le_of_ble_eq_true rfl) (fun E M' h => h) (fun v M3 hq => ?_)
    obtain ⟨rfl, rfl⟩ := hq
    refine l_iload dL_law_2024 rfl ?_
    refine l_icmp_eqT (tgt := 2031) dL_law_2026 rfl (by rw [h0]) ?_
    refine l_iload dL_law_2031 rfl ?_
    refine l_if_ne (tgt := 2055) dL_law_2033 rfl (fun h => absurd (by decide) h) (fun _ => ?_)
    refine l_aload_n dL_law_2036 rfl ?_
    refine l_iconst dL_law_2037 ?_
    refine l_laload dL_law_2038 ?_
    refine l_iload dL_law_2039 rfl ?_
    refine l_if_eq (tgt := 2048) dL_law_2041 rfl (fun hy => ?_) (fun hy => ?_)
    · refine l_lconst dL_law_2048 ?_
      refine l_lcmpE dL_law_2049 (by show w'.2.1 0 = _; rw [hw2, e3, ← hz', if_pos hy]; rfl) ?_
      refine l_if_eq (tgt := 2055) dL_law_2050 rfl (fun _ => ?_) (fun h => absurd (by decide) h)
      refine l_goto (tgt := 3627) dL_law_2055 rfl ?_
      refine l_weak (L' := [some (.ref 54), some (.ref 0), some (.ref 37), some (.ref 52), some (.ref 53), some (.int (zI i)), none, none, none]) (by simp [wkB]) (l_widen (by omega) (by omega) (loop _ ?_))
      exact hI2
    · refine l_lconst dL_law_2044 ?_
      refine l_goto (tgt := 2049) dL_law_2045 rfl ?_
      refine l_lcmpE dL_law_2049 (by show w'.2.1 0 = _; rw [hw2, e3, ← hz', if_neg hy]; rfl) ?_
      refine l_if_eq (tgt := 2055) dL_law_2050 rfl (fun _ => ?_) (fun h => absurd (by decide) h)
      refine l_goto (tgt := 3627) dL_law_2055 rfl ?_
      refine l_weak (L' := [some (.ref 54), some (.ref 0), some (.ref 37), some (.ref 52), some (.ref 53), some (.int (zI i)), none, none, none]) (by simp [wkB]) (l_widen (by omega) (by omega) (loop _ ?_))
      exact hI2
  · obtain ⟨c2, hW2, hM⟩ := hP2 _ _ hE
    have ec : c2 = c := W2_un hW2 hWc
    subst ec
    refine l_istore dL_law_2000 (by decide) rfl ?_
    refine l_aload_n dL_law_2002 rfl ?_
    refine l_arg (j := 1) hs (by omega) (by omega) h2 dL_law_2003 dL_law_2004 dL_law_2006 dL_law_2007 dL_law_2008 rfl rfl ?_
    refine l_arg (j := 2) hs (by omega) (by omega) h2 dL_law_2009 dL_law_2010 dL_law_2012 dL_law_2013 dL_law_2014 rfl rfl ?_
    refine l_callM (av := [.int (zI (xs (i + 1).toNat).toInt), .int (zI (xs (i + 2).toNat).toInt)]) (o := 37) (rest := []) dL_law_2015 mlL_270 md_X8_isWithin hM rfl rfl rfl (by decide) (by decide) (by show _ ≤ 601024; omega) (by show _ ≤ 7293033; omega) (Nat.le_of_ble_eq_true rfl) (fun E M' h => h) (fun v M2 hq => ?_)
    obtain ⟨z', rfl, h0, hI2⟩ := hq
    refine l_istore dL_law_2018 (by decide) rfl ?_
    refine l_aload_n dL_law_2020 rfl ?_
    refine l_callM (av := []) (o := 37) (rest := []) dL_law_2021 mlL_179 md_X8_thrown (m_thrown (M := M2)) rfl rfl rfl (by decide) (by decide) (by show _ ≤ 601024; omega) (by show _ ≤ 7293033; omega) (Nat.le_of_ble_eq_true rfl) (fun E M' h => h) (fun v M3 hq => ?_)
    obtain ⟨rfl, rfl⟩ := hq
    refine l_iload dL_law_2024 rfl ?_
    refine l_icmp_eqT (tgt := 2031) dL_law_2026 rfl (by rw [h0]) ?_
    refine l_iload dL_law_2031 rfl ?_
    refine l_if_ne (tgt := 2055) dL_law_2033 rfl (fun _ => ?_) (fun h => absurd h (W2_z hWc))
    refine l_goto (tgt := 3627) dL_law_2055 rfl ?_
    refine l_weak (L' := [some (.ref 54), some (.ref 0), some (.ref 37), some (.ref 52), some (.ref 53), some (.int (zI i)), none, none, none]) (by simp [wkB]) (l_widen (by omega) (by omega) (loop _ ?_))
    exact hI2
end CS


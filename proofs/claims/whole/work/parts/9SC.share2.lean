/-! The law: share. -/
section LS2
variable {X : qX} {cc : ByteArray} {nL : Nat} {ret : Option FieldType} {R : Room} {hh : lH} {cy : ClassId × ClassId} {A : Nat → Prop} {Q : State → Prop} {kc ks pc : Nat} {L : List (Option Value)} {st rest : List Value} {w : lM}
theorem l_f2d {x : UInt32} (dd : decode cc pc = .ok (.f2d, 1)) (hne2 : vf_n64 (FP.f2d x)) (k : LW X (cc, nL, ret, R, hh, cy, A, Q) kc ks (pc + 1) L (.double (FP.f2d x) :: st) w) : LW X (cc, nL, ret, R, hh, cy, A, Q) kc ks (pc) L (.float x :: st) w := by
  obtain ⟨p, l, e, s, m, args, below, meth, c, dC, dI, cyI, cyZ, ad⟩ := X
  obtain ⟨cyL, cyD⟩ := cy
  intro ok H locs ls hP hS hl
  obtain ⟨hx, hb, hml, hown, hts, hret, hlocks, hex, hK, hinj, henv, hst, hne, hA1, hA2⟩ := id ok
  exact lv_f2d hx hb dd hne2 (k ok H locs ls hP hS hl)
theorem l_fload {i : Nat} {x : UInt32} (dd : decode cc pc = .ok (.fload i, 2)) (hv : L[i]? = some (some (.float x))) (k : LW X (cc, nL, ret, R, hh, cy, A, Q) kc ks (pc + 2) L (.float x :: st) w) : LW X (cc, nL, ret, R, hh, cy, A, Q) kc ks (pc) L (st) w := by
  obtain ⟨p, l, e, s, m, args, below, meth, c, dC, dI, cyI, cyZ, ad⟩ := X
  obtain ⟨cyL, cyD⟩ := cy
  intro ok H locs ls hP hS hl
  obtain ⟨hx, hb, hml, hown, hts, hret, hlocks, hex, hK, hinj, henv, hst, hne, hA1, hA2⟩ := id ok
  exact lv_fload hx hb dd (qLs_at hl hv) (k ok H locs ls hP hS hl)
theorem l_fstore {i : Nat} {x : UInt32} (dd : decode cc pc = .ok (.fstore i, 2)) (hn : i < nL) (ho : qOk1 L i = true) (k : LW X (cc, nL, ret, R, hh, cy, A, Q) kc ks (pc + 2) (L.set i (some (.float x))) (st) w) : LW X (cc, nL, ret, R, hh, cy, A, Q) kc ks (pc) L (.float x :: st) w := by
  obtain ⟨p, l, e, s, m, args, below, meth, c, dC, dI, cyI, cyZ, ad⟩ := X
  obtain ⟨cyL, cyD⟩ := cy
  intro ok H locs ls hP hS hl
  obtain ⟨hx, hb, hml, hown, hts, hret, hlocks, hex, hK, hinj, henv, hst, hne, hA1, hA2⟩ := id ok
  exact lv_fstore hx hb dd hl hn rfl (fun ls' hl' => k ok H locs ls' hP hS (qLs_set ho hl'))
end LS2
def qPrF (W : String → Int → Prop) (mk mo : qY) (u dk dm : Nat) (al : List Value) (M : qM) : Prop := ∃ P : qP, qCt mk u dk (.ref 0 :: al) M P ∧ (∀ v M1, P.1 v M1 → ∃ d : Nat, d ≤ 2139095040 ∧ v = some (.float (UInt32.ofNat d)) ∧ qCt mo 0 dm (.ref 37 :: al) M1 (fun v' M2 => v' = some (.float (UInt32.ofNat d)) ∧ M2 37 0 = 0 ∧ Inv M2, fun _ _ => False)) ∧ ∀ E M1, P.2 E M1 → ∃ c, W E c ∧ qCt mo 0 dm (.ref 37 :: al) M1 (fun v' M2 => ∃ d : UInt32, v' = some (.float d) ∧ M2 37 0 = c ∧ Inv M2, fun _ _ => False)
set_option maxHeartbeats 1000000 in
theorem p_shareF {M : qM} {k : Int} (hI : Inv M) (hk : zR k) : qPrF W2 mX7_share mX8_share 2 9 9 [.int (zI k)] M := by
  obtain ⟨hC, hM, _⟩ := id hI
  obtain ⟨L, hR, hL4, h6, h11⟩ := Inv_L hI
  have f : ∀ M1, Scr M M1 → (∀ o, 37 ≤ o → M1 o = M o) := fun M1 e o ho => e.1 o (by unfold sfr; omega)
  refine ⟨_, k_share hC hR.1 hk, fun v M1 q => ?_, fun E M1 q => ?_⟩
  · obtain ⟨g, z, rfl, rfl, hS⟩ := q
    have e := f M1 hS
    have hI1 := Inv_Scr hI hS
    obtain ⟨n, hn, en⟩ := sh_le (t := tsz (rowc M k) L 0) (p := p4 L) (by have := tsz_in (rowc M k) L 0; have := tmax_in L hL4; omega) (by have := p4_in (L : Int); omega)
    refine ⟨n, hn, by rw [en], qCt_mono (o_share hI1.2.1 (by rw [e 37 (by decide)]; exact hR.2.1) hk) (fun v M2 w => ?_) (fun _ _ w => w.elim)⟩
    obtain ⟨z', rfl, w⟩ := w
    rw [gG2 hR (e 37 (by decide))] at w
    rcases w with ⟨w, _⟩ | ⟨_, w, w2⟩
    · exact absurd g w
    · simp only [gor_00] at g
      have hk0 := gM_in g.2.1
      have c1 := R_c hR hk0
      have es : scl M1 k = scl M k := by funext i; unfold scl; rw [e 39 (by decide)]
      rw [es, ← tsz_eL hL4 c1, en] at w
      exact ⟨by rw [w], by rw [MS_0 w2, qup_s], Inv_MS (Inv_0 hI1 0) w2⟩
  · obtain ⟨g, rfl, hS⟩ := q
    have e := f M1 hS
    have hI1 := Inv_Scr hI hS
    have r2 : rg2 (gor (gText M) (gor (gMap M k) 0)) := rg2_gor rgT (rg2_gor rgM rg2_0)
    refine ⟨_, ⟨rfl, by unfold rg2 at r2; omega⟩, qCt_mono (o_share hI1.2.1 (by rw [e 37 (by decide)]; exact hR.2.1) hk) (fun v M2 w => ?_) (fun _ _ w => w.elim)⟩
    obtain ⟨z', rfl, w⟩ := w
    rw [gG2 hR (e 37 (by decide))] at w
    rcases w with ⟨_, w⟩ | ⟨w, _⟩
    · exact ⟨_, rfl, by rw [MS_0 w, qup_s], Inv_MS (Inv_0 hI1 _) w⟩
    · exact absurd w g
def lPoS (W : String → Int → Prop) (P' : qP) (w : lM) : Option Value → lM → Prop := fun v w' => (∃ (n m : Nat) (M' : qM), v = some (.int (zI 0)) ∧ P'.1 (some (.float (UInt32.ofNat n))) M' ∧ w'.1 = M' ∧ n ≤ 2139095040 ∧ m ≤ 9218868437227405312 ∧ FP.f2d (UInt32.ofNat n) = UInt64.ofNat m ∧ w'.2.2 0 = UInt64.ofNat m) ∨ ∃ (E : String) (M' : qM) (c : Int), W E c ∧ P'.2 E M' ∧ v = some (.int (zI c)) ∧ w' = (M', w.2)
section WS2
variable {w : lM} {P' : qP} {u' d' : Nat} {a b : Int}
set_option maxHeartbeats 1000000 in
theorem w_share (hC : qCt mX7_share u' d' [.ref 0, .int (zI a)] w.1 P') (h1 : ∀ v M', P'.1 v M' → ∃ n : Nat, n ≤ 2139095040 ∧ v = some (.float (UInt32.ofNat n))) (h2 : ∀ E M', P'.2 E M' → ∃ c, W2 E c) : lCt mL_share u' (d' + 1) [.ref 0, .int (zI a), .ref 53] w (lPoS W2 P' w) := by
  refine l_intro (L := [some (.ref 0), some (.int (zI a)), some (.ref 53), none]) mdL_share rfl rfl (Nat.le_of_ble_eq_true rfl) (fun X cy => ?_)
  refine l_aload_n dL_share_0 rfl ?_
  refine l_iconst dL_share_1 ?_
  refine l_aload_n dL_share_2 rfl ?_
  refine l_iload_n dL_share_3 rfl ?_
  refine l_callX (av := [.int (zI a)]) (o := 0) (rest := [.int (zI 0), .ref 53]) dL_share_4 mlL_81 md_X7_share hC rfl rfl rfl (by show d' + 7 ≤ d' + 1 + 6; omega) (by show 8 + (_ + 11) + (100 + 40 * d') ≤ 100 + 40 * (d' + 1); exact Nat.le_trans (Nat.add_le_add_right (Nat.le_of_ble_eq_true (rfl : Nat.ble _ 40 = true)) _) (by omega)) (by show 0 + u' ≤ u'; omega) (by show 0 + 6 * u' ≤ 6 * u'; omega) (Nat.le_of_ble_eq_true rfl) (fun v M' hp => ?_) (fun E M' hp => ?_)
  · obtain ⟨n, hn, rfl⟩ := h1 v M' hp
    obtain ⟨m, hm, em⟩ := f2d_m hn
    refine l_f2d dL_share_7 (f2d_n hn) ?_
    refine l_dastore dL_share_8 (fun f hf => ?_)
    refine l_goto (tgt := 18) dL_share_9 rfl ?_
    refine l_iconst dL_share_18 ?_
    exact l_ireturn dL_share_19 (by omega) (by omega) (Or.inl ⟨n, m, M', rfl, hp, rfl, hn, hm, em, by rw [← em]; exact hf⟩)
  · obtain ⟨c, hc⟩ := h2 E M' hp
    rcases id hc with ⟨rfl, rfl | rfl⟩
    · refine ⟨12, 1, 3, ⟨[], _, _, rfl, by decide, by decide, rfl, rfl, fun z hz => absurd hz List.not_mem_nil⟩, Nat.le_of_ble_eq_true rfl, Or.inl ⟨3, rfl, dL_share_12, rfl⟩, ?_⟩
      refine l_iconst dL_share_13 ?_
      exact l_ireturn dL_share_14 (by omega) (by omega) (Or.inr ⟨_, M', _, hc, hp, rfl, rfl⟩)
    · refine ⟨15, 1, 3, ⟨[(0, 9, 12, 20)], _, _, rfl, by decide, by decide, rfl, rfl, fun z hz => by
        simp only [List.mem_cons, List.not_mem_nil, or_false] at hz
        rcases hz with rfl <;> exact ⟨_, rfl, by decide⟩⟩, Nat.le_of_ble_eq_true rfl, Or.inl ⟨3, rfl, dL_share_15, rfl⟩, ?_⟩
      refine l_iconst dL_share_16 ?_
      exact l_ireturn dL_share_17 (by omega) (by omega) (Or.inr ⟨_, M', _, hc, hp, rfl, rfl⟩)
end WS2
section CS2
variable {X : qX} {rt : Option FieldType} {cy : ClassId × ClassId} {A : Nat → Prop} {Q : State → Prop} {kc ks : Nat} {Ls : Nat} {xs : Nat → Int32} {i : Int} {w : lM}
set_option maxHeartbeats 1000000 in
theorem lc_24 (hs : lScr X A Ls xs) (h2 : Ls ≤ 3072) (i0 : 0 ≤ i) (i6 : i + 6 ≤ Ls) (hI : Inv w.1) (hkc : kc + 6 ≤ 601024) (hks : ks + 36 ≤ 7293033) (loop : ∀ w' : lM, Inv w'.1 → LW X (cL_law, 9, rt, room_1, [], cy, A, Q) (kc + 6) (ks + 36) 3627 [some (.ref 54), some (.ref 0), some (.ref 37), some (.ref 52), some (.ref 53), some (.int (zI i)), none, none, none] [] w') : LW X (cL_law, 9, rt, room_1, [], cy, A, Q) kc ks 1701 [some (.ref 54), some (.ref 0), some (.ref 37), some (.ref 52), some (.ref 53), some (.int (zI i)), none, none, none] [] w := by
  obtain ⟨P', hC, hP1, hP2⟩ := p_shareF hI (zR_of (xs (i + 1).toNat))
  refine l_aload_n dL_law_1701 rfl ?_
  refine l_arg (j := 1) hs (by omega) (by omega) h2 dL_law_1702 dL_law_1703 dL_law_1705 dL_law_1706 dL_law_1707 rfl rfl ?_
  refine l_aload dL_law_1708 rfl ?_
  refine l_callW (av := [.ref 0, .int (zI (xs (i + 1).toNat).toInt), .ref 53]) (rest := []) dL_law_1710 mlL_256 mdL_share (w_share hC (fun v M' h => (hP1 v M' h).elim fun z hz => ⟨z, hz.1, hz.2.1⟩) (fun E M' h => (hP2 E M' h).elim fun c hc => ⟨c, hc.1⟩)) rfl (by decide) (by decide) (by show _ ≤ 601024; omega) (by show _ ≤ 7293033; omega) (Nat.le_of_ble_eq_true rfl) (fun v w' hq => ?_)
  rcases hq with ⟨n, m, M', rfl, hz, hw1, hn, hm, em, hw2⟩ | ⟨E, M', c, hWc, hE, rfl, rfl⟩
  · obtain ⟨n2, hn2, e2, hM⟩ := hP1 _ _ hz
    have e3 : UInt32.ofNat n = UInt32.ofNat n2 := by simpa using e2
    rw [← e3] at hM
    rw [← hw1] at hM
    refine l_istore dL_law_1713 (by decide) rfl ?_
    refine l_aload_n dL_law_1715 rfl ?_
    refine l_arg (j := 1) hs (by omega) (by omega) h2 dL_law_1716 dL_law_1717 dL_law_1719 dL_law_1720 dL_law_1721 rfl rfl ?_
    refine l_callM (av := [.int (zI (xs (i + 1).toNat).toInt)]) (o := 37) (rest := []) dL_law_1722 mlL_258 md_X8_share hM rfl rfl rfl (by decide) (by decide) (by show _ ≤ 601024; omega) (by show _ ≤ 7293033; omega) (Nat.le_of_ble_eq_true rfl) (fun E M' h => h) (fun v M2 hq => ?_)
    obtain ⟨rfl, h0, hI2⟩ := hq
    refine l_fstore dL_law_1725 (by decide) rfl ?_
    refine l_aload_n dL_law_1727 rfl ?_
    refine l_callM (av := []) (o := 37) (rest := []) dL_law_1728 mlL_179 md_X8_thrown (m_thrown (M := M2)) rfl rfl rfl (by decide) (by decide) (by show _ ≤ 601024; omega) (by show _ ≤ 7293033; omega) (Nat.le_of_ble_eq_true rfl) (fun E M' h => h) (fun v M3 hq => ?_)
    obtain ⟨rfl, rfl⟩ := hq
    refine l_iload dL_law_1731 rfl ?_
    refine l_icmp_eqT (tgt := 1738) dL_law_1733 rfl (by rw [h0]) ?_
    refine l_iload dL_law_1738 rfl ?_
    refine l_if_ne (tgt := 1776) dL_law_1740 rfl (fun h => absurd (by decide) h) (fun _ => ?_)
    refine l_aload dL_law_1743 rfl ?_
    refine l_iconst dL_law_1745 ?_
    refine l_daload dL_law_1746 ?_
    refine l_fload dL_law_1747 rfl ?_
    refine l_f2d dL_law_1749 (f2d_n hn) ?_
    refine l_dcmp dL_law_1750 ?_
    show LW X (cL_law, 9, rt, room_1, [], cy, A, Q) _ _ _ _ [.int (Op.cmpValue (FP.dcmp (w'.2.2 0) (FP.f2d (UInt32.ofNat n))) .l)] _
    rw [hw2, em]
    refine l_if_eq (tgt := 1776) dL_law_1751 rfl (fun _ => ?_) (fun h => absurd (dcmp_0 hm) h)
    refine l_goto (tgt := 3627) dL_law_1776 rfl ?_
    refine l_weak (L' := [some (.ref 54), some (.ref 0), some (.ref 37), some (.ref 52), some (.ref 53), some (.int (zI i)), none, none, none]) (by simp [wkB]) (l_widen (by omega) (by omega) (loop _ ?_))
    exact hI2
  · obtain ⟨c2, hW2, hM⟩ := hP2 _ _ hE
    have ec : c2 = c := W2_un hW2 hWc
    subst ec
    refine l_istore dL_law_1713 (by decide) rfl ?_
    refine l_aload_n dL_law_1715 rfl ?_
    refine l_arg (j := 1) hs (by omega) (by omega) h2 dL_law_1716 dL_law_1717 dL_law_1719 dL_law_1720 dL_law_1721 rfl rfl ?_
    refine l_callM (av := [.int (zI (xs (i + 1).toNat).toInt)]) (o := 37) (rest := []) dL_law_1722 mlL_258 md_X8_share hM rfl rfl rfl (by decide) (by decide) (by show _ ≤ 601024; omega) (by show _ ≤ 7293033; omega) (Nat.le_of_ble_eq_true rfl) (fun E M' h => h) (fun v M2 hq => ?_)
    obtain ⟨z', rfl, h0, hI2⟩ := hq
    refine l_fstore dL_law_1725 (by decide) rfl ?_
    refine l_aload_n dL_law_1727 rfl ?_
    refine l_callM (av := []) (o := 37) (rest := []) dL_law_1728 mlL_179 md_X8_thrown (m_thrown (M := M2)) rfl rfl rfl (by decide) (by decide) (by show _ ≤ 601024; omega) (by show _ ≤ 7293033; omega) (Nat.le_of_ble_eq_true rfl) (fun E M' h => h) (fun v M3 hq => ?_)
    obtain ⟨rfl, rfl⟩ := hq
    refine l_iload dL_law_1731 rfl ?_
    refine l_icmp_eqT (tgt := 1738) dL_law_1733 rfl (by rw [h0]) ?_
    refine l_iload dL_law_1738 rfl ?_
    refine l_if_ne (tgt := 1776) dL_law_1740 rfl (fun _ => ?_) (fun h => absurd h (W2_z hWc))
    refine l_goto (tgt := 3627) dL_law_1776 rfl ?_
    refine l_weak (L' := [some (.ref 54), some (.ref 0), some (.ref 37), some (.ref 52), some (.ref 53), some (.int (zI i)), none, none, none]) (by simp [wkB]) (l_widen (by omega) (by omega) (loop _ ?_))
    exact hI2
end CS2


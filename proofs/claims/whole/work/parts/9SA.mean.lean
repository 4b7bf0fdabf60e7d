/-! The law: meanBits. -/
def qPrD (W : String → Int → Prop) (mk mo : qY) (u dk dm : Nat) (al : List Value) (M : qM) : Prop := ∃ P : qP, qCt mk u dk (.ref 0 :: al) M P ∧ (∀ v M1, P.1 v M1 → ∃ d, v = some (.double d) ∧ qCt mo 0 dm (.ref 37 :: al) M1 (fun v' M2 => v' = some (.double d) ∧ M2 37 0 = 0 ∧ Inv M2, fun _ _ => False)) ∧ ∀ E M1, P.2 E M1 → ∃ c, W E c ∧ qCt mo 0 dm (.ref 37 :: al) M1 (fun v' M2 => ∃ d, v' = some (.double d) ∧ M2 37 0 = c ∧ Inv M2, fun _ _ => False)
set_option maxHeartbeats 1000000 in
theorem p_meanBitsD {M : qM} {k : Int} (hI : Inv M) (hk : zR k) : qPrD W2 mX7_meanBits mX8_meanBits 2 9 9 [.int (zI k)] M := by
  obtain ⟨hC, hM, _⟩ := id hI
  obtain ⟨L, hR, hL4, h6, h11⟩ := Inv_L hI
  have f : ∀ M1, Scr M M1 → (∀ o, 37 ≤ o → M1 o = M o) := fun M1 e o ho => e.1 o (by unfold sfr; omega)
  refine ⟨_, k_meanBits hC hR.1 hk, fun v M1 q => ?_, fun E M1 q => ?_⟩
  · obtain ⟨g, z, rfl, rfl, hS⟩ := q
    have e := f M1 hS
    have hI1 := Inv_Scr hI hS
    refine ⟨_, rfl, qCt_mono (o_meanBits hI1.2.1 (by rw [e 37 (by decide)]; exact hR.2.1) hk) (fun v M2 w => ?_) (fun _ _ w => w.elim)⟩
    obtain ⟨z', rfl, w⟩ := w
    rw [gG2 hR (e 37 (by decide))] at w
    rcases w with ⟨w, _⟩ | ⟨_, w, w2⟩
    · exact absurd g w
    · simp only [gor_00] at g
      have hk0 := gM_in g.2.1
      have c1 := R_c hR hk0
      have es : scl M1 k = scl M k := by funext i; unfold scl; rw [e 39 (by decide)]
      rw [es, ← v_all c1, ← tsz_eL hL4 c1] at w
      exact ⟨by rw [w], by rw [MS_0 w2, qup_s], Inv_MS (Inv_0 hI1 0) w2⟩
  · obtain ⟨g, rfl, hS⟩ := q
    have e := f M1 hS
    have hI1 := Inv_Scr hI hS
    have r2 : rg2 (gor (gText M) (gor (gMap M k) 0)) := rg2_gor rgT (rg2_gor rgM rg2_0)
    refine ⟨_, ⟨rfl, by unfold rg2 at r2; omega⟩, qCt_mono (o_meanBits hI1.2.1 (by rw [e 37 (by decide)]; exact hR.2.1) hk) (fun v M2 w => ?_) (fun _ _ w => w.elim)⟩
    obtain ⟨z', rfl, w⟩ := w
    rw [gG2 hR (e 37 (by decide))] at w
    rcases w with ⟨_, w⟩ | ⟨w, _⟩
    · exact ⟨_, rfl, by rw [MS_0 w, qup_s], Inv_MS (Inv_0 hI1 _) w⟩
    · exact absurd w g
section CS
variable {X : qX} {rt : Option FieldType} {cy : ClassId × ClassId} {A : Nat → Prop} {Q : State → Prop} {kc ks : Nat} {Ls : Nat} {xs : Nat → Int32} {i : Int} {w : lM}
set_option maxHeartbeats 1000000 in
theorem lc_23 (hs : lScr X A Ls xs) (h2 : Ls ≤ 3072) (i0 : 0 ≤ i) (i6 : i + 6 ≤ Ls) (hI : Inv w.1) (hkc : kc + 6 ≤ 601024) (hks : ks + 36 ≤ 7293033) (loop : ∀ w' : lM, Inv w'.1 → LW X (cL_law, 9, rt, room_1, [], cy, A, Q) (kc + 6) (ks + 36) 3627 [some (.ref 54), some (.ref 0), some (.ref 37), some (.ref 52), some (.ref 53), some (.int (zI i)), none, none, none] [] w') : LW X (cL_law, 9, rt, room_1, [], cy, A, Q) kc ks 1624 [some (.ref 54), some (.ref 0), some (.ref 37), some (.ref 52), some (.ref 53), some (.int (zI i)), none, none, none] [] w := by
  obtain ⟨P', hC, hP1, hP2⟩ := p_meanBitsD hI (zR_of (xs (i + 1).toNat))
  refine l_aload_n dL_law_1624 rfl ?_
  refine l_arg (j := 1) hs (by omega) (by omega) h2 dL_law_1625 dL_law_1626 dL_law_1628 dL_law_1629 dL_law_1630 rfl rfl ?_
  refine l_aload dL_law_1631 rfl ?_
  refine l_callW (av := [.ref 0, .int (zI (xs (i + 1).toNat).toInt), .ref 53]) (rest := []) dL_law_1633 mlL_252 mdL_meanBits (w_meanBits hC (fun v M' h => (hP1 v M' h).elim fun z hz => ⟨z, hz.1⟩) (fun E M' h => (hP2 E M' h).elim fun c hc => ⟨c, hc.1⟩)) rfl (by decide) (by decide) (by show _ ≤ 601024; omega) (by show _ ≤ 7293033; omega) (Nat.le_of_ble_eq_true rfl) (fun v w' hq => ?_)
  rcases hq with ⟨z, M', rfl, hz, hw1, hw2⟩ | ⟨E, M', c, hWc, hE, rfl, rfl⟩
  · obtain ⟨z2, e2, hM⟩ := hP1 _ _ hz
    have e3 : z = z2 := by simpa using e2
    subst e3
    rw [← hw1] at hM
    refine l_istore dL_law_1636 (by decide) rfl ?_
    refine l_aload_n dL_law_1638 rfl ?_
    refine l_arg (j := 1) hs (by omega) (by omega) h2 dL_law_1639 dL_law_1640 dL_law_1642 dL_law_1643 dL_law_1644 rfl rfl ?_
    refine l_callM (av := [.int (zI (xs (i + 1).toNat).toInt)]) (o := 37) (rest := []) dL_law_1645 mlL_255 md_X8_meanBits hM rfl rfl rfl (by decide) (by decide) (by show _ ≤ 601024; omega) (by show _ ≤ 7293033; omega) (Nat.le_of_ble_eq_true rfl) (fun E M' h => h) (fun v M2 hq => ?_)
    obtain ⟨rfl, h0, hI2⟩ := hq
    refine l_dstore dL_law_1648 (by decide) rfl ?_
    refine l_aload_n dL_law_1650 rfl ?_
    refine l_callM (av := []) (o := 37) (rest := []) dL_law_1651 mlL_179 md_X8_thrown (m_thrown (M := M2)) rfl rfl rfl (by decide) (by decide) (by show _ ≤ 601024; omega) (by show _ ≤ 7293033; omega) (Nat.le_of_ble_eq_true rfl) (fun E M' h => h) (fun v M3 hq => ?_)
    obtain ⟨rfl, rfl⟩ := hq
    refine l_iload dL_law_1654 rfl ?_
    refine l_icmp_eqT (tgt := 1661) dL_law_1656 rfl (by rw [h0]) ?_
    refine l_iload dL_law_1661 rfl ?_
    refine l_if_ne (tgt := 1698) dL_law_1663 rfl (fun h => absurd (by decide) h) (fun _ => ?_)
    refine l_aload dL_law_1666 rfl ?_
    refine l_iconst dL_law_1668 ?_
    refine l_daload dL_law_1669 ?_
    refine l_dload dL_law_1670 rfl ?_
    refine l_dcmp dL_law_1672 ?_
    show LW X (cL_law, 9, rt, room_1, [], cy, A, Q) _ _ _ _ [.int (Op.cmpValue (FP.dcmp (w'.2.2 0) z) .l)] _
    rw [hw2]
    generalize hr : Op.cmpValue (FP.dcmp z z) .l = r
    refine l_if_eq (tgt := 1698) dL_law_1673 rfl (fun _ => ?_) (fun hr0 => ?_)
    · refine l_goto (tgt := 3627) dL_law_1698 rfl ?_
      refine l_weak (L' := [some (.ref 54), some (.ref 0), some (.ref 37), some (.ref 52), some (.ref 53), some (.int (zI i)), none, none, none]) (by simp [wkB]) (l_widen (by omega) (by omega) (loop _ ?_))
      exact hI2
    · refine l_aload dL_law_1676 rfl ?_
      refine l_iconst dL_law_1678 ?_
      refine l_daload dL_law_1679 ?_
      refine l_aload dL_law_1680 rfl ?_
      refine l_iconst dL_law_1682 ?_
      refine l_daload dL_law_1683 ?_
      refine l_dcmp dL_law_1684 ?_
      show LW X (cL_law, 9, rt, room_1, [], cy, A, Q) _ _ _ _ [.int (Op.cmpValue (FP.dcmp (w'.2.2 0) (w'.2.2 0)) .l)] _
      rw [hw2, hr]
      refine l_if_eq (tgt := 1696) dL_law_1685 rfl (fun h => absurd h hr0) (fun _ => ?_)
      refine l_dload dL_law_1688 rfl ?_
      refine l_dload dL_law_1690 rfl ?_
      refine l_dcmp dL_law_1692 ?_
      rw [hr]
      refine l_if_ne (tgt := 1698) dL_law_1693 rfl (fun _ => ?_) (fun h => absurd h hr0)
      refine l_goto (tgt := 3627) dL_law_1698 rfl ?_
      refine l_weak (L' := [some (.ref 54), some (.ref 0), some (.ref 37), some (.ref 52), some (.ref 53), some (.int (zI i)), none, none, none]) (by simp [wkB]) (l_widen (by omega) (by omega) (loop _ ?_))
      exact hI2
  · obtain ⟨c2, hW2, hM⟩ := hP2 _ _ hE
    have ec : c2 = c := W2_un hW2 hWc
    subst ec
    refine l_istore dL_law_1636 (by decide) rfl ?_
    refine l_aload_n dL_law_1638 rfl ?_
    refine l_arg (j := 1) hs (by omega) (by omega) h2 dL_law_1639 dL_law_1640 dL_law_1642 dL_law_1643 dL_law_1644 rfl rfl ?_
    refine l_callM (av := [.int (zI (xs (i + 1).toNat).toInt)]) (o := 37) (rest := []) dL_law_1645 mlL_255 md_X8_meanBits hM rfl rfl rfl (by decide) (by decide) (by show _ ≤ 601024; omega) (by show _ ≤ 7293033; omega) (Nat.le_of_ble_eq_true rfl) (fun E M' h => h) (fun v M2 hq => ?_)
    obtain ⟨z', rfl, h0, hI2⟩ := hq
    refine l_dstore dL_law_1648 (by decide) rfl ?_
    refine l_aload_n dL_law_1650 rfl ?_
    refine l_callM (av := []) (o := 37) (rest := []) dL_law_1651 mlL_179 md_X8_thrown (m_thrown (M := M2)) rfl rfl rfl (by decide) (by decide) (by show _ ≤ 601024; omega) (by show _ ≤ 7293033; omega) (Nat.le_of_ble_eq_true rfl) (fun E M' h => h) (fun v M3 hq => ?_)
    obtain ⟨rfl, rfl⟩ := hq
    refine l_iload dL_law_1654 rfl ?_
    refine l_icmp_eqT (tgt := 1661) dL_law_1656 rfl (by rw [h0]) ?_
    refine l_iload dL_law_1661 rfl ?_
    refine l_if_ne (tgt := 1698) dL_law_1663 rfl (fun _ => ?_) (fun h => absurd h (W2_z hWc))
    refine l_goto (tgt := 3627) dL_law_1698 rfl ?_
    refine l_weak (L' := [some (.ref 54), some (.ref 0), some (.ref 37), some (.ref 52), some (.ref 53), some (.int (zI i)), none, none, none]) (by simp [wkB]) (l_widen (by omega) (by omega) (loop _ ?_))
    exact hI2
end CS


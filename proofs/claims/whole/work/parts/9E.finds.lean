/-! What the class answers the model answers: what is written, counted, found. -/
def W0 (_ : String) (_ : Int) : Prop := False
def Wc (E : String) (c : Int) : Prop := (E = qEISE ∧ c = 1) ∨ (E = qEIAE ∧ c = 2)
def Wt (E : String) (c : Int) : Prop := E = qEIOE ∧ c = 1
section PRW
variable {M : qM} {k o p f t l x y q i b w n : Int}
set_option maxHeartbeats 1000000 in
theorem p_count (hI : Inv M) (hq : zR q) : qPr Wc mX7_count mX8_count 2 9 10 [.int (zI q)] M := by
  obtain ⟨hC, hM, _⟩ := id hI
  obtain ⟨L, hR, hL4, h6, h11⟩ := Inv_L hI
  have hpL := p4_in (L : Int)
  refine pr_q (R' := fun M1 z' M2 => _) hI (k_count hC hR.1 hq) (fun z M1 q => q.2) (fun M1 e i l => o_count i (by rw [l]; exact hR.2.1) hq) (fun M1 e37 es e => ?_) (fun z M1 z' M2 es e37 e g q q' => ?_)
  · rw [gT_e hR]
    unfold mT
    rw [e37]
    by_cases h1 : M 37 1 = 1
    · rw [if_pos h1, gor_0 rfl, gor_0 rfl, gor_z]
      by_cases h2 : 0 ≤ q ∧ q ≤ 3
      · rw [if_pos h2, if_pos h2]; exact ⟨fun _ => rfl, fun h => absurd rfl h⟩
      · rw [if_neg h2, if_neg h2]; exact ⟨fun h => by omega, fun _ => ⟨by decide, Or.inr ⟨rfl, rfl⟩⟩⟩
    · rw [if_neg h1, gor_n (by decide), gor_n (by decide)]
      exact ⟨fun h => by omega, fun _ => ⟨by decide, Or.inl ⟨rfl, rfl⟩⟩⟩
  · obtain ⟨q1, q2⟩ := q
    obtain ⟨q3, q4⟩ := q'
    refine ⟨?_, q4⟩
    rw [q3, q1]
    unfold cntM cntF
    rw [es, e37, h11, zsum_congr (f := fun k => tsz (rowc M k) L 0) (g := fun k => tsz (scl M k) L 0) (fun i i0 i1 => tsz_eL hL4 (R_c hR ⟨i0, by omega⟩))]
theorem p_textByte (hI : Inv M) (hi : zR i) : qPr Wt mX7_textByte mX8_textByte 1 9 1 [.int (zI i)] M := by
  obtain ⟨hC, hM, _⟩ := id hI
  obtain ⟨L, hR, hL4, h6, h11⟩ := Inv_L hI
  refine pr_q (R' := fun M1 z' M2 => _) hI (k_textByte hC hi) (fun z M1 q => by rw [q.2]; exact Scr_rf hC) (fun M1 e h l => o_textByte h hi) (fun M1 e37 es e => ?_) (fun z M1 z' M2 es e37 e g q q' => ?_)
  · rw [e37, gor_z, hR.2.2.2.2.2.2.2.2.1]
    unfold gByte
    by_cases h2 : 0 ≤ i ∧ i < M 37 35
    · rw [if_pos h2, if_pos h2]; exact ⟨fun _ => rfl, fun h => absurd rfl h⟩
    · rw [if_neg h2, if_neg h2]; exact ⟨fun h => by omega, fun _ => ⟨by decide, rfl, rfl⟩⟩
  · obtain ⟨q1, q2⟩ := q
    obtain ⟨q3, q4⟩ := q'
    exact ⟨by rw [q3, q1, e 51 (by decide), hR.2.2.2.2.2.2.2.2.2.1], by rw [q4]; exact MS_rf _⟩
theorem pr_e {mk mo : qY} {z : Int} {z' : Int} (hI : Inv M) (hk : qCt mk 0 9 [.ref 0] M (qpe z M)) (ho : qCt mo 0 0 [.ref 37] M (qpe z' (qup M 37 0 0))) (hz : z' = z) : qPr W0 mk mo 0 9 0 [] M := by
  refine ⟨_, hk, fun v M1 q => ?_, fun E M1 q => q.elim⟩
  obtain ⟨rfl, rfl⟩ := q
  refine ⟨z, rfl, qCt_mono ho (fun v M2 w => ?_) (fun _ _ w => w.elim)⟩
  obtain ⟨rfl, rfl⟩ := w
  exact ⟨z', rfl, hz, qup_s _ _ _ _, Inv_0 hI 0⟩
theorem p_parseError (hI : Inv M) : qPr W0 mX7_parseError mX8_parseError 0 9 0 [] M := by
  obtain ⟨L, hR, _⟩ := Inv_L hI
  exact pr_e hI k_parseError o_parseError hR.2.2.2.2.1.symm
theorem p_errorPosition (hI : Inv M) : qPr W0 mX7_errorPosition mX8_errorPosition 0 9 0 [] M := by
  obtain ⟨L, hR, _⟩ := Inv_L hI
  exact pr_e hI k_errorPosition o_errorPosition hR.2.2.2.2.2.1.symm
theorem p_buffered (hI : Inv M) : qPr W0 mX7_buffered mX8_buffered 0 9 0 [] M := by
  obtain ⟨L, hR, _⟩ := Inv_L hI
  exact pr_e hI k_buffered o_buffered hR.2.2.2.2.2.2.1.symm
theorem p_undoable (hI : Inv M) : qPr W0 mX7_undoable mX8_undoable 0 9 0 [] M := by
  obtain ⟨L, hR, _⟩ := Inv_L hI
  exact pr_e hI k_undoable o_undoable hR.2.2.2.2.2.2.2.2.2.2.2.2.1.symm
theorem nm_v {g I : Int → Int} {v : Int} (h : nmR g v) (hb : ∀ j, 0 ≤ j → j < n → 0 ≤ I j) : nmP g I 0 n ↔ (nameV I n ≠ -1 ∧ v = nameV I n) := by
  have key : (1 ≤ n ∧ n ≤ 6) → (∀ j, 0 ≤ j → j < n → 97 ≤ I j ∧ I j ≤ 122) → nameV I n = wc I 0 n.toNat ∧ nameV I n ≠ -1 := by
    intro hn hl
    have h0 := hl 0 (by omega) (by omega)
    have eS : tS I n 0 = 0 := by
      unfold tS
      exact skp_st (by omega) (fun w => by have := isBl_i.mp w; omega)
    have hlt : isLt (I 0) = true := isLt_i.mpr h0
    have eE : tE I n 0 = n := by
      unfold tE
      rw [eS, if_neg (by omega), if_pos hlt]
      have hi := skp_in (P := isLt) (I := I) (n - 0).toNat 0
      by_cases w : skp isLt I 0 (n - 0).toNat < n
      · exact absurd (isLt_i.mpr (hl _ hi.1 w)) (skp_no _ 0 (by omega))
      · omega
    have eK : tK I n 0 = 1 := by
      unfold tK
      rw [eS, eE, if_neg (by omega), if_pos hlt, if_pos (by omega)]
    have eV : tV I n 0 = wc I 0 n.toNat := by
      unfold tV
      rw [eS, eE, if_neg (by omega), if_pos hlt, show n - 0 = n by omega]
    have hw := wc_in (I := I) (s := 0) n.toNat (by omega) (fun j hj => hl _ (by omega) (by omega))
    have e : nameV I n = wc I 0 n.toNat := by unfold nameV; rw [if_pos ⟨eK, eS, eE⟩, eV]
    exact ⟨e, by rw [e]; omega⟩
  constructor
  · intro q
    obtain ⟨J, len, l1, l6, hJ, hv, hg⟩ := id h
    have hn : 1 ≤ n ∧ n ≤ 6 := by have := q.1; omega
    have hl : ∀ j, 0 ≤ j → j < n → 97 ≤ I j ∧ I j ≤ 122 := fun j j0 j1 => by
      have q2 := q.2 j j0 (by omega)
      have e2 := q2.1
      have n2 := q2.2
      rw [Int.zero_add] at e2 n2
      rw [if_pos j1] at e2
      have e3 := hg j j0 (by omega)
      by_cases w : j < len
      · rw [if_pos w] at e3
        have := hJ j.toNat (by omega)
        rw [show (0 : Int) + ((j.toNat : Nat) : Int) = j by omega] at this
        rw [← e2, e3]
        exact this
      · rw [if_neg w] at e3
        exact absurd (e2.symm.trans e3) (n2 j1)
    obtain ⟨e, hne⟩ := key hn hl
    refine ⟨hne, ?_⟩
    rw [e]
    have := (nmP_word (b := 0) (e := n) h (by omega) (fun j j0 j1 => hl j j0 j1)).mp q
    rw [show n - 0 = n by omega] at this
    exact this
  · intro q
    have hV : tK I n 0 = 1 ∧ tS I n 0 = 0 ∧ tE I n 0 = n := by
      by_cases w : tK I n 0 = 1 ∧ tS I n 0 = 0 ∧ tE I n 0 = n
      · exact w
      · exact absurd (by unfold nameV; rw [if_neg w]) q.1
    obtain ⟨eK, eS, eE⟩ := hV
    have hn0 : ¬ n ≤ 0 := fun w => by
      have := tK_0 (I := I) (n := n) (p := 0)
      rw [eS] at this
      have := this.mpr w
      omega
    have hlt : isLt (I 0) = true := by
      by_cases w : isLt (I 0) = true
      · exact w
      · exfalso
        unfold tK at eK
        rw [eS, if_neg (by omega), if_neg w] at eK
        by_cases w2 : isDg (I 0) = true
        · rw [if_pos w2] at eK
          by_cases w3 : tE I n 0 - 0 ≤ 4
          · rw [if_pos w3] at eK; omega
          · rw [if_neg w3] at eK; omega
        · rw [if_neg w2] at eK
          by_cases w3 : I 0 = 59
          · rw [if_pos w3] at eK; omega
          · rw [if_neg w3] at eK; omega
    have hn6 : n ≤ 6 := by
      unfold tK at eK
      rw [eS, eE, if_neg (by omega), if_pos hlt] at eK
      by_cases w : n - 0 ≤ 6
      · omega
      · rw [if_neg w] at eK; omega
    have hl : ∀ j, 0 ≤ j → j < n → 97 ≤ I j ∧ I j ≤ 122 := fun j j0 j1 => by
      unfold tE at eE
      rw [eS, if_neg (by omega), if_pos hlt] at eE
      exact isLt_i.mp (skp_all (P := isLt) (I := I) (n - 0).toNat 0 j j0 (by omega))
    obtain ⟨e, _⟩ := key ⟨by omega, hn6⟩ hl
    refine (nmP_word (b := 0) (e := n) h (by omega) (fun j j0 j1 => hl j j0 j1)).mpr ?_
    rw [show n - 0 = n by omega, ← e]
    exact q.2
set_option maxHeartbeats 1000000 in
theorem p_writeTree (hI : Inv M) (hk : zR k) : qPr W2 mX7_writeTree mX8_writeTree 2 9 9 [.int (zI k)] M := by
  obtain ⟨hC, hM, _⟩ := id hI
  obtain ⟨L, hR, hL4, h6, h11⟩ := Inv_L hI
  have hpL := p4_in (L : Int)
  refine pr_c (R' := fun M1 z' M2 => _) hI (k_writeTree hC hR.1 hk) (fun z M1 q => tx_f q.2) (fun M1 i l => o_writeTree i (by rw [l]; exact hR.2.1) hk) (fun M1 e37 es e => ?_) (fun z M1 z' M2 es e37 e g q q' => ?_)
  · refine gq2 ?_ (rg2_gor (rgT) (rg2_gor (rgM) rg2_0))
    rw [gT_e hR, gM_e (k := k) hR]
    simp only [gG, gor_as, gor_z]
    unfold mT mMp 
    rw [e37]
  · rw [es] at q'
    obtain ⟨q1, q2⟩ := q
    obtain ⟨q3, q4⟩ := q'
    simp only [gor_00] at g
    obtain ⟨gT, gMk, _⟩ := g
    have hk0 := gM_in gMk
    have c1 := R_c hR hk0
    have el : spl (rowc M k) L 0 = spl (scl M k) L 0 := v_spl L hL4 0 (Int.le_refl 0) (cE_blk hL4 c1 ⟨by omega, Int.le_refl _⟩ ⟨Int.le_refl 0, by rw [show (L : Int) - L = 0 by omega]; decide⟩)
    have hlen : (spl (rowc M k) L 0).length ≤ 1023 := Nat.le_trans (spl_len (rowc M k) L 0).2 (by have h5 : L = 0 ∨ L = 1 ∨ L = 2 ∨ L = 3 ∨ L = 4 := by omega
                                                                                                  rcases h5 with h5 | h5 | h5 | h5 | h5 <;> subst h5 <;> decide)
    rw [← el] at q4
    exact ⟨by rw [q3, q1, el], by rw [MS_0 q4]; exact txD_0, Inv_MS (Inv_txS hI hlen q2) q4⟩
set_option maxHeartbeats 1000000 in
theorem p_writeBytes (hI : Inv M) (hk : zR k) : qPr W2 mX7_writeBytes mX8_writeBytes 2 9 9 [.int (zI k)] M := by
  obtain ⟨hC, hM, _⟩ := id hI
  obtain ⟨L, hR, hL4, h6, h11⟩ := Inv_L hI
  have hpL := p4_in (L : Int)
  refine pr_c (R' := fun M1 z' M2 => _) hI (k_writeBytes hC hR.1 hk) (fun z M1 q => by obtain ⟨_, N, _, q⟩ := q; exact tx_f q) (fun M1 i l => o_writeBytes i (by rw [l]; exact hR.2.1) hk) (fun M1 e37 es e => ?_) (fun z M1 z' M2 es e37 e g q q' => ?_)
  · refine gq2 ?_ (rg2_gor (rgT) (rg2_gor (rgM) rg2_0))
    rw [gT_e hR, gM_e (k := k) hR]
    simp only [gG, gor_as, gor_z]
    unfold mT mMp 
    rw [e37]
  · rw [es] at q'
    obtain ⟨q1, q2⟩ := q
    obtain ⟨q3, q4⟩ := q'
    simp only [gor_00] at g
    obtain ⟨gT, gMk, _⟩ := g
    have hk0 := gM_in gMk
    have c1 := R_c hR hk0
    obtain ⟨N, hN, q2⟩ := q2
    obtain ⟨N', hN', q4⟩ := q4
    have et := tsz_eL hL4 c1
    have hti := tsz_in (rowc M k) L 0
    have htm := tmax_in L hL4
    rw [← et] at q3 q4
    have el : byl N (tsz (rowc M k) L 0).toNat = byl N' (tsz (rowc M k) L 0).toNat := v_byl _ (fun i i0 i1 => v_byte hL4 c1 hN hN' ⟨i0, by rw [← et]; omega⟩)
    have hlen : (byl N (tsz (rowc M k) L 0).toNat).length ≤ 1023 := by rw [byl_len]; omega
    rw [← el] at q4
    exact ⟨by rw [q3, q1], by rw [MS_0 q4]; exact txD_0, Inv_MS (Inv_txS hI hlen q2) q4⟩
set_option maxHeartbeats 1000000 in
theorem p_writeBits (hI : Inv M) (hk : zR k) (hf : zR f) (ht : zR t) : qPr W3 mX7_writeBits mX8_writeBits 6 9 4 [.int (zI k), .int (zI f), .int (zI t)] M := by
  obtain ⟨hC, hM, _⟩ := id hI
  obtain ⟨L, hR, hL4, h6, h11⟩ := Inv_L hI
  have hpL := p4_in (L : Int)
  refine pr_c (R' := fun M1 z' M2 => _) hI (k_writeBits hC hR.1 hk hf ht) (fun z M1 q => by intro o ho; rw [q.2]; exact txA_o (by omega) (by omega)) (fun M1 i l => o_writeBits i (by rw [l]; exact hR.2.1) hk hf ht) (fun M1 e37 es e => ?_) (fun z M1 z' M2 es e37 e g q q' => ?_)
  · refine gq3 ?_ (rg3_gor (rg23 (rgT)) (rg3_gor (rg23 (rgM)) (rg3_gor (rg23 (rgR)) (rg3_gor (rg3_i (Or.inr (Or.inr rfl))) (rg23 rg2_0)))))
    rw [gT_e hR, gM_e (k := k) hR, gR_e hR]
    simp only [gG, gor_as, gor_z]
    unfold mT mMp mRg
    rw [e37]
  · rw [es] at q'
    obtain ⟨q1, q2⟩ := q
    obtain ⟨q3, q4⟩ := q'
    simp only [gor_00] at g
    obtain ⟨gT, gMk, gR, gi3, _⟩ := g
    have hk0 := gM_in gMk
    have c1 := R_c hR hk0
    have hr := CI_rg hR.1 gR
    have hlt : t - f < 200 := by
      by_cases w : t - f < 200
      · exact w
      · rw [if_neg w] at gi3; omega
    have el := v_bil c1 hr.1 (t - f + 1).toNat (by omega)
    have hlen : (bil (rowc M k) f (t - f + 1).toNat).length ≤ 1023 := by rw [bil_len]; omega
    have hS : Scr (bputs (qup M 31 1 0) 31 32 (bil (rowc M k) f (t - f + 1).toNat)) M1 := by rw [q2]; exact Scr_rf (CI_text hC hlen)
    rw [← el] at q4
    exact ⟨by rw [q3, q1], by rw [MS_0 q4]; exact txD_0, Inv_MS (Inv_txS hI hlen hS) q4⟩

theorem geN (hR : ∃ L, qRl M L) {M1 : qM} (e37 : M1 37 = M 37) : gor (mT M1) (gBm M1 n) = gor (gText M) (gor (gBuf M n) 0) := by
  obtain ⟨L, hR⟩ := hR
  rw [gT_e hR, gF_e hR, gor_z]
  unfold mT gBm
  rw [e37]
set_option maxHeartbeats 1000000 in
theorem p_find (hI : Inv M) (hn : zR n) : qPr W2 mX7_find mX8_find 2 9 3 [.int (zI n)] M := by
  obtain ⟨hC, hM, _⟩ := id hI
  obtain ⟨L, hR, hL4, h6, h11⟩ := Inv_L hI
  refine pr_c (R' := fun M1 z' M2 => _) hI (k_find hC hR.1 hn) (fun z M1 q => clr_f q.2) (fun M1 i l => o_find i hn) (fun M1 e37 es e => ?_) (fun z M1 z' M2 es e37 e g q q' => ?_)
  · exact gq2 (geN ⟨L, hR⟩ e37) (rg2_gor rgT (rg2_gor rgF rg2_0))
  · obtain ⟨q1, q2⟩ := q
    obtain ⟨q3, q4⟩ := q'
    simp only [gor_00] at g
    have hn1 := gN_in g.2.1
    have hI2 := Inv_0 (Inv_clrS hI q2) 0
    have ec : qup (qup M1 37 0 0) 37 21 0 = qup (clD M1) 37 0 0 := by
      funext o j
      unfold clD qup
      by_cases w : o = 37
      · by_cases w1 : j = 0
        · simp [w, w1]
        · simp [w, w1]
      · simp [w]
    rw [ec] at q4
    refine ⟨?_, by rw [MS_0 q4, qup_s], Inv_MS hI2 q4⟩
    rw [e37, e 38 (by decide), e 48 (by decide), ← hR.2.2.2.2.2.2.2.1, ← h11] at q3
    refine frst_un q3 (frst_e (fun i i0 i1 => ?_) q1)
    have hb := hM.2.2.2.2.2.2.2.2.2.1
    exact (nm_v (hR.2.2.2.2.2.2.2.2.2.2.1 i i0 (by omega)) (fun j j0 j1 => by rw [hR.2.2.2.2.2.2.2.1]; exact (hb j j0 (by have := hR.2.2.2.2.2.2.1; omega)).1)).symm
set_option maxHeartbeats 1000000 in
theorem p_checks (hI : Inv M) (hn : zR n) : qPr W2 mX7_checks mX8_checks 2 9 12 [.int (zI n)] M := by
  obtain ⟨hC, hM, _⟩ := id hI
  obtain ⟨L, hR, hL4, h6, h11⟩ := Inv_L hI
  refine pr_c (R' := fun M1 z' M2 => _) hI (k_checks hC hR.1 hn) (fun z M1 q => clr_f q.2) (fun M1 i l => o_checks i (by rw [l]; exact hR.2.1) hn) (fun M1 e37 es e => ?_) (fun z M1 z' M2 es e37 e g q q' => ?_)
  · exact gq2 (geN ⟨L, hR⟩ e37) (rg2_gor rgT (rg2_gor rgF rg2_0))
  · obtain ⟨q1, q2⟩ := q
    obtain ⟨q3, q4⟩ := q'
    have hI2 := Inv_0 (Inv_clrS hI q2) 0
    have ec : qup (qup M1 37 0 0) 37 21 0 = qup (clD M1) 37 0 0 := by
      funext o j
      unfold clD qup
      by_cases w : o = 37
      · by_cases w1 : j = 0
        · simp [w, w1]
        · simp [w, w1]
      · simp [w]
    rw [ec] at q4
    exact ⟨by rw [q3, q1, e 48 (by decide), hR.2.2.2.2.2.2.2.1], by rw [MS_0 q4, qup_s], Inv_MS hI2 q4⟩
end PRW


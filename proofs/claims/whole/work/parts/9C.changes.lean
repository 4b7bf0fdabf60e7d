/-! What the class answers the model answers: the changes. -/
theorem pr_c {W : String → Int → Prop} {mk mo : qY} {u dk dm : Nat} {al : List Value} {M : qM} {G : Int} {R : Int → qM → Prop} {g' : qM → Int} {R' : qM → Int → qM → Prop} (hI : Inv M) (hk : qCt mk u dk (.ref 0 :: al) M (qpx G R (Scr M))) (hR : ∀ z M1, R z M1 → ∀ o, 37 ≤ o → M1 o = M o) (ho : ∀ M1, MI M1 → M1 37 = M 37 → qCt mo 0 dm (.ref 37 :: al) M1 (mpx (g' M1) (R' M1) M1)) (hw : ∀ M1, M1 37 = M 37 → scl M1 = scl M → (∀ o, 37 ≤ o → M1 o = M o) → (G = 0 → g' M1 = 0) ∧ (G ≠ 0 → g' M1 ≠ 0 ∧ W (exN G) (g' M1))) (hv : ∀ z M1 z' M2, scl M1 = scl M → M1 37 = M 37 → (∀ o, 37 ≤ o → M1 o = M o) → G = 0 → R z M1 → R' M1 z' M2 → z' = z ∧ M2 37 0 = 0 ∧ Inv M2) : qPr W mk mo u dk dm al M := by
  have fs : ∀ M1 : qM, (∀ o, 37 ≤ o → M1 o = M o) → scl M1 = scl M := fun M1 e => by funext k i; unfold scl; rw [e 39 (by decide)]
  refine ⟨_, hk, fun v M1 q => ?_, fun E M1 q => ?_⟩
  · obtain ⟨g, z, rfl, q⟩ := q
    have e := hR z M1 q
    refine ⟨z, rfl, qCt_mono (ho M1 (MI_o e hI.2.1) (e 37 (by decide))) (fun v M2 w => ?_) (fun _ _ w => w.elim)⟩
    obtain ⟨z', rfl, w⟩ := w
    have g0 := (hw M1 (e 37 (by decide)) (fs M1 e) e).1 g
    rcases w with ⟨w, _⟩ | ⟨_, w⟩
    · exact absurd g0 w
    · exact ⟨z', rfl, hv z M1 z' M2 (fs M1 e) (e 37 (by decide)) e g q w⟩
  · obtain ⟨g, rfl, hs⟩ := q
    have hI1 := Inv_Scr hI hs
    have e : ∀ o, 37 ≤ o → M1 o = M o := fun o ho => hs.1 o (by unfold sfr; omega)
    obtain ⟨w1, w2⟩ := (hw M1 (e 37 (by decide)) (fs M1 e) e).2 g
    refine ⟨_, w2, qCt_mono (ho M1 hI1.2.1 (e 37 (by decide))) (fun v M2 w => ?_) (fun _ _ w => w.elim)⟩
    obtain ⟨z', rfl, w⟩ := w
    rcases w with ⟨_, w⟩ | ⟨w, _⟩
    · exact ⟨z', rfl, by rw [MS_0 w, qup_s], Inv_MS (Inv_0 hI1 _) w⟩
    · exact absurd w w1
theorem ch_f {M M1 : qM} {k : Int} {F : Int → Int} (h : Scr (qrow (rem M k) k F) M1) : ∀ o, 37 ≤ o → M1 o = M o := fun o ho => by
  rw [h.1 o (by unfold sfr; omega)]
  exact chA_o (by omega) (by omega) (by omega)
theorem gI_in {b : Int} (h : gBit b = 0) : b = 0 ∨ b = 1 := by
  unfold gBit at h
  by_cases g : b = 0 ∨ b = 1
  · exact g
  · rw [if_neg g] at h; omega
theorem mi_e {c c' : Int → Int} {L : Nat} (h : cE c c' L) : mkF (miS c (8 * p4 L)) 0 (8 * p4 L) = mkF (miS c' (8 * p4 L)) 0 (8 * p4 L) := by
  funext k
  unfold mkF
  refine ofBits_congr (fun j j0 j1 => ?_)
  by_cases g : 0 ≤ 8 * k + j ∧ 8 * k + j < 8 * p4 L
  · rw [if_pos g, if_pos g, miS_e h g]
  · rw [if_neg g, if_neg g]
section PRC
variable {M : qM} {k o p f t l x y q i b w : Int}
set_option maxHeartbeats 1000000 in
theorem p_fill (hI : Inv M) (hk : zR k) (hf : zR f) (ht : zR t) (hb : zR b) : qPr W3 mX7_fill mX8_fill 6 9 4 [.int (zI k), .int (zI f), .int (zI t), .int (zI b)] M := by
  obtain ⟨hC, hM, _⟩ := id hI
  obtain ⟨L, hR, hL4, h6, h11⟩ := Inv_L hI
  have hpL := p4_in (L : Int)
  refine pr_c (R' := fun M1 z' M2 => _) hI (k_fill hC hR.1 hk hf ht hb) (fun z M1 q => ch_f q.2) (fun M1 i l => o_fill i (by rw [l]; exact hR.2.1) hk hf ht hb) (fun M1 e37 es e => ?_) (fun z M1 z' M2 es e37 e g q q' => ?_)
  · refine gq3 ?_ (rg3_gor (rg23 (rgT)) (rg3_gor (rg23 (rgM)) (rg3_gor (rg23 (rgR)) (rg3_gor (rgI) (rg23 rg2_0)))))
    rw [gT_e hR, gM_e (k := k) hR, gR_e hR]
    simp only [gG, gor_as, gor_z]
    unfold mT mMp mRg
    rw [e37]
  · rw [es] at q'
    obtain ⟨q1, q2⟩ := q
    obtain ⟨q3, q4⟩ := q'
    simp only [gor_00] at g
    obtain ⟨gT, gMk, gR, gI, _⟩ := g
    have hk0 := gM_in gMk
    have c1 := R_c hR hk0
    have b1 := CI_ok hC (r := k) (by have := CI_maps hC; omega)
    have b2 := I_b hI hR hk0
    have hr := CI_rg hR.1 gR
    have hb := gI_in gI
    refine ⟨?_, by rw [MS_0 q4]; exact chD_0, Inv_MS (Inv_chS hI hR hk0 (fun i _ _ => covF_in hb) (fun i _ _ => covF_in hb) (cov_e c1 f t b) q2) q4⟩
    rw [q3, q1, v_ones c1 hr.1 hr.2.1 hr.2.2.1]
set_option maxHeartbeats 1000000 in
theorem p_flip (hI : Inv M) (hk : zR k) (hf : zR f) (ht : zR t) : qPr W2 mX7_flip mX8_flip 5 9 9 [.int (zI k), .int (zI f), .int (zI t)] M := by
  obtain ⟨hC, hM, _⟩ := id hI
  obtain ⟨L, hR, hL4, h6, h11⟩ := Inv_L hI
  have hpL := p4_in (L : Int)
  refine pr_c (R' := fun M1 z' M2 => _) hI (k_flip hC hR.1 hk hf ht) (fun z M1 q => ch_f q.2) (fun M1 i l => o_flip i (by rw [l]; exact hR.2.1) hk hf ht) (fun M1 e37 es e => ?_) (fun z M1 z' M2 es e37 e g q q' => ?_)
  · refine gq2 ?_ (rg2_gor (rgT) (rg2_gor (rgM) (rg2_gor (rgR) rg2_0)))
    rw [gT_e hR, gM_e (k := k) hR, gR_e hR]
    simp only [gG, gor_as, gor_z]
    unfold mT mMp mRg
    rw [e37]
  · rw [es] at q'
    obtain ⟨q1, q2⟩ := q
    obtain ⟨q3, q4⟩ := q'
    simp only [gor_00] at g
    obtain ⟨gT, gMk, gR, _⟩ := g
    have hk0 := gM_in gMk
    have c1 := R_c hR hk0
    have b1 := CI_ok hC (r := k) (by have := CI_maps hC; omega)
    have b2 := I_b hI hR hk0
    refine ⟨?_, by rw [MS_0 q4]; exact chD_0, Inv_MS (Inv_chS hI hR hk0 (fun i _ _ => flpF_in) (fun i _ _ => flpF_in) (flp_e c1 f t) q2) q4⟩
    rw [q3, q1, tsz_eL hL4 (flp_e c1 f t), tsz_eL hL4 c1]
set_option maxHeartbeats 1000000 in
theorem p_combine (hI : Inv M) (hk : zR k) (ho : zR o) (hw : zR w) (hq : zR q) : qPr W3 mX7_combine mX8_combine 5 9 4 [.int (zI q), .int (zI k), .int (zI o), .int (zI w)] M := by
  obtain ⟨hC, hM, _⟩ := id hI
  obtain ⟨L, hR, hL4, h6, h11⟩ := Inv_L hI
  have hpL := p4_in (L : Int)
  refine pr_c (R' := fun M1 z' M2 => _) hI (k_combine hC hR.1 hk ho hw hq) (fun z M1 q => ch_f q.2) (fun M1 i l => o_combine i (by rw [l]; exact hR.2.1) hk ho hw hq) (fun M1 e37 es e => ?_) (fun z M1 z' M2 es e37 e g q q' => ?_)
  · refine gq3 ?_ (rg3_gor (rg23 (rgT)) (rg3_gor (rg23 (rgM)) (rg3_gor (rg23 (rgM)) (rg3_gor (rg23 (rgM)) (rg3_gor (rgK) (rg23 rg2_0))))))
    rw [gT_e hR, gM_e (k := k) hR, gM_e (k := o) hR, gM_e (k := w) hR]
    simp only [gG, gor_as, gor_z]
    unfold mT mMp 
    rw [e37]
  · rw [es] at q'
    obtain ⟨q1, q2⟩ := q
    obtain ⟨q3, q4⟩ := q'
    simp only [gor_00] at g
    obtain ⟨gT, gMk, gMo, gMw, gK, _⟩ := g
    have hk0 := gM_in gMk
    have c1 := R_c hR hk0
    have b1 := CI_ok hC (r := k) (by have := CI_maps hC; omega)
    have b2 := I_b hI hR hk0
    have ho0 := gM_in gMo
    have c2 := R_c hR ho0
    have b3 := CI_ok hC (r := o) (by have := CI_maps hC; omega)
    have b4 := I_b hI hR ho0
    have hw0 := gM_in gMw
    refine ⟨?_, by rw [MS_0 q4]; exact chD_0, Inv_MS (Inv_chS hI hR hw0 (fun i i0 i1 => mgF_in (b1 i i0 i1) (b3 i i0 i1)) (fun i i0 i1 => mgF_in (b2 i i0 (by omega)) (b4 i i0 (by omega))) (v_mg c1 c2) q2) q4⟩
    rw [q3, q1, v_all (v_mg c1 c2)]
set_option maxHeartbeats 1000000 in
theorem p_copyBlock (hI : Inv M) (hk : zR k) (hl : zR l) (hx : zR x) (hy : zR y) : qPr W2 mX7_copyBlock mX8_copyBlock 6 9 8 [.int (zI k), .int (zI l), .int (zI x), .int (zI y)] M := by
  obtain ⟨hC, hM, _⟩ := id hI
  obtain ⟨L, hR, hL4, h6, h11⟩ := Inv_L hI
  have hpL := p4_in (L : Int)
  refine pr_c (R' := fun M1 z' M2 => _) hI (k_copyBlock hC hR.1 hk hl hx hy) (fun z M1 q => ch_f q.2) (fun M1 i l => o_copyBlock i (by rw [l]; exact hR.2.1) hk hl hx hy) (fun M1 e37 es e => ?_) (fun z M1 z' M2 es e37 e g q q' => ?_)
  · refine gq2 ?_ (rg2_gor (rgT) (rg2_gor (rgM) (rg2_gor (rgB) (rg2_gor (rgB) rg2_0))))
    rw [gT_e hR, gM_e (k := k) hR, gB_e (x := x) hR, gB_e (x := y) hR]
    simp only [gG, gor_as, gor_z]
    unfold mT mMp mBk
    rw [e37]
  · rw [es] at q'
    obtain ⟨q1, q2⟩ := q
    obtain ⟨q3, q4⟩ := q'
    simp only [gor_00] at g
    obtain ⟨gT, gMk, gB, gBy, _⟩ := g
    have hk0 := gM_in gMk
    have c1 := R_c hR hk0
    have b1 := CI_ok hC (r := k) (by have := CI_maps hC; omega)
    have b2 := I_b hI hR hk0
    have hb := gB_in gB
    have hb' := gB_in gBy
    rw [hR.1] at hb hb'
    have hx0 := blk_in hL4 hb.1 hb.2
    have hy0 := blk_in hL4 hb'.1 hb'.2
    refine ⟨?_, by rw [MS_0 q4]; exact chD_0, Inv_MS (Inv_chS hI hR hk0 (fcpy_b b1 ⟨hx0.1, by omega⟩) (fcpy_in (fun k k0 k1 => b2 k k0 (by omega)) hx0 hy0.1) (fcpy_e c1 hx0 hy0.1) q2) q4⟩
    rw [q3, q1, tsz_eL hL4 (fcpy_e c1 hx0 hy0.1)]
set_option maxHeartbeats 1000000 in
theorem p_shift (hI : Inv M) (hk : zR k) (hb : zR b) : qPr W2 mX7_shift mX8_shift 2 9 4 [.int (zI k), .int (zI b)] M := by
  obtain ⟨hC, hM, _⟩ := id hI
  obtain ⟨L, hR, hL4, h6, h11⟩ := Inv_L hI
  have hpL := p4_in (L : Int)
  refine pr_c (R' := fun M1 z' M2 => _) hI (k_shift hC hR.1 hk hb) (fun z M1 q => ch_f q.2) (fun M1 i l => o_shift i (by rw [l]; exact hR.2.1) hk hb) (fun M1 e37 es e => ?_) (fun z M1 z' M2 es e37 e g q q' => ?_)
  · refine gq2 ?_ (rg2_gor (rgT) (rg2_gor (rgM) rg2_0))
    rw [gT_e hR, gM_e (k := k) hR]
    simp only [gG, gor_as, gor_z]
    unfold mT mMp 
    rw [e37]
  · rw [es] at q'
    obtain ⟨q1, q2⟩ := q
    obtain ⟨q3, q4⟩ := q'
    simp only [gor_00] at g
    obtain ⟨gT, gMk, _⟩ := g
    have hk0 := gM_in gMk
    have c1 := R_c hR hk0
    have b1 := CI_ok hC (r := k) (by have := CI_maps hC; omega)
    have b2 := I_b hI hR hk0
    have es2 : shS (rowc M k) b (8 * p4 L) = shS (scl M k) b (8 * p4 L) := funext (shS_e c1 b)
    refine ⟨?_, by rw [MS_0 q4]; exact chD_0, Inv_MS (Inv_chS hI hR hk0 (fun i _ _ => mkF_in (shS_01 _ _ _)) (fun i _ _ => mkF_in (shS_01 _ _ _)) (by rw [es2]; exact cE_rf _ L) q2) q4⟩
    rw [q3, q1, v_all c1, es2, v_all (cE_rf _ L)]
set_option maxHeartbeats 1000000 in
theorem p_mirror (hI : Inv M) (hk : zR k) : qPr W2 mX7_mirror mX8_mirror 2 9 8 [.int (zI k)] M := by
  obtain ⟨hC, hM, _⟩ := id hI
  obtain ⟨L, hR, hL4, h6, h11⟩ := Inv_L hI
  have hpL := p4_in (L : Int)
  refine pr_c (R' := fun M1 z' M2 => _) hI (k_mirror hC hR.1 hk) (fun z M1 q => ch_f q.2) (fun M1 i l => o_mirror i (by rw [l]; exact hR.2.1) hk) (fun M1 e37 es e => ?_) (fun z M1 z' M2 es e37 e g q q' => ?_)
  · refine gq2 ?_ (rg2_gor (rgT) (rg2_gor (rgM) rg2_0))
    rw [gT_e hR, gM_e (k := k) hR]
    simp only [gG, gor_as, gor_z]
    unfold mT mMp 
    rw [e37]
  · rw [es] at q'
    obtain ⟨q1, q2⟩ := q
    obtain ⟨q3, q4⟩ := q'
    simp only [gor_00] at g
    obtain ⟨gT, gMk, _⟩ := g
    have hk0 := gM_in gMk
    have c1 := R_c hR hk0
    have b1 := CI_ok hC (r := k) (by have := CI_maps hC; omega)
    have b2 := I_b hI hR hk0
    refine ⟨?_, by rw [MS_0 q4]; exact chD_0, Inv_MS (Inv_chS hI hR hk0 (fun i _ _ => mkF_in (miS_01 _ _)) (fun i _ _ => mkF_in (miS_01 _ _)) (by rw [mi_e c1]; exact cE_rf _ L) q2) q4⟩
    rw [q3, q1, mi_e c1]
end PRC


/-! What the class answers the model answers: the queries. -/
def W1 (E : String) (c : Int) : Prop := E = exN c ∧ c = 1
def W2 (E : String) (c : Int) : Prop := E = exN c ∧ (c = 1 ∨ c = 2)
def W3 (E : String) (c : Int) : Prop := E = exN c ∧ (c = 1 ∨ c = 2 ∨ c = 3)
/-- one step of both: what the class answers or throws, the model answers, and both stay alike -/
def qPr (W : String → Int → Prop) (mk mo : qY) (u dk dm : Nat) (al : List Value) (M : qM) : Prop := ∃ P : qP, qCt mk u dk (.ref 0 :: al) M P ∧ (∀ v M1, P.1 v M1 → ∃ z, v = some (.int (zI z)) ∧ qCt mo 0 dm (.ref 37 :: al) M1 (qpg (fun z' M2 => z' = z ∧ M2 37 0 = 0 ∧ Inv M2))) ∧ ∀ E M1, P.2 E M1 → ∃ c, W E c ∧ qCt mo 0 dm (.ref 37 :: al) M1 (qpg (fun _ M2 => M2 37 0 = c ∧ Inv M2))
theorem gor_z {a : Int} : gor a 0 = a := by
  unfold gor
  by_cases h : a ≠ 0
  · rw [if_pos h]
  · rw [if_neg h]; omega
theorem MS_0 {M M' : qM} (e : MS M M') : M' 37 0 = M 37 0 := e.2 0 (Or.inl rfl)
def rg2 (g : Int) : Prop := g = 0 ∨ g = 1 ∨ g = 2
def rg3 (g : Int) : Prop := g = 0 ∨ g = 1 ∨ g = 2 ∨ g = 3
theorem rg2_gor {a b : Int} (ha : rg2 a) (hb : rg2 b) : rg2 (gor a b) := by
  unfold gor
  by_cases h : a ≠ 0
  · rw [if_pos h]; exact ha
  · rw [if_neg h]; exact hb
theorem rg3_gor {a b : Int} (ha : rg3 a) (hb : rg3 b) : rg3 (gor a b) := by
  unfold gor
  by_cases h : a ≠ 0
  · rw [if_pos h]; exact ha
  · rw [if_neg h]; exact hb
theorem rg2_0 : rg2 0 := Or.inl rfl
theorem rg2_i {q : Prop} [Decidable q] {c : Int} (h : c = 1 ∨ c = 2) : rg2 (if q then 0 else c) := by
  by_cases g : q
  · rw [if_pos g]; exact Or.inl rfl
  · rw [if_neg g]; exact Or.inr h
theorem rg3_i {q : Prop} [Decidable q] {c : Int} (h : c = 1 ∨ c = 2 ∨ c = 3) : rg3 (if q then 0 else c) := by
  by_cases g : q
  · rw [if_pos g]; exact Or.inl rfl
  · rw [if_neg g]; exact Or.inr h
theorem rg23 {g : Int} (h : rg2 g) : rg3 g := by unfold rg2 at h; unfold rg3; omega
section RGS
variable {M : qM} {k p f t l x n i s : Int}
theorem rgT : rg2 (gText M) := rg2_i (Or.inl rfl)
theorem rgM : rg2 (gMap M k) := rg2_i (Or.inr rfl)
theorem rgP : rg2 (gPos M p) := rg2_i (Or.inr rfl)
theorem rgR : rg2 (gRng M f t) := rg2_gor rgP (rg2_gor rgP (rg2_i (Or.inr rfl)))
theorem rgL : rg2 (gLev M l) := rg2_i (Or.inr rfl)
theorem rgB : rg2 (gBlk M l x) := rg2_gor rgL (rg2_i (Or.inr rfl))
theorem rgY : rg2 (gByte n i) := rg2_i (Or.inr rfl)
theorem rgS : rg2 (gSlot s) := rg2_i (Or.inr rfl)
theorem rgF : rg2 (gBuf M n) := rg2_i (Or.inr rfl)
theorem rgI : rg3 (gBit n) := rg3_i (Or.inr (Or.inr rfl))
theorem rgK : rg3 (gKind n) := rg3_i (Or.inr (Or.inr rfl))
theorem gM_in (h : gMap M k = 0) : 0 ≤ k ∧ k < M 0 11 := by
  unfold gMap at h
  by_cases g : 0 ≤ k ∧ k < M 0 11
  · exact g
  · rw [if_neg g] at h; omega
theorem gT_in (h : gText M = 0) : M 0 9 = 1 := by
  unfold gText at h
  by_cases g : M 0 9 = 1
  · exact g
  · rw [if_neg g] at h; omega
theorem gL_in (h : gLev M l = 0) : 0 ≤ l ∧ l ≤ M 0 10 := by
  unfold gLev at h
  by_cases g : 0 ≤ l ∧ l ≤ M 0 10
  · exact g
  · rw [if_neg g] at h; omega
theorem gB_in (h : gBlk M l x = 0) : (0 ≤ l ∧ l ≤ M 0 10) ∧ 0 ≤ x ∧ x < p4 (M 0 10 - l) := by
  obtain ⟨h1, h2⟩ := gor_00.mp h
  refine ⟨gL_in h1, ?_⟩
  by_cases g : 0 ≤ x ∧ x < p4 (M 0 10 - l)
  · exact g
  · rw [if_neg g] at h2; omega
theorem gY_in (h : gByte n i = 0) : 0 ≤ i ∧ i < n := by
  unfold gByte at h
  by_cases g : 0 ≤ i ∧ i < n
  · exact g
  · rw [if_neg g] at h; omega
theorem gS_in (h : gSlot s = 0) : 0 ≤ s ∧ s < 2 := by
  unfold gSlot at h
  by_cases g : 0 ≤ s ∧ s < 2
  · exact g
  · rw [if_neg g] at h; omega
theorem gN_in (h : gBuf M n = 0) : 0 ≤ n ∧ n ≤ M 1 1 := by
  unfold gBuf at h
  by_cases g : 0 ≤ n ∧ n ≤ M 1 1
  · exact g
  · rw [if_neg g] at h; omega
end RGS
theorem gor_c {a b b' : Int} (h : a = 0 → b = b') : gor a b = gor a b' := by
  by_cases q : a = 0
  · rw [h q]
  · rw [gor_n q, gor_n q]
theorem gL_e {M : qM} {L : Nat} {l : Int} (h : qRl M L) : gLev M l = mLv M l := by unfold gLev mLv; rw [h.1, h.2.1]
theorem frst_cut {P : Int → Prop} {a n m z : Int} (hn : n ≤ m) (h : ∀ i, n ≤ i → i < m → ¬ P i) (hf : frst P a m z) : frst P a n z := by
  rcases hf with ⟨e, g⟩ | ⟨g1, g2, g3, g4⟩
  · exact Or.inl ⟨e, fun p p0 p1 => g p p0 (by omega)⟩
  · refine Or.inr ⟨g1, ?_, g3, g4⟩
    by_cases w : z < n
    · exact w
    · exact absurd g3 (h z (by omega) g2)
theorem zbit_0 (j : Int) : zbit 0 j = 0 := by unfold zbit; rw [Int.zero_ediv]; rfl
theorem gq2 {G g' : Int} (e : g' = G) (r : rg2 G) : (G = 0 → g' = 0) ∧ (G ≠ 0 → g' ≠ 0 ∧ W2 (exN G) g') := by
  subst e
  exact ⟨id, fun h => ⟨h, rfl, by unfold rg2 at r; omega⟩⟩
theorem gq3 {G g' : Int} (e : g' = G) (r : rg3 G) : (G = 0 → g' = 0) ∧ (G ≠ 0 → g' ≠ 0 ∧ W3 (exN G) g') := by
  subst e
  exact ⟨id, fun h => ⟨h, rfl, by unfold rg3 at r; omega⟩⟩
theorem pr_q {W : String → Int → Prop} {mk mo : qY} {u dk dm : Nat} {al : List Value} {M : qM} {G : Int} {R : Int → qM → Prop} {g' : qM → Int} {R' : qM → Int → qM → Prop} (hI : Inv M) (hk : qCt mk u dk (.ref 0 :: al) M (qpx G R (Scr M))) (hR : ∀ z M1, R z M1 → Scr M M1) (ho : ∀ M1, Scr M M1 → MI M1 → M1 37 = M 37 → qCt mo 0 dm (.ref 37 :: al) M1 (mpx (g' M1) (R' M1) M1)) (hw : ∀ M1, M1 37 = M 37 → scl M1 = scl M → (∀ o, 37 ≤ o → M1 o = M o) → (G = 0 → g' M1 = 0) ∧ (G ≠ 0 → g' M1 ≠ 0 ∧ W (exN G) (g' M1))) (hv : ∀ z M1 z' M2, scl M1 = scl M → M1 37 = M 37 → (∀ o, 37 ≤ o → M1 o = M o) → G = 0 → R z M1 → R' M1 z' M2 → z' = z ∧ MS (qup M1 37 0 0) M2) : qPr W mk mo u dk dm al M := by
  have f : ∀ M1, Scr M M1 → (∀ o, 37 ≤ o → M1 o = M o) := fun M1 e o ho => e.1 o (by unfold sfr; omega)
  have fs : ∀ M1, Scr M M1 → scl M1 = scl M := fun M1 e => by funext k i; unfold scl; rw [f M1 e 39 (by decide)]
  refine ⟨_, hk, fun v M1 q => ?_, fun E M1 q => ?_⟩
  · obtain ⟨g, z, rfl, q⟩ := q
    have e := hR z M1 q
    have hI1 := Inv_Scr hI e
    refine ⟨z, rfl, qCt_mono (ho M1 e hI1.2.1 (f M1 e 37 (by decide))) (fun v M2 w => ?_) (fun _ _ w => w.elim)⟩
    obtain ⟨z', rfl, w⟩ := w
    have g0 := (hw M1 (f M1 e 37 (by decide)) (fs M1 e) (f M1 e)).1 g
    rcases w with ⟨w, _⟩ | ⟨_, w⟩
    · exact absurd g0 w
    · obtain ⟨h1, h2⟩ := hv z M1 z' M2 (fs M1 e) (f M1 e 37 (by decide)) (f M1 e) g q w
      exact ⟨z', rfl, h1, by rw [MS_0 h2, qup_s], Inv_MS (Inv_0 hI1 0) h2⟩
  · obtain ⟨g, rfl, e⟩ := q
    have hI1 := Inv_Scr hI e
    obtain ⟨w1, w2⟩ := (hw M1 (f M1 e 37 (by decide)) (fs M1 e) (f M1 e)).2 g
    refine ⟨_, w2, qCt_mono (ho M1 e hI1.2.1 (f M1 e 37 (by decide))) (fun v M2 w => ?_) (fun _ _ w => w.elim)⟩
    obtain ⟨z', rfl, w⟩ := w
    rcases w with ⟨_, w⟩ | ⟨w, _⟩
    · exact ⟨z', rfl, by rw [MS_0 w, qup_s], Inv_MS (Inv_0 hI1 _) w⟩
    · exact absurd w w1
section PRQ
variable {M : qM} {k o p f t l x y q i b : Int}
theorem Inv_L {M : qM} (h : Inv M) : ∃ L : Nat, qRl M L ∧ L ≤ 4 ∧ M 37 3 ≤ 6 ∧ M 0 11 = M 37 3 := by
  obtain ⟨hC, hM, L, hR⟩ := h
  have h1 := hM.2.1
  have h2 := hM.2.2.2.1
  have h3 := hR.2.1
  exact ⟨L, hR, by omega, h2.2, hR.2.2.2.1⟩
theorem R_c {L : Nat} (h : qRl M L) (hk : 0 ≤ k ∧ k < M 0 11) : cE (rowc M k) (scl M k) L := h.2.2.2.2.2.2.2.2.2.2.2.1 k hk.1 (by rw [← h.2.2.2.1]; exact hk.2)
theorem I_z {L : Nat} (h : Inv M) (hR : qRl M L) (hk : 0 ≤ k ∧ k < M 0 11) : zE (scl M k) L := fun i i0 i1 => by
  have h6 := h.2.1.2.2.2.1
  have h3 := hR.2.2.2.1
  exact h.2.1.2.2.2.2.2.2.2.2.2.2.2.1 k i hk.1 (by omega) (by rw [hR.2.1]; exact i0) i1
theorem I_b {L : Nat} (h : Inv M) (hR : qRl M L) (hk : 0 ≤ k ∧ k < M 0 11) : ∀ i, 0 ≤ i → i < 256 → 0 ≤ scl M k i ∧ scl M k i < 256 := fun i i0 i1 => by
  have h6 := h.2.1.2.2.2.1
  have h3 := hR.2.2.2.1
  exact h.2.1.2.2.2.2.1 (256 * k + i) (by omega) (by omega)
set_option maxHeartbeats 1000000 in
theorem p_bit (hI : Inv M) (hk : zR k) (hp : zR p) : qPr W2 mX7_bit mX8_bit 3 9 4 [.int (zI k), .int (zI p)] M := by
  obtain ⟨hC, hM, _⟩ := id hI
  obtain ⟨L, hR, hL4, h6, h11⟩ := Inv_L hI
  have hpL := p4_in (L : Int)
  refine pr_q (R' := fun M1 z' M2 => _) hI (k_bit hC hR.1 hk hp) (fun z M1 q => by rw [q.2]; exact Scr_rf hC) (fun M1 e i l => o_bit i (by rw [l]; exact hR.2.1) hk hp) (fun M1 e37 es e => ?_) (fun z M1 z' M2 es e37 e g q q' => ?_)
  · refine gq2 ?_ (rg2_gor (rgT) (rg2_gor (rgM) (rg2_gor (rgP) rg2_0)))
    rw [gT_e hR, gM_e (k := k) hR, gP_e hR]
    simp only [gG, gor_as, gor_z]
    unfold mT mMp mPs
    rw [e37]
  · rw [es] at q'
    obtain ⟨q1, q2⟩ := q
    obtain ⟨q3, q4⟩ := q'
    refine ⟨?_, q4⟩
    simp only [gor_00] at g
    obtain ⟨gT, gMk, gP, _⟩ := g
    have hk0 := gM_in gMk
    have c1 := R_c hR hk0
    have hp0 := CI_ps hR.1 gP
    rw [q3, q1, cE_bit c1 hp0.1 hp0.2.1]
set_option maxHeartbeats 1000000 in
theorem p_ones (hI : Inv M) (hk : zR k) (hf : zR f) (ht : zR t) : qPr W2 mX7_ones mX8_ones 5 9 4 [.int (zI k), .int (zI f), .int (zI t)] M := by
  obtain ⟨hC, hM, _⟩ := id hI
  obtain ⟨L, hR, hL4, h6, h11⟩ := Inv_L hI
  have hpL := p4_in (L : Int)
  refine pr_q (R' := fun M1 z' M2 => _) hI (k_ones hC hR.1 hk hf ht) (fun z M1 q => by rw [q.2]; exact Scr_rf hC) (fun M1 e i l => o_ones i (by rw [l]; exact hR.2.1) hk hf ht) (fun M1 e37 es e => ?_) (fun z M1 z' M2 es e37 e g q q' => ?_)
  · refine gq2 ?_ (rg2_gor (rgT) (rg2_gor (rgM) (rg2_gor (rgR) rg2_0)))
    rw [gT_e hR, gM_e (k := k) hR, gR_e hR]
    simp only [gG, gor_as, gor_z]
    unfold mT mMp mRg
    rw [e37]
  · rw [es] at q'
    obtain ⟨q1, q2⟩ := q
    obtain ⟨q3, q4⟩ := q'
    refine ⟨?_, q4⟩
    simp only [gor_00] at g
    obtain ⟨gT, gMk, gR, _⟩ := g
    have hk0 := gM_in gMk
    have c1 := R_c hR hk0
    have hr := CI_rg hR.1 gR
    rw [q3, q1, v_ones c1 hr.1 hr.2.1 hr.2.2.1]
set_option maxHeartbeats 1000000 in
theorem p_next (hI : Inv M) (hk : zR k) (hp : zR p) (hb : zR b) : qPr W3 mX7_next mX8_next 4 9 4 [.int (zI k), .int (zI p), .int (zI b)] M := by
  obtain ⟨hC, hM, _⟩ := id hI
  obtain ⟨L, hR, hL4, h6, h11⟩ := Inv_L hI
  have hpL := p4_in (L : Int)
  refine pr_q (R' := fun M1 z' M2 => _) hI (k_next hC hR.1 hk hp hb) (fun z M1 q => by rw [q.2]; exact Scr_rf hC) (fun M1 e i l => o_next i (by rw [l]; exact hR.2.1) hk hp hb) (fun M1 e37 es e => ?_) (fun z M1 z' M2 es e37 e g q q' => ?_)
  · refine gq3 ?_ (rg3_gor (rg23 (rgT)) (rg3_gor (rg23 (rgM)) (rg3_gor (rg23 (rgP)) (rg3_gor (rgI) (rg23 rg2_0)))))
    rw [gT_e hR, gM_e (k := k) hR, gP_e hR]
    simp only [gG, gor_as, gor_z]
    unfold mT mMp mPs
    rw [e37]
  · rw [es] at q'
    obtain ⟨q1, q2⟩ := q
    obtain ⟨q3, q4⟩ := q'
    refine ⟨?_, q4⟩
    simp only [gor_00] at g
    obtain ⟨gT, gMk, gP, gI, _⟩ := g
    have hk0 := gM_in gMk
    have c1 := R_c hR hk0
    have hp0 := CI_ps hR.1 gP
    exact frst_un q3 (frst_e (fun i i0 i1 => by rw [cE_bit c1 (q := i) (by omega) i1]) q1)
set_option maxHeartbeats 1000000 in
theorem p_select (hI : Inv M) (hk : zR k) (hq : zR q) : qPr W2 mX7_select mX8_select 3 9 4 [.int (zI k), .int (zI q)] M := by
  obtain ⟨hC, hM, _⟩ := id hI
  obtain ⟨L, hR, hL4, h6, h11⟩ := Inv_L hI
  have hpL := p4_in (L : Int)
  refine pr_q (R' := fun M1 z' M2 => _) hI (k_select hC hR.1 hk hq) (fun z M1 q => by rw [q.2]; exact Scr_rf hC) (fun M1 e i l => o_select i (by rw [l]; exact hR.2.1) hk hq) (fun M1 e37 es e => ?_) (fun z M1 z' M2 es e37 e g q q' => ?_)
  · refine gq2 ?_ (rg2_gor (rgT) (rg2_gor (rgM) (rg2_gor (rg2_i (Or.inr rfl)) rg2_0)))
    rw [gT_e hR, gM_e (k := k) hR]
    simp only [gG, gor_as, gor_z]
    unfold mT mMp 
    rw [e37]
  · rw [es] at q'
    obtain ⟨q1, q2⟩ := q
    obtain ⟨q3, q4⟩ := q'
    refine ⟨?_, q4⟩
    simp only [gor_00] at g
    obtain ⟨gT, gMk, gi2, _⟩ := g
    have hk0 := gM_in gMk
    have c1 := R_c hR hk0
    refine frst_un q3 (frst_e (fun i i0 i1 => ?_) q1)
    rw [cE_bit c1 (q := i) i0 i1, zsum_bit_e c1 (Int.le_refl 0) (by omega)]
set_option maxHeartbeats 1000000 in
theorem p_runs (hI : Inv M) (hk : zR k) (hb : zR b) : qPr W3 mX7_runs mX8_runs 3 9 4 [.int (zI k), .int (zI b)] M := by
  obtain ⟨hC, hM, _⟩ := id hI
  obtain ⟨L, hR, hL4, h6, h11⟩ := Inv_L hI
  have hpL := p4_in (L : Int)
  refine pr_q (R' := fun M1 z' M2 => _) hI (k_runs hC hR.1 hk hb) (fun z M1 q => by rw [q.2]; exact Scr_rf hC) (fun M1 e i l => o_runs i (by rw [l]; exact hR.2.1) hk hb) (fun M1 e37 es e => ?_) (fun z M1 z' M2 es e37 e g q q' => ?_)
  · refine gq3 ?_ (rg3_gor (rg23 (rgT)) (rg3_gor (rg23 (rgM)) (rg3_gor (rgI) (rg23 rg2_0))))
    rw [gT_e hR, gM_e (k := k) hR]
    simp only [gG, gor_as, gor_z]
    unfold mT mMp 
    rw [e37]
  · rw [es] at q'
    obtain ⟨q1, q2⟩ := q
    obtain ⟨q3, q4⟩ := q'
    refine ⟨?_, q4⟩
    simp only [gor_00] at g
    obtain ⟨gT, gMk, gI, _⟩ := g
    have hk0 := gM_in gMk
    have c1 := R_c hR hk0
    rw [q3, q1, v_runs c1]
set_option maxHeartbeats 1000000 in
theorem p_longestRun (hI : Inv M) (hk : zR k) (hb : zR b) : qPr W3 mX7_longestRun mX8_longestRun 3 9 4 [.int (zI k), .int (zI b)] M := by
  obtain ⟨hC, hM, _⟩ := id hI
  obtain ⟨L, hR, hL4, h6, h11⟩ := Inv_L hI
  have hpL := p4_in (L : Int)
  refine pr_q (R' := fun M1 z' M2 => _) hI (k_longestRun hC hR.1 hk hb) (fun z M1 q => by rw [q.2]; exact Scr_rf hC) (fun M1 e i l => o_longestRun i (by rw [l]; exact hR.2.1) hk hb) (fun M1 e37 es e => ?_) (fun z M1 z' M2 es e37 e g q q' => ?_)
  · refine gq3 ?_ (rg3_gor (rg23 (rgT)) (rg3_gor (rg23 (rgM)) (rg3_gor (rgI) (rg23 rg2_0))))
    rw [gT_e hR, gM_e (k := k) hR]
    simp only [gG, gor_as, gor_z]
    unfold mT mMp 
    rw [e37]
  · rw [es] at q'
    obtain ⟨q1, q2⟩ := q
    obtain ⟨q3, q4⟩ := q'
    refine ⟨?_, q4⟩
    simp only [gor_00] at g
    obtain ⟨gT, gMk, gI, _⟩ := g
    have hk0 := gM_in gMk
    have c1 := R_c hR hk0
    rw [q3, q1, (v_most c1 (8 * p4 (L : Int)).toNat (by omega)).2]
set_option maxHeartbeats 1000000 in
theorem p_bytes (hI : Inv M) (hk : zR k) : qPr W2 mX7_bytes mX8_bytes 2 9 9 [.int (zI k)] M := by
  obtain ⟨hC, hM, _⟩ := id hI
  obtain ⟨L, hR, hL4, h6, h11⟩ := Inv_L hI
  have hpL := p4_in (L : Int)
  refine pr_q (R' := fun M1 z' M2 => _) hI (k_bytes hC hR.1 hk) (fun z M1 q => q.2) (fun M1 e i l => o_bytes i (by rw [l]; exact hR.2.1) hk) (fun M1 e37 es e => ?_) (fun z M1 z' M2 es e37 e g q q' => ?_)
  · refine gq2 ?_ (rg2_gor (rgT) (rg2_gor (rgM) rg2_0))
    rw [gT_e hR, gM_e (k := k) hR]
    simp only [gG, gor_as, gor_z]
    unfold mT mMp 
    rw [e37]
  · rw [es] at q'
    obtain ⟨q1, q2⟩ := q
    obtain ⟨q3, q4⟩ := q'
    refine ⟨?_, q4⟩
    simp only [gor_00] at g
    obtain ⟨gT, gMk, _⟩ := g
    have hk0 := gM_in gMk
    have c1 := R_c hR hk0
    rw [q3, q1, tsz_eL hL4 c1]
set_option maxHeartbeats 1000000 in
theorem p_parts (hI : Inv M) (hk : zR k) (hq : zR q) : qPr W3 mX7_parts mX8_parts 3 9 9 [.int (zI k), .int (zI q)] M := by
  obtain ⟨hC, hM, _⟩ := id hI
  obtain ⟨L, hR, hL4, h6, h11⟩ := Inv_L hI
  have hpL := p4_in (L : Int)
  refine pr_q (R' := fun M1 z' M2 => _) hI (k_parts hC hR.1 hk hq) (fun z M1 q => q.2) (fun M1 e i l => o_parts i (by rw [l]; exact hR.2.1) hk hq) (fun M1 e37 es e => ?_) (fun z M1 z' M2 es e37 e g q q' => ?_)
  · refine gq3 ?_ (rg3_gor (rg23 (rgT)) (rg3_gor (rg23 (rgM)) (rg3_gor (rg3_i (Or.inr (Or.inr rfl))) (rg23 rg2_0))))
    rw [gT_e hR, gM_e (k := k) hR]
    simp only [gG, gor_as, gor_z]
    unfold mT mMp 
    rw [e37]
  · rw [es] at q'
    obtain ⟨q1, q2⟩ := q
    obtain ⟨q3, q4⟩ := q'
    refine ⟨?_, q4⟩
    simp only [gor_00] at g
    obtain ⟨gT, gMk, gi3, _⟩ := g
    have hk0 := gM_in gMk
    have c1 := R_c hR hk0
    rw [q3, q1, v_part hL4 c1]
set_option maxHeartbeats 1000000 in
theorem p_block (hI : Inv M) (hk : zR k) (hl : zR l) (hx : zR x) (hq : zR q) : qPr W3 mX7_block mX8_block 5 9 9 [.int (zI k), .int (zI l), .int (zI x), .int (zI q)] M := by
  obtain ⟨hC, hM, _⟩ := id hI
  obtain ⟨L, hR, hL4, h6, h11⟩ := Inv_L hI
  have hpL := p4_in (L : Int)
  refine pr_q (R' := fun M1 z' M2 => _) hI (k_block hC hR.1 hk hl hx hq) (fun z M1 q => q.2) (fun M1 e i l => o_block i (by rw [l]; exact hR.2.1) hk hl hx hq) (fun M1 e37 es e => ?_) (fun z M1 z' M2 es e37 e g q q' => ?_)
  · refine gq3 ?_ (rg3_gor (rg23 (rgT)) (rg3_gor (rg23 (rgM)) (rg3_gor (rg23 (rgB)) (rg3_gor (rg3_i (Or.inr (Or.inr rfl))) (rg23 rg2_0)))))
    rw [gT_e hR, gM_e (k := k) hR, gB_e (x := x) hR]
    simp only [gG, gor_as, gor_z]
    unfold mT mMp mBk
    rw [e37]
  · rw [es] at q'
    obtain ⟨q1, q2⟩ := q
    obtain ⟨q3, q4⟩ := q'
    refine ⟨?_, q4⟩
    simp only [gor_00] at g
    obtain ⟨gT, gMk, gB, gi3, _⟩ := g
    have hk0 := gM_in gMk
    have c1 := R_c hR hk0
    have hb := gB_in gB
    rw [hR.1] at hb
    rw [q3, q1, v_blk hL4 c1 hb.1 hb.2]
set_option maxHeartbeats 1000000 in
theorem p_teller (hI : Inv M) (hk : zR k) (hp : zR p) : qPr W2 mX7_teller mX8_teller 3 9 9 [.int (zI k), .int (zI p)] M := by
  obtain ⟨hC, hM, _⟩ := id hI
  obtain ⟨L, hR, hL4, h6, h11⟩ := Inv_L hI
  have hpL := p4_in (L : Int)
  refine pr_q (R' := fun M1 z' M2 => _) hI (k_teller hC hR.1 hk hp) (fun z M1 q => q.2) (fun M1 e i l => o_teller i (by rw [l]; exact hR.2.1) hk hp) (fun M1 e37 es e => ?_) (fun z M1 z' M2 es e37 e g q q' => ?_)
  · refine gq2 ?_ (rg2_gor (rgT) (rg2_gor (rgM) (rg2_gor (rgP) rg2_0)))
    rw [gT_e hR, gM_e (k := k) hR, gP_e hR]
    simp only [gG, gor_as, gor_z]
    unfold mT mMp mPs
    rw [e37]
  · rw [es] at q'
    obtain ⟨q1, q2⟩ := q
    obtain ⟨q3, q4⟩ := q'
    refine ⟨?_, q4⟩
    simp only [gor_00] at g
    obtain ⟨gT, gMk, gP, _⟩ := g
    have hk0 := gM_in gMk
    have c1 := R_c hR hk0
    have hp0 := CI_ps hR.1 gP
    rw [q3, q1, v_teller hL4 c1 (cell := p / 8) (by omega)]
set_option maxHeartbeats 1000000 in
theorem p_lowest (hI : Inv M) (hk : zR k) : qPr W2 mX7_lowest mX8_lowest 2 9 9 [.int (zI k)] M := by
  obtain ⟨hC, hM, _⟩ := id hI
  obtain ⟨L, hR, hL4, h6, h11⟩ := Inv_L hI
  have hpL := p4_in (L : Int)
  refine pr_q (R' := fun M1 z' M2 => _) hI (k_lowest hC hR.1 hk) (fun z M1 q => q.2) (fun M1 e i l => o_lowest i (by rw [l]; exact hR.2.1) hk) (fun M1 e37 es e => ?_) (fun z M1 z' M2 es e37 e g q q' => ?_)
  · refine gq2 ?_ (rg2_gor (rgT) (rg2_gor (rgM) rg2_0))
    rw [gT_e hR, gM_e (k := k) hR]
    simp only [gG, gor_as, gor_z]
    unfold mT mMp 
    rw [e37]
  · rw [es] at q'
    obtain ⟨q1, q2⟩ := q
    obtain ⟨q3, q4⟩ := q'
    refine ⟨?_, q4⟩
    simp only [gor_00] at g
    obtain ⟨gT, gMk, _⟩ := g
    have hk0 := gM_in gMk
    have c1 := R_c hR hk0
    exact (v_low hL4 c1 q1 q3).symm
set_option maxHeartbeats 1000000 in
theorem p_byteAt (hI : Inv M) (hk : zR k) (hi : zR i) : qPr W2 mX7_byteAt mX8_byteAt 3 9 10 [.int (zI k), .int (zI i)] M := by
  obtain ⟨hC, hM, _⟩ := id hI
  obtain ⟨L, hR, hL4, h6, h11⟩ := Inv_L hI
  have hpL := p4_in (L : Int)
  refine pr_q (R' := fun M1 z' M2 => _) hI (k_byteAt hC hR.1 hk hi) (fun z M1 q => q.2) (fun M1 e i l => o_byteAt i (by rw [l]; exact hR.2.1) hk hi) (fun M1 e37 es e => ?_) (fun z M1 z' M2 es e37 e g q q' => ?_)
  · refine gq2 ?_ (rg2_gor (rgT) (rg2_gor (rgM) (rg2_gor (rgY) rg2_0)))
    rw [es]
    simp only [gG, gor_as, gor_z]
    rw [gT_e hR]
    unfold mT
    rw [e37]
    refine congrArg _ ?_
    rw [show mMp M1 k = gMap M k by rw [gM_e hR]; unfold mMp; rw [e37]]
    exact gor_c (fun g => by rw [tsz_eL hL4 (R_c hR (gM_in g))])
  · rw [es] at q'
    obtain ⟨q1, q2⟩ := q
    obtain ⟨q3, q4⟩ := q'
    refine ⟨?_, q4⟩
    simp only [gor_00] at g
    obtain ⟨gT, gMk, gY, _⟩ := g
    have hk0 := gM_in gMk
    have c1 := R_c hR hk0
    obtain ⟨N, hN, rfl⟩ := q1
    obtain ⟨N', hN', rfl⟩ := q3
    refine (v_byte hL4 c1 hN hN' ?_).symm
    rw [← tsz_eL hL4 c1]
    exact gY_in gY
set_option maxHeartbeats 1000000 in
theorem p_told (hI : Inv M) (hk : zR k) (hi : zR i) : qPr W2 mX7_told mX8_told 3 9 10 [.int (zI k), .int (zI i)] M := by
  obtain ⟨hC, hM, _⟩ := id hI
  obtain ⟨L, hR, hL4, h6, h11⟩ := Inv_L hI
  have hpL := p4_in (L : Int)
  refine pr_q (R' := fun M1 z' M2 => _) hI (k_told hC hR.1 hk hi) (fun z M1 q => q.2) (fun M1 e i l => o_told i (by rw [l]; exact hR.2.1) hk hi) (fun M1 e37 es e => ?_) (fun z M1 z' M2 es e37 e g q q' => ?_)
  · refine gq2 ?_ (rg2_gor (rgT) (rg2_gor (rgM) (rg2_gor (rgY) rg2_0)))
    rw [es]
    simp only [gG, gor_as, gor_z]
    rw [gT_e hR]
    unfold mT
    rw [e37]
    refine congrArg _ ?_
    rw [show mMp M1 k = gMap M k by rw [gM_e hR]; unfold mMp; rw [e37]]
    exact gor_c (fun g => by rw [tsz_eL hL4 (R_c hR (gM_in g))])
  · rw [es] at q'
    obtain ⟨q1, q2⟩ := q
    obtain ⟨q3, q4⟩ := q'
    refine ⟨?_, q4⟩
    simp only [gor_00] at g
    obtain ⟨gT, gMk, gY, _⟩ := g
    have hk0 := gM_in gMk
    have c1 := R_c hR hk0
    rw [q3, q1]
    refine zsum_congr (fun x x0 x1 => ?_)
    rw [v_teller hL4 c1 x0]
set_option maxHeartbeats 1000000 in
theorem p_biggest (hI : Inv M) (hk : zR k) (hq : zR q) : qPr W3 mX7_biggest mX8_biggest 3 9 9 [.int (zI k), .int (zI q)] M := by
  obtain ⟨hC, hM, _⟩ := id hI
  obtain ⟨L, hR, hL4, h6, h11⟩ := Inv_L hI
  have hpL := p4_in (L : Int)
  refine pr_q (R' := fun M1 z' M2 => _) hI (k_biggest hC hR.1 hk hq) (fun z M1 q => q.2) (fun M1 e i l => o_biggest i (by rw [l]; exact hR.2.1) hk hq) (fun M1 e37 es e => ?_) (fun z M1 z' M2 es e37 e g q q' => ?_)
  · refine gq3 ?_ (rg3_gor (rg23 (rgT)) (rg3_gor (rg23 (rgM)) (rg3_gor (rg3_i (Or.inr (Or.inr rfl))) (rg23 rg2_0))))
    rw [gT_e hR, gM_e (k := k) hR]
    simp only [gG, gor_as, gor_z]
    unfold mT mMp 
    rw [e37]
  · rw [es] at q'
    obtain ⟨q1, q2⟩ := q
    obtain ⟨q3, q4⟩ := q'
    refine ⟨?_, q4⟩
    simp only [gor_00] at g
    obtain ⟨gT, gMk, gi3, _⟩ := g
    have hk0 := gM_in gMk
    have c1 := R_c hR hk0
    exact (v_big hL4 c1 q1 q3).symm
set_option maxHeartbeats 1000000 in
theorem p_cheapest (hI : Inv M)  : qPr W2 mX7_cheapest mX8_cheapest 1 9 9 [] M := by
  obtain ⟨hC, hM, _⟩ := id hI
  obtain ⟨L, hR, hL4, h6, h11⟩ := Inv_L hI
  have hpL := p4_in (L : Int)
  refine pr_q (R' := fun M1 z' M2 => _) hI (k_cheapest hC hR.1 ) (fun z M1 q => q.2) (fun M1 e i l => o_cheapest i (by rw [l]; exact hR.2.1) ) (fun M1 e37 es e => ?_) (fun z M1 z' M2 es e37 e g q q' => ?_)
  · refine gq2 ?_ (rg2_gor (rgT) rg2_0)
    rw [gT_e hR]
    simp only [gG, gor_as, gor_z]
    unfold mT  
    rw [e37]
  · rw [es] at q'
    obtain ⟨q1, q2⟩ := q
    obtain ⟨q3, q4⟩ := q'
    refine ⟨?_, q4⟩
    simp only [gor_00] at g
    obtain ⟨gT, _⟩ := g
    rw [q3, q1, e37, h11]
    exact (bst_e (Int.le_refl 0) _ (fun i i0 i1 => tsz_eL hL4 (R_c hR ⟨i0, by omega⟩))).symm
set_option maxHeartbeats 1000000 in
theorem p_common (hI : Inv M) (hk : zR k) (ho : zR o) : qPr W2 mX7_common mX8_common 3 9 4 [.int (zI k), .int (zI o)] M := by
  obtain ⟨hC, hM, _⟩ := id hI
  obtain ⟨L, hR, hL4, h6, h11⟩ := Inv_L hI
  have hpL := p4_in (L : Int)
  refine pr_q (R' := fun M1 z' M2 => _) hI (k_common hC hR.1 hk ho) (fun z M1 q => q.2) (fun M1 e i l => o_common i  hk ho) (fun M1 e37 es e => ?_) (fun z M1 z' M2 es e37 e g q q' => ?_)
  · refine gq2 ?_ (rg2_gor (rgT) (rg2_gor (rgM) (rg2_gor (rgM) rg2_0)))
    rw [gT_e hR, gM_e (k := k) hR, gM_e (k := o) hR]
    simp only [gG, gor_as, gor_z]
    unfold mT mMp 
    rw [e37]
  · rw [es] at q'
    obtain ⟨q1, q2⟩ := q
    obtain ⟨q3, q4⟩ := q'
    refine ⟨?_, q4⟩
    simp only [gor_00] at g
    obtain ⟨gT, gMk, gMo, _⟩ := g
    have hk0 := gM_in gMk
    have c1 := R_c hR hk0
    have ho0 := gM_in gMo
    have c2 := R_c hR ho0
    rw [q3, q1, v_common c1 c2 (I_z hI hR hk0) (I_b hI hR hk0) (I_b hI hR ho0)]
set_option maxHeartbeats 1000000 in
theorem p_distance (hI : Inv M) (hk : zR k) (ho : zR o) : qPr W2 mX7_distance mX8_distance 3 9 4 [.int (zI k), .int (zI o)] M := by
  obtain ⟨hC, hM, _⟩ := id hI
  obtain ⟨L, hR, hL4, h6, h11⟩ := Inv_L hI
  have hpL := p4_in (L : Int)
  refine pr_q (R' := fun M1 z' M2 => _) hI (k_distance hC hR.1 hk ho) (fun z M1 q => by rw [q.2]; exact Scr_rf hC) (fun M1 e i l => o_distance i  hk ho) (fun M1 e37 es e => ?_) (fun z M1 z' M2 es e37 e g q q' => ?_)
  · refine gq2 ?_ (rg2_gor (rgT) (rg2_gor (rgM) (rg2_gor (rgM) rg2_0)))
    rw [gT_e hR, gM_e (k := k) hR, gM_e (k := o) hR]
    simp only [gG, gor_as, gor_z]
    unfold mT mMp 
    rw [e37]
  · rw [es] at q'
    obtain ⟨q1, q2⟩ := q
    obtain ⟨q3, q4⟩ := q'
    refine ⟨?_, q4⟩
    simp only [gor_00] at g
    obtain ⟨gT, gMk, gMo, _⟩ := g
    have hk0 := gM_in gMk
    have c1 := R_c hR hk0
    have ho0 := gM_in gMo
    have c2 := R_c hR ho0
    rw [q3, q1, v_dist c1 c2 (I_z hI hR hk0) (I_z hI hR ho0)]
set_option maxHeartbeats 1000000 in
theorem p_differs (hI : Inv M) (hk : zR k) (ho : zR o) : qPr W2 mX7_differs mX8_differs 3 9 4 [.int (zI k), .int (zI o)] M := by
  obtain ⟨hC, hM, _⟩ := id hI
  obtain ⟨L, hR, hL4, h6, h11⟩ := Inv_L hI
  have hpL := p4_in (L : Int)
  refine pr_q (R' := fun M1 z' M2 => _) hI (k_differs hC hR.1 hk ho) (fun z M1 q => by rw [q.2]; exact Scr_rf hC) (fun M1 e i l => o_differs i  hk ho) (fun M1 e37 es e => ?_) (fun z M1 z' M2 es e37 e g q q' => ?_)
  · refine gq2 ?_ (rg2_gor (rgT) (rg2_gor (rgM) (rg2_gor (rgM) rg2_0)))
    rw [gT_e hR, gM_e (k := k) hR, gM_e (k := o) hR]
    simp only [gG, gor_as, gor_z]
    unfold mT mMp 
    rw [e37]
  · rw [es] at q'
    obtain ⟨q1, q2⟩ := q
    obtain ⟨q3, q4⟩ := q'
    refine ⟨?_, q4⟩
    simp only [gor_00] at g
    obtain ⟨gT, gMk, gMo, _⟩ := g
    have hk0 := gM_in gMk
    have c1 := R_c hR hk0
    have ho0 := gM_in gMo
    have c2 := R_c hR ho0
    refine frst_un (frst_cut (n := 8 * p4 L) (by omega) (fun i i0 i1 => ?_) q3) (frst_e (fun i i0 i1 => ?_) q1)
    · unfold bitP
      rw [I_z hI hR hk0 (i / 8) (by omega) (by omega), I_z hI hR ho0 (i / 8) (by omega) (by omega)]
      exact fun w => w rfl
    · rw [cE_bit c1 (q := i) i0 i1, cE_bit c2 (q := i) i0 i1]
set_option maxHeartbeats 1000000 in
theorem p_isWithin (hI : Inv M) (hk : zR k) (ho : zR o) : qPr W2 mX7_isWithin mX8_isWithin 3 9 4 [.int (zI k), .int (zI o)] M := by
  obtain ⟨hC, hM, _⟩ := id hI
  obtain ⟨L, hR, hL4, h6, h11⟩ := Inv_L hI
  have hpL := p4_in (L : Int)
  refine pr_q (R' := fun M1 z' M2 => _) hI (k_isWithin hC hR.1 hk ho) (fun z M1 q => q.2) (fun M1 e i l => o_isWithin i  hk ho) (fun M1 e37 es e => ?_) (fun z M1 z' M2 es e37 e g q q' => ?_)
  · refine gq2 ?_ (rg2_gor (rgT) (rg2_gor (rgM) (rg2_gor (rgM) rg2_0)))
    rw [gT_e hR, gM_e (k := k) hR, gM_e (k := o) hR]
    simp only [gG, gor_as, gor_z]
    unfold mT mMp 
    rw [e37]
  · rw [es] at q'
    obtain ⟨q1, q2⟩ := q
    obtain ⟨q3, q4⟩ := q'
    refine ⟨?_, q4⟩
    simp only [gor_00] at g
    obtain ⟨gT, gMk, gMo, _⟩ := g
    have hk0 := gM_in gMk
    have c1 := R_c hR hk0
    have ho0 := gM_in gMo
    have c2 := R_c hR ho0
    rw [q3, q1, v_within c1 c2 (I_z hI hR hk0) (I_b hI hR hk0) (I_b hI hR ho0)]
set_option maxHeartbeats 1000000 in
theorem p_alike (hI : Inv M) (hk : zR k) (ho : zR o) (hl : zR l) : qPr W2 mX7_alike mX8_alike 4 9 4 [.int (zI k), .int (zI o), .int (zI l)] M := by
  obtain ⟨hC, hM, _⟩ := id hI
  obtain ⟨L, hR, hL4, h6, h11⟩ := Inv_L hI
  have hpL := p4_in (L : Int)
  refine pr_q (R' := fun M1 z' M2 => _) hI (k_alike hC hR.1 hk ho hl) (fun z M1 q => by rw [q.2]; exact Scr_rf hC) (fun M1 e i l => o_alike i (by rw [l]; exact hR.2.1) hk ho hl) (fun M1 e37 es e => ?_) (fun z M1 z' M2 es e37 e g q q' => ?_)
  · refine gq2 ?_ (rg2_gor (rgT) (rg2_gor (rgM) (rg2_gor (rgM) (rg2_gor (rgL) rg2_0))))
    rw [gT_e hR, gM_e (k := k) hR, gM_e (k := o) hR, gL_e hR]
    simp only [gG, gor_as, gor_z]
    unfold mT mMp mLv
    rw [e37]
  · rw [es] at q'
    obtain ⟨q1, q2⟩ := q
    obtain ⟨q3, q4⟩ := q'
    refine ⟨?_, q4⟩
    simp only [gor_00] at g
    obtain ⟨gT, gMk, gMo, gL, _⟩ := g
    have hk0 := gM_in gMk
    have c1 := R_c hR hk0
    have ho0 := gM_in gMo
    have c2 := R_c hR ho0
    have hl0 := gL_in gL
    rw [hR.1] at hl0
    rw [q3, q1, v_alike hL4 c1 c2 hl0]
set_option maxHeartbeats 1000000 in
theorem p_combined (hI : Inv M) (hk : zR k) (ho : zR o) (hq : zR q) : qPr W3 mX7_combined mX8_combined 4 9 8 [.int (zI q), .int (zI k), .int (zI o)] M := by
  obtain ⟨hC, hM, _⟩ := id hI
  obtain ⟨L, hR, hL4, h6, h11⟩ := Inv_L hI
  have hpL := p4_in (L : Int)
  refine pr_q (R' := fun M1 z' M2 => _) hI (k_combined hC hR.1 hk ho hq) (fun z M1 q => q.2) (fun M1 e i l => o_combined i (by rw [l]; exact hR.2.1) hk ho hq) (fun M1 e37 es e => ?_) (fun z M1 z' M2 es e37 e g q q' => ?_)
  · refine gq3 ?_ (rg3_gor (rg23 (rgT)) (rg3_gor (rg23 (rgM)) (rg3_gor (rg23 (rgM)) (rg3_gor (rgK) (rg23 rg2_0)))))
    rw [gT_e hR, gM_e (k := k) hR, gM_e (k := o) hR]
    simp only [gG, gor_as, gor_z]
    unfold mT mMp 
    rw [e37]
  · rw [es] at q'
    obtain ⟨q1, q2⟩ := q
    obtain ⟨q3, q4⟩ := q'
    refine ⟨?_, q4⟩
    simp only [gor_00] at g
    obtain ⟨gT, gMk, gMo, gK, _⟩ := g
    have hk0 := gM_in gMk
    have c1 := R_c hR hk0
    have ho0 := gM_in gMo
    have c2 := R_c hR ho0
    rw [q3, q1, tsz_eL hL4 (v_mg c1 c2)]
set_option maxHeartbeats 1000000 in
theorem p_nearest (hI : Inv M) (hk : zR k) : qPr W2 mX7_nearest mX8_nearest 2 9 4 [.int (zI k)] M := by
  obtain ⟨hC, hM, _⟩ := id hI
  obtain ⟨L, hR, hL4, h6, h11⟩ := Inv_L hI
  have hpL := p4_in (L : Int)
  refine pr_q (R' := fun M1 z' M2 => _) hI (k_nearest hC hR.1 hk) (fun z M1 q => by rw [q.2]; exact Scr_rf hC) (fun M1 e i l => o_nearest i  hk) (fun M1 e37 es e => ?_) (fun z M1 z' M2 es e37 e g q q' => ?_)
  · refine gq2 ?_ (rg2_gor (rgT) (rg2_gor (rgM) rg2_0))
    rw [gT_e hR, gM_e (k := k) hR]
    simp only [gG, gor_as, gor_z]
    unfold mT mMp 
    rw [e37]
  · rw [es] at q'
    obtain ⟨q1, q2⟩ := q
    obtain ⟨q3, q4⟩ := q'
    refine ⟨?_, q4⟩
    simp only [gor_00] at g
    obtain ⟨gT, gMk, _⟩ := g
    have hk0 := gM_in gMk
    have c1 := R_c hR hk0
    rw [q3, q1, e37, h11]
    exact (bst_e (Int.le_refl 0) _ (fun i i0 i1 => v_dist c1 (R_c hR ⟨i0, by omega⟩) (I_z hI hR hk0) (I_z hI hR ⟨i0, by omega⟩))).symm
set_option maxHeartbeats 1000000 in
theorem p_bytesIf (hI : Inv M) (hk : zR k) (hp : zR p) : qPr W2 mX7_bytesIf mX8_bytesIf 3 9 9 [.int (zI k), .int (zI p)] M := by
  obtain ⟨hC, hM, _⟩ := id hI
  obtain ⟨L, hR, hL4, h6, h11⟩ := Inv_L hI
  have hpL := p4_in (L : Int)
  refine pr_q (R' := fun M1 z' M2 => _) hI (k_bytesIf hC hR.1 hk hp) (fun z M1 q => q.2) (fun M1 e i l => o_bytesIf i (by rw [l]; exact hR.2.1) hk hp) (fun M1 e37 es e => ?_) (fun z M1 z' M2 es e37 e g q q' => ?_)
  · refine gq2 ?_ (rg2_gor (rgT) (rg2_gor (rgM) (rg2_gor (rgP) rg2_0)))
    rw [gT_e hR, gM_e (k := k) hR, gP_e hR]
    simp only [gG, gor_as, gor_z]
    unfold mT mMp mPs
    rw [e37]
  · rw [es] at q'
    obtain ⟨q1, q2⟩ := q
    obtain ⟨q3, q4⟩ := q'
    refine ⟨?_, q4⟩
    simp only [gor_00] at g
    obtain ⟨gT, gMk, gP, _⟩ := g
    have hk0 := gM_in gMk
    have c1 := R_c hR hk0
    have hp0 := CI_ps hR.1 gP
    rw [q3, q1, tsz_eL hL4 (flc_e c1 hp0.1 hp0.2.1)]
set_option maxHeartbeats 1000000 in
theorem p_bestFlip (hI : Inv M) (hk : zR k) (hf : zR f) (ht : zR t) : qPr W2 mX7_bestFlip mX8_bestFlip 5 9 9 [.int (zI k), .int (zI f), .int (zI t)] M := by
  obtain ⟨hC, hM, _⟩ := id hI
  obtain ⟨L, hR, hL4, h6, h11⟩ := Inv_L hI
  have hpL := p4_in (L : Int)
  refine pr_q (R' := fun M1 z' M2 => _) hI (k_bestFlip hC hR.1 hk hf ht) (fun z M1 q => q.2) (fun M1 e i l => o_bestFlip i (by rw [l]; exact hR.2.1) hk hf ht) (fun M1 e37 es e => ?_) (fun z M1 z' M2 es e37 e g q q' => ?_)
  · refine gq2 ?_ (rg2_gor (rgT) (rg2_gor (rgM) (rg2_gor (rgR) rg2_0)))
    rw [gT_e hR, gM_e (k := k) hR, gR_e hR]
    simp only [gG, gor_as, gor_z]
    unfold mT mMp mRg
    rw [e37]
  · rw [es] at q'
    obtain ⟨q1, q2⟩ := q
    obtain ⟨q3, q4⟩ := q'
    refine ⟨?_, q4⟩
    simp only [gor_00] at g
    obtain ⟨gT, gMk, gR, _⟩ := g
    have hk0 := gM_in gMk
    have c1 := R_c hR hk0
    have hr := CI_rg hR.1 gR
    rw [q3, q1]
    exact (bst_e hr.1 _ (fun i i0 i1 => tsz_eL hL4 (flc_e c1 (by omega) (by omega)))).symm
set_option maxHeartbeats 1000000 in
theorem p_bytesFilled (hI : Inv M) (hk : zR k) (hf : zR f) (ht : zR t) (hb : zR b) : qPr W3 mX7_bytesFilled mX8_bytesFilled 6 9 9 [.int (zI k), .int (zI f), .int (zI t), .int (zI b)] M := by
  obtain ⟨hC, hM, _⟩ := id hI
  obtain ⟨L, hR, hL4, h6, h11⟩ := Inv_L hI
  have hpL := p4_in (L : Int)
  refine pr_q (R' := fun M1 z' M2 => _) hI (k_bytesFilled hC hR.1 hk hf ht hb) (fun z M1 q => q.2) (fun M1 e i l => o_bytesFilled i (by rw [l]; exact hR.2.1) hk hf ht hb) (fun M1 e37 es e => ?_) (fun z M1 z' M2 es e37 e g q q' => ?_)
  · refine gq3 ?_ (rg3_gor (rg23 (rgT)) (rg3_gor (rg23 (rgM)) (rg3_gor (rg23 (rgR)) (rg3_gor (rgI) (rg23 rg2_0)))))
    rw [gT_e hR, gM_e (k := k) hR, gR_e hR]
    simp only [gG, gor_as, gor_z]
    unfold mT mMp mRg
    rw [e37]
  · rw [es] at q'
    obtain ⟨q1, q2⟩ := q
    obtain ⟨q3, q4⟩ := q'
    refine ⟨?_, q4⟩
    simp only [gor_00] at g
    obtain ⟨gT, gMk, gR, gI, _⟩ := g
    have hk0 := gM_in gMk
    have c1 := R_c hR hk0
    rw [q3, q1, tsz_eL hL4 (cov_e c1 f t b)]
set_option maxHeartbeats 1000000 in
theorem p_bytesShifted (hI : Inv M) (hk : zR k) (hb : zR b) : qPr W2 mX7_bytesShifted mX8_bytesShifted 2 9 9 [.int (zI k), .int (zI b)] M := by
  obtain ⟨hC, hM, _⟩ := id hI
  obtain ⟨L, hR, hL4, h6, h11⟩ := Inv_L hI
  have hpL := p4_in (L : Int)
  refine pr_q (R' := fun M1 z' M2 => _) hI (k_bytesShifted hC hR.1 hk hb) (fun z M1 q => q.2) (fun M1 e i l => o_bytesShifted i (by rw [l]; exact hR.2.1) hk hb) (fun M1 e37 es e => ?_) (fun z M1 z' M2 es e37 e g q q' => ?_)
  · refine gq2 ?_ (rg2_gor (rgT) (rg2_gor (rgM) rg2_0))
    rw [gT_e hR, gM_e (k := k) hR]
    simp only [gG, gor_as, gor_z]
    unfold mT mMp 
    rw [e37]
  · rw [es] at q'
    obtain ⟨q1, q2⟩ := q
    obtain ⟨q3, q4⟩ := q'
    refine ⟨?_, q4⟩
    simp only [gor_00] at g
    obtain ⟨gT, gMk, _⟩ := g
    have hk0 := gM_in gMk
    have c1 := R_c hR hk0
    rw [q3, q1, show shS (rowc M k) b (8 * p4 L) = shS (scl M k) b (8 * p4 L) from funext (shS_e c1 b)]
set_option maxHeartbeats 1000000 in
theorem p_mostLike (hI : Inv M) (hk : zR k) (hl : zR l) (hx : zR x) : qPr W2 mX7_mostLike mX8_mostLike 4 9 4 [.int (zI k), .int (zI l), .int (zI x)] M := by
  obtain ⟨hC, hM, _⟩ := id hI
  obtain ⟨L, hR, hL4, h6, h11⟩ := Inv_L hI
  have hpL := p4_in (L : Int)
  refine pr_q (R' := fun M1 z' M2 => _) hI (k_mostLike hC hR.1 hk hl hx) (fun z M1 q => by rw [q.2]; exact Scr_rf hC) (fun M1 e i l => o_mostLike i (by rw [l]; exact hR.2.1) hk hl hx) (fun M1 e37 es e => ?_) (fun z M1 z' M2 es e37 e g q q' => ?_)
  · refine gq2 ?_ (rg2_gor (rgT) (rg2_gor (rgM) (rg2_gor (rgB) rg2_0)))
    rw [gT_e hR, gM_e (k := k) hR, gB_e (x := x) hR]
    simp only [gG, gor_as, gor_z]
    unfold mT mMp mBk
    rw [e37]
  · rw [es] at q'
    obtain ⟨q1, q2⟩ := q
    obtain ⟨q3, q4⟩ := q'
    refine ⟨?_, q4⟩
    simp only [gor_00] at g
    obtain ⟨gT, gMk, gB, _⟩ := g
    have hk0 := gM_in gMk
    have c1 := R_c hR hk0
    have hb := gB_in gB
    rw [hR.1] at hb
    have hpd := p4_in ((L : Int) - l)
    have hb0 := blk_in hL4 hb.1 hb.2
    have hpl := p4_in l
    rw [q3, q1]
    refine (bst_e (Int.le_refl 0) _ (fun i i0 i1 => ?_)).symm
    have hb1 := blk_in hL4 hb.1 (x := i) ⟨i0, by omega⟩
    exact v_unl c1 c1 hb0 hb1 (by omega)
end PRQ


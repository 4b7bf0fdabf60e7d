/-! The class: its guards. -/
theorem gth1 {M : qM} {g : Int} (h : g = 1) : (qpG g M).2 qEISE M := ⟨by rw [h]; rfl, rfl, by omega⟩
theorem gth2 {M : qM} {g : Int} (h : g = 2) : (qpG g M).2 qEIOE M := ⟨by rw [h]; rfl, rfl, by omega⟩
theorem gth3 {M : qM} {g : Int} (h : g = 3) : (qpG g M).2 qEIAE M := ⟨by rw [h]; rfl, rfl, by omega⟩
theorem gok {M : qM} {g : Int} (h : g = 0) : (qpG g M).1 none M := ⟨rfl, rfl, h⟩
theorem gxt1 {M : qM} {g : Int} {R : Int → qM → Prop} {Mx : qM → Prop} (h : g = 1) (hx : Mx M) : (qpx g R Mx).2 qEISE M := ⟨by omega, by rw [h]; rfl, hx⟩
theorem gxt2 {M : qM} {g : Int} {R : Int → qM → Prop} {Mx : qM → Prop} (h : g = 2) (hx : Mx M) : (qpx g R Mx).2 qEIOE M := ⟨by omega, by rw [h]; rfl, hx⟩
theorem gxt3 {M : qM} {g : Int} {R : Int → qM → Prop} {Mx : qM → Prop} (h : g = 3) (hx : Mx M) : (qpx g R Mx).2 qEIAE M := ⟨by omega, by rw [h]; rfl, hx⟩
theorem gxk {M : qM} {g z : Int} {R : Int → qM → Prop} {Mx : qM → Prop} (h : g = 0) (hx : R z M) : (qpx g R Mx).1 (some (.int (zI z))) M := ⟨h, z, rfl, hx⟩
theorem CI_len {M : qM} (h : CI M) : 0 ≤ M 1 1 ∧ M 1 1 ≤ 700 := h.2.2.2.1
theorem CI_ld {M : qM} (h : CI M) : M 0 9 = 0 ∨ M 0 9 = 1 := h.2.2.2.2.2.1
theorem CI_lv {M : qM} (h : CI M) {L : Nat} (hL : M 0 10 = (L : Int)) (q : gText M = 0) : 1 ≤ L ∧ L ≤ 4 := by
  have := h.2.2.2.2.2.2.1 (gText_0.1 q)
  omega
theorem CI_maps {M : qM} (h : CI M) : 0 ≤ M 0 11 ∧ M 0 11 ≤ 6 := h.2.2.2.2.2.2.2.1
theorem CI_mp {M : qM} (h : CI M) {k : Int} (q : gMap M k = 0) : 0 ≤ k ∧ k < 6 := by
  have := CI_maps h
  have := gMap_0.1 q
  omega
theorem CI_ps {M : qM} {L : Nat} (hL : M 0 10 = (L : Int)) {p : Int} (q : gPos M p = 0) : 0 ≤ p ∧ p < 8 * p4 L ∧ p < 2048 := by
  have := gPos_0.1 q
  rw [hL] at this
  have := p4_in (L : Int)
  omega
theorem CI_rg {M : qM} {L : Nat} (hL : M 0 10 = (L : Int)) {f t : Int} (q : gRng M f t = 0) : 0 ≤ f ∧ f ≤ t ∧ t < 8 * p4 L ∧ t < 2048 := by
  have := gRng_0.1 q
  rw [hL] at this
  have := p4_in (L : Int)
  omega
def qpB (g : Int) (W Mx : qM → Prop) : qP := (fun v M' => v = none ∧ g = 0 ∧ W M', fun E M' => E = exN g ∧ g ≠ 0 ∧ Mx M')
theorem qk_B {X : qX} {J : qJ} {b pc : Nat} {L : List (Option Value)} {rest : List Value} {g G : Int} {R : Int → qM → Prop} {W Mx : qM → Prop} (k : ∀ M', g = 0 → W M' → QW X J (qpx G R Mx) b pc L rest M') : QK X J (qpx (gor g G) R Mx) b pc L rest (qpB g W Mx) := ⟨fun v M' h => by
    obtain ⟨rfl, h, w⟩ := h
    rw [gor_0 h]
    exact k M' h w, fun E M' h => by
    obtain ⟨rfl, h, w⟩ := h
    rw [show (qpx (gor g G) R Mx) = qpx g R Mx by rw [gor_n h]]
    exact ⟨h, rfl, w⟩⟩
section GD
variable {M : qM} {L : Nat}
set_option maxHeartbeats 1000000 in
theorem c_requireText (h : CI M) : qCt mX7_requireText 1 0 [.ref 0] M (qpG (gText M) M) := by
  have h9 := CI_ld h
  refine q_intro (own := 7) (L := [some (.ref 0)]) md_X7_requireText rfl rfl rfl (Nat.le_of_ble_eq_true rfl) (fun X => ?_)
  refine q_aload_n dX7_requireText_0 rfl ?_
  refine q_geti (j := 9) dX7_requireText_1 fl_7_114 rfl rfl rfl ?_
  refine q_if_ne (tgt := 18) dX7_requireText_4 rfl (by (first | (unfold zR; omega) | (unfold zLR; omega) | omega | (simp only [zR, qup] at *; omega) | (simp [zR, qup]; omega) | (simp [zR, qup]; done))) (fun h4 => ?_) (fun h4 => ?_)
  ·
    refine q_return dX7_requireText_18 ?_
    exact gok (if_pos (by omega))
  ·
    refine qt_X7_requireText_7 (Nat.le_of_ble_eq_true rfl) ?_
    exact gth1 (if_neg (by omega))
set_option maxHeartbeats 1000000 in
theorem c_requireBuffered {n : Int} (h : CI M) (hn : zR n) : qCt mX7_requireBuffered 1 1 [.ref 0, .int (zI n)] M (qpG (gBuf M n) M) := by
  have hl := CI_len h
  refine q_intro (own := 7) (L := [some (.ref 0), some (.int (zI n))]) md_X7_requireBuffered rfl rfl rfl (Nat.le_of_ble_eq_true rfl) (fun X => ?_)
  refine q_iload_n dX7_requireBuffered_0 rfl ?_
  refine q_if_lt (tgt := 15) dX7_requireBuffered_1 rfl (by (first | (unfold zR; omega) | (unfold zLR; omega) | omega | (simp only [zR, qup] at *; omega) | (simp [zR, qup]; omega) | (simp [zR, qup]; done))) (fun h1 => ?_) (fun h1 => ?_)
  ·
    refine qt_X7_requireBuffered_15 (Nat.le_of_ble_eq_true rfl) ?_
    exact gth2 (if_neg (by omega))
  ·
    refine q_iload_n dX7_requireBuffered_4 rfl ?_
    refine q_aload_n dX7_requireBuffered_5 rfl ?_
    refine q_getr dX7_requireBuffered_6 fl_7_22 rfl rfl ?_
    refine q_V0 dX7_requireBuffered_9 ml_7_81 md_X1_length (c_blength (o := 1) (r := 2) rfl) rfl rfl rfl (by first | decide | omega) (Nat.le_of_ble_eq_true rfl) (Nat.le_of_ble_eq_true rfl) (qk_e ?_)
    refine q_icmp_le (tgt := 26) dX7_requireBuffered_12 rfl (by (first | (unfold zR; omega) | (unfold zLR; omega) | omega | (simp only [zR, qup] at *; omega) | (simp [zR, qup]; omega) | (simp [zR, qup]; done))) (by (first | (unfold zR; omega) | (unfold zLR; omega) | omega | (simp only [zR, qup] at *; omega) | (simp [zR, qup]; omega) | (simp [zR, qup]; done))) (fun h12 => ?_) (fun h12 => ?_)
    ·
      refine q_return dX7_requireBuffered_26 ?_
      exact gok (if_pos (by omega))
    ·
      refine qt_X7_requireBuffered_15 (Nat.le_of_ble_eq_true rfl) ?_
      exact gth2 (if_neg (by omega))
set_option maxHeartbeats 1000000 in
theorem c_requireMap {k : Int} (h : CI M) (hk : zR k) : qCt mX7_requireMap 1 0 [.ref 0, .int (zI k)] M (qpG (gMap M k) M) := by
  have hl := CI_maps h
  refine q_intro (own := 7) (L := [some (.ref 0), some (.int (zI k))]) md_X7_requireMap rfl rfl rfl (Nat.le_of_ble_eq_true rfl) (fun X => ?_)
  refine q_iload_n dX7_requireMap_0 rfl ?_
  refine q_if_lt (tgt := 12) dX7_requireMap_1 rfl (by (first | (unfold zR; omega) | (unfold zLR; omega) | omega | (simp only [zR, qup] at *; omega) | (simp [zR, qup]; omega) | (simp [zR, qup]; done))) (fun h1 => ?_) (fun h1 => ?_)
  ·
    refine qt_X7_requireMap_12 (Nat.le_of_ble_eq_true rfl) ?_
    exact gth2 (if_neg (by omega))
  ·
    refine q_iload_n dX7_requireMap_4 rfl ?_
    refine q_aload_n dX7_requireMap_5 rfl ?_
    refine q_geti (j := 11) dX7_requireMap_6 fl_7_111 rfl rfl rfl ?_
    refine q_icmp_lt (tgt := 23) dX7_requireMap_9 rfl (by (first | (unfold zR; omega) | (unfold zLR; omega) | omega | (simp only [zR, qup] at *; omega) | (simp [zR, qup]; omega) | (simp [zR, qup]; done))) (by (first | (unfold zR; omega) | (unfold zLR; omega) | omega | (simp only [zR, qup] at *; omega) | (simp [zR, qup]; omega) | (simp [zR, qup]; done))) (fun h9 => ?_) (fun h9 => ?_)
    ·
      refine q_return dX7_requireMap_23 ?_
      exact gok (if_pos (by omega))
    ·
      refine qt_X7_requireMap_12 (Nat.le_of_ble_eq_true rfl) ?_
      exact gth2 (if_neg (by omega))
set_option maxHeartbeats 1000000 in
theorem c_requirePosition {p : Int} (hL : M 0 10 = (L : Int)) (h1 : 1 ≤ L ∧ L ≤ 4) (hp : zR p) : qCt mX7_requirePosition 1 1 [.ref 0, .int (zI p)] M (qpG (gPos M p) M) := by
  have h4 := p4_in (L : Int)
  have hg : gPos M p = if 0 ≤ p ∧ p < 8 * p4 L then 0 else 2 := by unfold gPos; rw [hL]
  rw [hg]
  refine q_intro (own := 7) (L := [some (.ref 0), some (.int (zI p))]) md_X7_requirePosition rfl rfl rfl (Nat.le_of_ble_eq_true rfl) (fun X => ?_)
  refine q_iload_n dX7_requirePosition_0 rfl ?_
  refine q_if_lt (tgt := 18) dX7_requirePosition_1 rfl (by (first | (unfold zR; omega) | (unfold zLR; omega) | omega | (simp only [zR, qup] at *; omega) | (simp [zR, qup]; omega) | (simp [zR, qup]; done))) (fun h1 => ?_) (fun h1 => ?_)
  ·
    refine qt_X7_requirePosition_18 (Nat.le_of_ble_eq_true rfl) ?_
    exact gth2 (if_neg (by omega))
  ·
    refine q_iload_n dX7_requirePosition_4 rfl ?_
    refine q_bipush dX7_requirePosition_5 rfl ?_
    refine q_aload_n dX7_requirePosition_7 rfl ?_
    refine q_geti (j := 10) dX7_requirePosition_8 fl_7_121 rfl rfl rfl ?_
    rw [hL]
    refine q_S1 dX7_requirePosition_11 ml_7_164 md_X7_cellsIn (c_cellsIn (by omega)) rfl (by first | decide | omega) (Nat.le_of_ble_eq_true rfl) (Nat.le_of_ble_eq_true rfl) (qk_e ?_)
    refine q_imul dX7_requirePosition_14 ?_
    refine q_icmp_lt (tgt := 29) dX7_requirePosition_15 rfl (by (first | (unfold zR; omega) | (unfold zLR; omega) | omega | (simp only [zR, qup] at *; omega) | (simp [zR, qup]; omega) | (simp [zR, qup]; done))) (by (first | (unfold zR; omega) | (unfold zLR; omega) | omega | (simp only [zR, qup] at *; omega) | (simp [zR, qup]; omega) | (simp [zR, qup]; done))) (fun h15 => ?_) (fun h15 => ?_)
    ·
      refine q_return dX7_requirePosition_29 ?_
      exact gok (if_pos (by omega))
    ·
      refine qt_X7_requirePosition_18 (Nat.le_of_ble_eq_true rfl) ?_
      exact gth2 (if_neg (by omega))
set_option maxHeartbeats 1000000 in
theorem c_requireRange {f t : Int} (hL : M 0 10 = (L : Int)) (h1 : 1 ≤ L ∧ L ≤ 4) (hf : zR f) (ht : zR t) : qCt mX7_requireRange 3 2 [.ref 0, .int (zI f), .int (zI t)] M (qpG (gRng M f t) M) := by
  unfold gRng
  refine q_intro (own := 7) (L := [some (.ref 0), some (.int (zI f)), some (.int (zI t))]) md_X7_requireRange rfl rfl rfl (Nat.le_of_ble_eq_true rfl) (fun X => ?_)
  refine q_aload_n dX7_requireRange_0 rfl ?_
  refine q_iload_n dX7_requireRange_1 rfl ?_
  refine q_V1 dX7_requireRange_2 ml_7_175 md_X7_requirePosition (c_requirePosition hL h1 hf) rfl rfl rfl (by first | decide | omega) (Nat.le_of_ble_eq_true rfl) (Nat.le_of_ble_eq_true rfl) (qk_GG (fun hq2 => ?_))
  refine q_aload_n dX7_requireRange_5 rfl ?_
  refine q_iload_n dX7_requireRange_6 rfl ?_
  refine q_V1 dX7_requireRange_7 ml_7_175 md_X7_requirePosition (c_requirePosition hL h1 ht) rfl rfl rfl (by first | decide | omega) (Nat.le_of_ble_eq_true rfl) (Nat.le_of_ble_eq_true rfl) (qk_GG (fun hq7 => ?_))
  refine q_iload_n dX7_requireRange_10 rfl ?_
  refine q_iload_n dX7_requireRange_11 rfl ?_
  refine q_icmp_le (tgt := 26) dX7_requireRange_12 rfl (by (first | (unfold zR; omega) | (unfold zLR; omega) | omega | (simp only [zR, qup] at *; omega) | (simp [zR, qup]; omega) | (simp [zR, qup]; done))) (by (first | (unfold zR; omega) | (unfold zLR; omega) | omega | (simp only [zR, qup] at *; omega) | (simp [zR, qup]; omega) | (simp [zR, qup]; done))) (fun h12 => ?_) (fun h12 => ?_)
  ·
    refine q_return dX7_requireRange_26 ?_
    exact gok (if_pos (by omega))
  ·
    refine qt_X7_requireRange_15 (Nat.le_of_ble_eq_true rfl) ?_
    exact gth2 (if_neg (by omega))
set_option maxHeartbeats 1000000 in
theorem c_requireLevel {l : Int} (hL : M 0 10 = (L : Int)) (h1 : 1 ≤ L ∧ L ≤ 4) (hl : zR l) : qCt mX7_requireLevel 1 0 [.ref 0, .int (zI l)] M (qpG (gLev M l) M) := by
  refine q_intro (own := 7) (L := [some (.ref 0), some (.int (zI l))]) md_X7_requireLevel rfl rfl rfl (Nat.le_of_ble_eq_true rfl) (fun X => ?_)
  refine q_iload_n dX7_requireLevel_0 rfl ?_
  refine q_if_lt (tgt := 12) dX7_requireLevel_1 rfl (by (first | (unfold zR; omega) | (unfold zLR; omega) | omega | (simp only [zR, qup] at *; omega) | (simp [zR, qup]; omega) | (simp [zR, qup]; done))) (fun h1 => ?_) (fun h1 => ?_)
  ·
    refine qt_X7_requireLevel_12 (Nat.le_of_ble_eq_true rfl) ?_
    exact gth2 (if_neg (by omega))
  ·
    refine q_iload_n dX7_requireLevel_4 rfl ?_
    refine q_aload_n dX7_requireLevel_5 rfl ?_
    refine q_geti (j := 10) dX7_requireLevel_6 fl_7_121 rfl rfl rfl ?_
    refine q_icmp_le (tgt := 23) dX7_requireLevel_9 rfl (by (first | (unfold zR; omega) | (unfold zLR; omega) | omega | (simp only [zR, qup] at *; omega) | (simp [zR, qup]; omega) | (simp [zR, qup]; done))) (by (first | (unfold zR; omega) | (unfold zLR; omega) | omega | (simp only [zR, qup] at *; omega) | (simp [zR, qup]; omega) | (simp [zR, qup]; done))) (fun h9 => ?_) (fun h9 => ?_)
    ·
      refine q_return dX7_requireLevel_23 ?_
      exact gok (if_pos (by omega))
    ·
      refine qt_X7_requireLevel_12 (Nat.le_of_ble_eq_true rfl) ?_
      exact gth2 (if_neg (by omega))
set_option maxHeartbeats 1000000 in
theorem c_requireBlock {l x : Int} (hL : M 0 10 = (L : Int)) (h1 : 1 ≤ L ∧ L ≤ 4) (hl : zR l) (hx : zR x) : qCt mX7_requireBlock 2 1 [.ref 0, .int (zI l), .int (zI x)] M (qpG (gBlk M l x) M) := by
  have h4 := p4_in (M 0 10 - l)
  unfold gBlk
  refine q_intro (own := 7) (L := [some (.ref 0), some (.int (zI l)), some (.int (zI x))]) md_X7_requireBlock rfl rfl rfl (Nat.le_of_ble_eq_true rfl) (fun X => ?_)
  refine q_aload_n dX7_requireBlock_0 rfl ?_
  refine q_iload_n dX7_requireBlock_1 rfl ?_
  refine q_V1 dX7_requireBlock_2 ml_7_265 md_X7_requireLevel (c_requireLevel hL h1 hl) rfl rfl rfl (by first | decide | omega) (Nat.le_of_ble_eq_true rfl) (Nat.le_of_ble_eq_true rfl) (qk_GG (fun hq2 => ?_))
  have hq := gLev_0.1 hq2
  refine q_iload_n dX7_requireBlock_5 rfl ?_
  refine q_if_lt (tgt := 21) dX7_requireBlock_6 rfl (by (first | (unfold zR; omega) | (unfold zLR; omega) | omega | (simp only [zR, qup] at *; omega) | (simp [zR, qup]; omega) | (simp [zR, qup]; done))) (fun h6 => ?_) (fun h6 => ?_)
  ·
    refine qt_X7_requireBlock_21 (Nat.le_of_ble_eq_true rfl) ?_
    exact gth2 (if_neg (by omega))
  ·
    refine q_iload_n dX7_requireBlock_9 rfl ?_
    refine q_iload_n dX7_requireBlock_10 rfl ?_
    refine q_aload_n dX7_requireBlock_11 rfl ?_
    refine q_geti (j := 10) dX7_requireBlock_12 fl_7_121 rfl rfl rfl ?_
    refine q_S2 dX7_requireBlock_15 ml_7_268 md_X7_blocksAt (c_blocksAt (by omega)) rfl (by first | decide | omega) (Nat.le_of_ble_eq_true rfl) (Nat.le_of_ble_eq_true rfl) (qk_e ?_)
    refine q_icmp_lt (tgt := 32) dX7_requireBlock_18 rfl (by (first | (unfold zR; omega) | (unfold zLR; omega) | omega | (simp only [zR, qup] at *; omega) | (simp [zR, qup]; omega) | (simp [zR, qup]; done))) (by (first | (unfold zR; omega) | (unfold zLR; omega) | omega | (simp only [zR, qup] at *; omega) | (simp [zR, qup]; omega) | (simp [zR, qup]; done))) (fun h18 => ?_) (fun h18 => ?_)
    ·
      refine q_return dX7_requireBlock_32 ?_
      exact gok (if_pos (by omega))
    ·
      refine qt_X7_requireBlock_21 (Nat.le_of_ble_eq_true rfl) ?_
      exact gth2 (if_neg (by omega))
set_option maxHeartbeats 1000000 in
theorem c_requireSlot {k : Int} (hk : zR k) : qCt mX7_requireSlot 1 0 [.ref 0, .int (zI k)] M (qpG (gSlot k) M) := by
  refine q_intro (own := 7) (L := [some (.ref 0), some (.int (zI k))]) md_X7_requireSlot rfl rfl rfl (Nat.le_of_ble_eq_true rfl) (fun X => ?_)
  refine q_iload_n dX7_requireSlot_0 rfl ?_
  refine q_if_lt (tgt := 9) dX7_requireSlot_1 rfl (by (first | (unfold zR; omega) | (unfold zLR; omega) | omega | (simp only [zR, qup] at *; omega) | (simp [zR, qup]; omega) | (simp [zR, qup]; done))) (fun h1 => ?_) (fun h1 => ?_)
  ·
    refine qt_X7_requireSlot_9 (Nat.le_of_ble_eq_true rfl) ?_
    exact gth2 (if_neg (by omega))
  ·
    refine q_iload_n dX7_requireSlot_4 rfl ?_
    refine q_iconst dX7_requireSlot_5 ?_
    refine q_icmp_lt (tgt := 20) dX7_requireSlot_6 rfl (by (first | (unfold zR; omega) | (unfold zLR; omega) | omega | (simp only [zR, qup] at *; omega) | (simp [zR, qup]; omega) | (simp [zR, qup]; done))) (by (first | (unfold zR; omega) | (unfold zLR; omega) | omega | (simp only [zR, qup] at *; omega) | (simp [zR, qup]; omega) | (simp [zR, qup]; done))) (fun h6 => ?_) (fun h6 => ?_)
    ·
      refine q_return dX7_requireSlot_20 ?_
      exact gok (if_pos (by omega))
    ·
      refine qt_X7_requireSlot_9 (Nat.le_of_ble_eq_true rfl) ?_
      exact gth2 (if_neg (by omega))
set_option maxHeartbeats 1000000 in
theorem c_requireBit {k : Int} (hk : zR k) : qCt mX7_requireBit 1 0 [.ref 0, .int (zI k)] M (qpG (gBit k) M) := by
  refine q_intro (own := 7) (L := [some (.ref 0), some (.int (zI k))]) md_X7_requireBit rfl rfl rfl (Nat.le_of_ble_eq_true rfl) (fun X => ?_)
  refine q_iload_n dX7_requireBit_0 rfl ?_
  refine q_if_eq (tgt := 20) dX7_requireBit_1 rfl (by (first | (unfold zR; omega) | (unfold zLR; omega) | omega | (simp only [zR, qup] at *; omega) | (simp [zR, qup]; omega) | (simp [zR, qup]; done))) (fun h1 => ?_) (fun h1 => ?_)
  ·
    refine q_return dX7_requireBit_20 ?_
    exact gok (if_pos (by omega))
  ·
    refine q_iload_n dX7_requireBit_4 rfl ?_
    refine q_iconst dX7_requireBit_5 ?_
    refine q_icmp_eq (tgt := 20) dX7_requireBit_6 rfl (by (first | (unfold zR; omega) | (unfold zLR; omega) | omega | (simp only [zR, qup] at *; omega) | (simp [zR, qup]; omega) | (simp [zR, qup]; done))) (by (first | (unfold zR; omega) | (unfold zLR; omega) | omega | (simp only [zR, qup] at *; omega) | (simp [zR, qup]; omega) | (simp [zR, qup]; done))) (fun h6 => ?_) (fun h6 => ?_)
    ·
      refine q_return dX7_requireBit_20 ?_
      exact gok (if_pos (by omega))
    ·
      refine qt_X7_requireBit_9 (Nat.le_of_ble_eq_true rfl) ?_
      exact gth3 (if_neg (by omega))
set_option maxHeartbeats 1000000 in
theorem c_requireKind {k : Int} (hk : zR k) : qCt mX7_requireKind 1 0 [.ref 0, .int (zI k)] M (qpG (gKind k) M) := by
  refine q_intro (own := 7) (L := [some (.ref 0), some (.int (zI k))]) md_X7_requireKind rfl rfl rfl (Nat.le_of_ble_eq_true rfl) (fun X => ?_)
  refine q_iload_n dX7_requireKind_0 rfl ?_
  refine q_if_lt (tgt := 9) dX7_requireKind_1 rfl (by (first | (unfold zR; omega) | (unfold zLR; omega) | omega | (simp only [zR, qup] at *; omega) | (simp [zR, qup]; omega) | (simp [zR, qup]; done))) (fun h1 => ?_) (fun h1 => ?_)
  ·
    refine qt_X7_requireKind_9 (Nat.le_of_ble_eq_true rfl) ?_
    exact gth3 (if_neg (by omega))
  ·
    refine q_iload_n dX7_requireKind_4 rfl ?_
    refine q_iconst dX7_requireKind_5 ?_
    refine q_icmp_le (tgt := 20) dX7_requireKind_6 rfl (by (first | (unfold zR; omega) | (unfold zLR; omega) | omega | (simp only [zR, qup] at *; omega) | (simp [zR, qup]; omega) | (simp [zR, qup]; done))) (by (first | (unfold zR; omega) | (unfold zLR; omega) | omega | (simp only [zR, qup] at *; omega) | (simp [zR, qup]; omega) | (simp [zR, qup]; done))) (fun h6 => ?_) (fun h6 => ?_)
    ·
      refine q_return dX7_requireKind_20 ?_
      exact gok (if_pos (by omega))
    ·
      refine qt_X7_requireKind_9 (Nat.le_of_ble_eq_true rfl) ?_
      exact gth3 (if_neg (by omega))
/-- the tree of a row is measured -/
theorem CI_ok2 {M : qM} (h : CI M) {r : Int} (hr : 0 ≤ r ∧ r < 33) : ∀ k, 0 ≤ k → k < p4 L → 0 ≤ rowc M r k ∧ rowc M r k < 256 := fun k h0 h1 => CI_ok h hr k h0 (by have := p4_in (L : Int); omega)
theorem c_mea {r : Int} (h : CI M) (h1 : 1 ≤ L ∧ L ≤ 4) (hr : 0 ≤ r ∧ r < 33) : qCt mX6_measure 0 3 [.ref 5, .int (zI r), .int (zI (L : Int))] M (qph (fun M' => ∃ K Y S C T N, M' = tw (qup (qup M 5 7 r) 5 8 (L : Int)) K Y S C T N ∧ Tm (rowc M r) L K Y S C T N)) := c_measure h1 hr (fun _ _ _ => rfl) (CI_ok2 h hr) h.2.1
set_option maxHeartbeats 1000000 in
theorem c_sizeOfRow {r : Int} (h : CI M) (hL : M 0 10 = (L : Int)) (h1 : 1 ≤ L ∧ L ≤ 4) (hr : 0 ≤ r ∧ r < 33) : qCt mX7_sizeOfRow 0 4 [.ref 0, .int (zI r)] M (qpg (fun z M' => z = tsz (rowc M r) L 0 ∧ (∃ K Y S C T N, M' = tw (qup (qup M 5 7 r) 5 8 (L : Int)) K Y S C T N ∧ Tm (rowc M r) L K Y S C T N))) := by
  refine q_intro (own := 7) (L := [some (.ref 0), some (.int (zI r))]) md_X7_sizeOfRow rfl rfl rfl (Nat.le_of_ble_eq_true rfl) (fun X => ?_)
  refine q_aload_n dX7_sizeOfRow_0 rfl ?_
  refine q_getr dX7_sizeOfRow_1 fl_7_37 rfl rfl ?_
  refine q_iload_n dX7_sizeOfRow_4 rfl ?_
  refine q_aload_n dX7_sizeOfRow_5 rfl ?_
  refine q_geti (j := 10) dX7_sizeOfRow_6 fl_7_121 rfl rfl rfl ?_
  rw [hL]
  refine q_V2 dX7_sizeOfRow_9 ml_7_213 md_X6_measure (c_mea h h1 hr) rfl rfl rfl (by first | decide | omega) (Nat.le_of_ble_eq_true rfl) (Nat.le_of_ble_eq_true rfl) (qk_h (fun N9 hq9 => ?_))
  obtain ⟨K, Y, S, C, T, N, rfl, hT⟩ := hq9
  refine q_aload_n dX7_sizeOfRow_12 rfl ?_
  refine q_getr dX7_sizeOfRow_13 fl_7_37 rfl rfl ?_
  refine q_V0 dX7_sizeOfRow_16 ml_7_219 md_X6_size (c_tsize h1 (qup_s _ _ _ _) hT) rfl rfl rfl (by first | decide | omega) (Nat.le_of_ble_eq_true rfl) (Nat.le_of_ble_eq_true rfl) (qk_e ?_)
  refine q_ireturn dX7_sizeOfRow_19 ?_
  exact ⟨_, rfl, rfl, K, Y, S, C, T, N, rfl, hT⟩
theorem Scr_tm {c : Int → Int} {r l : Int} {K Y S C T N : Int → Int} (h : CI M) (hT : Tm c L K Y S C T N) : Scr M (tw (qup (qup M 5 7 r) 5 8 l) K Y S C T N) := Scr_tw h hT.2.2.2
theorem c_sizeR {r : Int} (h : CI M) (hL : M 0 10 = (L : Int)) (h1 : 1 ≤ L ∧ L ≤ 4) (hr : 0 ≤ r ∧ r < 33) : qCt mX7_sizeOfRow 0 4 [.ref 0, .int (zI r)] M (qpg (fun z M' => z = tsz (rowc M r) L 0 ∧ Scr M M')) := qCt_mono (c_sizeOfRow h hL h1 hr) (fun v M' q => by
  obtain ⟨z, hz, h2, K, Y, S, C, T, N, rfl, hT⟩ := q
  exact ⟨z, hz, h2, Scr_tm h hT⟩) (fun _ _ q => q)
set_option maxHeartbeats 1000000 in
theorem c_onesOfRow {r : Int} (h : CI M) (hL : M 0 10 = (L : Int)) (h1 : 1 ≤ L ∧ L ≤ 4) (hr : 0 ≤ r ∧ r < 33) : qCt mX7_onesOfRow 0 2 [.ref 0, .int (zI r)] M (qpe (onesI (rowc M r) 0 (8 * p4 L - 1)) M) := by
  have h4 := p4_in (L : Int)
  refine q_intro (own := 7) (L := [some (.ref 0), some (.int (zI r))]) md_X7_onesOfRow rfl rfl rfl (Nat.le_of_ble_eq_true rfl) (fun X => ?_)
  refine q_aload_n dX7_onesOfRow_0 rfl ?_
  refine q_getr dX7_onesOfRow_1 fl_7_26 rfl rfl ?_
  refine q_iload_n dX7_onesOfRow_4 rfl ?_
  refine q_iconst dX7_onesOfRow_5 ?_
  refine q_bipush dX7_onesOfRow_6 rfl ?_
  refine q_aload_n dX7_onesOfRow_8 rfl ?_
  refine q_geti (j := 10) dX7_onesOfRow_9 fl_7_121 rfl rfl rfl ?_
  rw [hL]
  refine q_S1 dX7_onesOfRow_12 ml_7_164 md_X7_cellsIn (c_cellsIn (by omega)) rfl (by first | decide | omega) (Nat.le_of_ble_eq_true rfl) (Nat.le_of_ble_eq_true rfl) (qk_e ?_)
  refine q_imul dX7_onesOfRow_15 ?_
  refine q_iconst dX7_onesOfRow_16 ?_
  refine q_isub dX7_onesOfRow_17 ?_
  refine q_V3 dX7_onesOfRow_18 ml_7_185 md_X0_onesIn (c_onesIn hr (by omega) (by omega) (by omega) (CI_ok h hr)) rfl rfl rfl (by first | decide | omega) (Nat.le_of_ble_eq_true rfl) (Nat.le_of_ble_eq_true rfl) (qk_e ?_)
  refine q_ireturn dX7_onesOfRow_21 ?_
  exact ⟨rfl, rfl⟩
set_option maxHeartbeats 2000000 in
theorem c_requireByteOf {k i : Int} (h : CI M) (hL : M 0 10 = (L : Int)) (h1 : 1 ≤ L ∧ L ≤ 4) (hk : 0 ≤ k ∧ k < 6) (hi : zR i) : qCt mX7_requireByteOf 1 5 [.ref 0, .int (zI k), .int (zI i)] M (qpB (gByte (tsz (rowc M k) L 0) i) (fun M' => ∃ K Y S C T N, M' = tw (qup (qup M 5 7 k) 5 8 (L : Int)) K Y S C T N ∧ Tm (rowc M k) L K Y S C T N) (Scr M)) := by
  have ht := tsz_in (rowc M k) L 0
  have ht2 := tmax_in L h1.2
  refine q_intro (own := 7) (L := [some (.ref 0), some (.int (zI k)), some (.int (zI i))]) md_X7_requireByteOf rfl rfl rfl (Nat.le_of_ble_eq_true rfl) (fun X => ?_)
  refine q_iload_n dX7_requireByteOf_0 rfl ?_
  refine q_if_lt (tgt := 13) dX7_requireByteOf_1 rfl (by (first | (unfold zR; omega) | (unfold zLR; omega) | omega | (simp only [zR, qup] at *; omega) | (simp [zR, qup]; omega) | (simp [zR, qup]; done))) (fun h1 => ?_) (fun h1 => ?_)
  ·
    refine qt_X7_requireByteOf_13 (Nat.le_of_ble_eq_true rfl) ?_
    first | exact ⟨by rw [show gByte (tsz (rowc M k) L 0) i = 2 from if_neg (by omega)]; rfl, by rw [show gByte (tsz (rowc M k) L 0) i = 2 from if_neg (by omega)]; decide, Scr_rf h⟩ | exact ⟨by rw [show gByte (tsz (rowc M k) L 0) i = 2 from if_neg (by omega)]; rfl, by rw [show gByte (tsz (rowc M k) L 0) i = 2 from if_neg (by omega)]; decide, Scr_tm h hT⟩
  ·
    refine q_iload_n dX7_requireByteOf_4 rfl ?_
    refine q_aload_n dX7_requireByteOf_5 rfl ?_
    refine q_iload_n dX7_requireByteOf_6 rfl ?_
    refine q_V1 dX7_requireByteOf_7 ml_7_202 md_X7_sizeOfRow (c_sizeOfRow h hL ‹1 ≤ L ∧ L ≤ 4› (by omega)) rfl rfl rfl (by first | decide | omega) (Nat.le_of_ble_eq_true rfl) (Nat.le_of_ble_eq_true rfl) (qk_g (fun z7 N7 hq7 => ?_))
    obtain ⟨rfl, K, Y, S, C, T, N, rfl, hT⟩ := hq7
    refine q_icmp_lt (tgt := 24) dX7_requireByteOf_10 rfl (by (first | (unfold zR; omega) | (unfold zLR; omega) | omega | (simp only [zR, qup] at *; omega) | (simp [zR, qup]; omega) | (simp [zR, qup]; done))) (by (first | (unfold zR; omega) | (unfold zLR; omega) | omega | (simp only [zR, qup] at *; omega) | (simp [zR, qup]; omega) | (simp [zR, qup]; done))) (fun h10 => ?_) (fun h10 => ?_)
    ·
      refine q_return dX7_requireByteOf_24 ?_
      exact ⟨rfl, if_pos (by omega), K, Y, S, C, T, N, rfl, hT⟩
    ·
      refine qt_X7_requireByteOf_13 (Nat.le_of_ble_eq_true rfl) ?_
      first | exact ⟨by rw [show gByte (tsz (rowc M k) L 0) i = 2 from if_neg (by omega)]; rfl, by rw [show gByte (tsz (rowc M k) L 0) i = 2 from if_neg (by omega)]; decide, Scr_rf h⟩ | exact ⟨by rw [show gByte (tsz (rowc M k) L 0) i = 2 from if_neg (by omega)]; rfl, by rw [show gByte (tsz (rowc M k) L 0) i = 2 from if_neg (by omega)]; decide, Scr_tm h hT⟩
end GD


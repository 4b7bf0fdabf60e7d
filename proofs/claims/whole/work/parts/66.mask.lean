/-! The model: what is asked of the bits of a map. -/
def mpx (g : Int) (R : Int → qM → Prop) (M : qM) : qP := (fun v M' => ∃ z, v = some (.int (zI z)) ∧ ((g ≠ 0 ∧ MS (qup M 37 0 g) M') ∨ (g = 0 ∧ R z M')), fun _ _ => False)
def scl (M : qM) (k : Int) : Int → Int := fun i => M 39 (256 * k + i)
/-- the row at hand is the map k -/
def fW (M : qM) (g : Int) (L : Nat) (k : Int) : qM := rowW (qup (qup M 37 0 g) 37 9 (L : Int)) (scl M k) (p4 L)
def gG (M : qM) (k : Int) : Int := gor (mT M) (mMp M k)
theorem mpx_g {M : qM} {g : Int} {R : Int → qM → Prop} (h : g ≠ 0) : (mpx g R M).1 (some (.int (zI 0))) (qup M 37 0 g) := ⟨0, rfl, Or.inl ⟨h, MS_rf _⟩⟩
theorem mpx_g2 {M : qM} {g1 g2 : Int} {R : Int → qM → Prop} (h : g1 ≠ 0) : (mpx (gor g1 g2) R M).1 (some (.int (zI 0))) (qup M 37 0 g1) := ⟨0, rfl, Or.inl ⟨by rw [gor_n h]; exact h, by rw [gor_n h]; exact MS_rf _⟩⟩
theorem mpx_k {M M' : qM} {g z : Int} {R : Int → qM → Prop} (h : g = 0) (hr : R z M') : (mpx g R M).1 (some (.int (zI z))) M' := ⟨z, rfl, Or.inr ⟨h, hr⟩⟩
theorem fW_MS (M : qM) (g : Int) (L : Nat) (k : Int) : MS (qup M 37 0 g) (fW M g L k) := by
  refine ⟨fun o h37 h42 _ _ _ _ _ _ _ => ?_, fun j hj => ?_⟩
  · funext i
    unfold fW rowW
    rw [if_neg (fun w => h42 w.1), qup_o _ _ _ _ h37]
  · unfold fW rowW
    rw [if_neg (fun w => by have := w.1; omega), qup_k _ _ _ (by omega)]
theorem fW_9 {M : qM} {g : Int} {L : Nat} {k : Int} : fW M g L k 37 9 = (L : Int) := by
  unfold fW rowW
  rw [if_neg (fun w => by have := w.1; omega), qup_s]
theorem fW_42 {M : qM} {g : Int} {L : Nat} {k i : Int} (h : 0 ≤ i ∧ i < p4 L) : fW M g L k 42 i = scl M k i := by
  unfold fW rowW
  rw [if_pos ⟨rfl, h⟩]
theorem fW_b {M : qM} (hM : MI M) {g : Int} {L : Nat} {k i : Int} (hk : 0 ≤ k ∧ k < 6) (h : 0 ≤ i ∧ i < p4 L) : 0 ≤ fW M g L k 42 i ∧ fW M g L k 42 i < 256 := by
  have := p4_in (L : Int)
  rw [fW_42 h]
  exact hM.2.2.2.2.1 _ (by omega) (by omega)
theorem fW_bit {M : qM} {g : Int} {L : Nat} {k p : Int} (h : 0 ≤ p ∧ p < 8 * p4 L) : bitP (fW M g L k 42) p = bitP (scl M k) p := by
  unfold bitP
  rw [fW_42 (by omega)]
theorem gG_0 {M : qM} {k : Int} (hM : MI M) (h : gG M k = 0) : M 37 1 = 1 ∧ 1 ≤ M 37 2 ∧ 0 ≤ k ∧ k < M 37 3 ∧ k < 6 := by
  unfold gG at h
  rw [gor_00] at h
  have h1 : M 37 1 = 1 := Classical.byContradiction fun q => by have := h.1; unfold mT at this; rw [if_neg q] at this; omega
  have h2 : 0 ≤ k ∧ k < M 37 3 := Classical.byContradiction fun q => by have := h.2; unfold mMp at this; rw [if_neg q] at this; omega
  have := hM.2.2.2.1
  exact ⟨h1, hM.2.2.1 h1, h2.1, h2.2, by omega⟩
theorem mPs_0 {M : qM} {L : Nat} {p : Int} (hL : M 37 2 = (L : Int)) (h : mPs M p = 0) : 0 ≤ p ∧ p < 8 * p4 L := by
  unfold mPs at h
  rw [hL] at h
  exact Classical.byContradiction fun q => by rw [if_neg q] at h; omega
theorem mRg_0 {M : qM} {L : Nat} {f t : Int} (hL : M 37 2 = (L : Int)) (h : mRg M f t = 0) : 0 ≤ f ∧ f ≤ t ∧ t < 8 * p4 L := by
  unfold mRg at h
  rw [hL] at h
  have : (0 ≤ f ∧ f < 8 * p4 (L : Int)) ∧ (0 ≤ t ∧ t < 8 * p4 (L : Int)) ∧ f ≤ t := Classical.byContradiction fun q => by rw [if_neg q] at h; omega
  omega
theorem onesI_z {c : Int → Int} {f t : Int} (hf : 0 ≤ f) (hft : f ≤ t) (ht : t < 2048) : onesI c f t = zsum (bitP c) f (t - f + 1).toNat := by
  unfold onesI
  have e : (2048 : Nat) = f.toNat + ((t - f + 1).toNat + (2048 - f.toNat - (t - f + 1).toNat)) := by omega
  rw [e, zsum_add, zsum_add, zsum_0 (fun i h0 h1 => by unfold ind; rw [if_neg (by omega)]), Int.zero_add, show (0 : Int) + (f.toNat : Int) = f by omega, zsum_0 (f := ind c f t) (a := f + ((t - f + 1).toNat : Int)) (fun i h0 h1 => by unfold ind; rw [if_neg (by omega)]), Int.add_zero]
  exact zsum_congr (fun i h0 h1 => by unfold ind; rw [if_pos (by omega)])
section MP
variable {M : qM} {L l : Nat} {c : Int → Int} {k o x y a b v p q f t n g : Int}
theorem m_fetchG (hM : MI M) (hL : M 37 2 = (L : Int)) (hk : 0 ≤ k ∧ k < 6) : qCt mX8_fetches 0 1 [.ref 37, .int (zI k)] (qup M 37 0 g) (qpv (fW M g L k)) := by
  have h := m_fetches (M := qup M 37 0 g) (L := L) (k := k) (by rw [qup_k _ _ _ (by decide)]; exact hL) (by have := hM.2.1; omega) hk
  rw [show (fun i => qup M 37 0 g 39 (256 * k + i)) = scl M k by funext i; simp [qup, scl]] at h
  exact h
set_option maxHeartbeats 2000000 in
theorem m_onesIn (hf : 0 ≤ f) (ht : t < 2048) (hb : ∀ p, f ≤ p → p ≤ t → 0 ≤ M 42 (p / 8) ∧ M 42 (p / 8) < 256) (hft : f ≤ t + 1) : qCt mX8_onesIn 0 1 [.ref 37, .int (zI f), .int (zI t)] M (qpe (zsum (bitP (M 42)) f (t - f + 1).toNat) M) := by
  refine q_intro (own := 8) (L := [some (.ref 37), some (.int (zI f)), some (.int (zI t)), none, none]) md_X8_onesIn rfl rfl rfl (Nat.le_of_ble_eq_true rfl) (fun X => ?_)
  refine q_iconst dX8_onesIn_0 ?_
  refine q_istore_n dX8_onesIn_1 (Nat.le_of_ble_eq_true rfl) rfl ?_
  refine q_iload_n dX8_onesIn_2 rfl ?_
  refine q_istore dX8_onesIn_3 (Nat.le_of_ble_eq_true rfl) rfl ?_
  refine q_lp (fun i : Nat => (t - f + 2).toNat - i) (fun i => (i : Int) ≤ t - f + 1) (fun i => [some (.ref 37), some (.int (zI f)), some (.int (zI t)), some (.int (zI (zsum (bitP (M 42)) f i))), some (.int (zI (f + i)))]) (fun _ => M) 0 (by rw [show f + ((0 : Nat) : Int) = f by omega]; rfl) rfl (by omega) (fun i hi ih => ?_)
  refine q_iload dX8_onesIn_5 rfl ?_
  refine q_iload_n dX8_onesIn_7 rfl ?_
  refine q_icmp_gt (tgt := 26) dX8_onesIn_8 rfl (by (first | (unfold zR; omega) | (unfold zLR; omega) | omega | (simp only [zR, qup] at *; omega) | (simp [zR, qup]; omega) | (simp [zR, qup]; done))) (by (first | (unfold zR; omega) | (unfold zLR; omega) | omega | (simp only [zR, qup] at *; omega) | (simp [zR, qup]; omega) | (simp [zR, qup]; done))) (fun h8 => ?_) (fun h8 => ?_)
  rotate_left
  ·
    refine q_iload_n dX8_onesIn_11 rfl ?_
    refine q_aload_n dX8_onesIn_12 rfl ?_
    refine q_iload dX8_onesIn_13 rfl ?_
    refine q_V1 dX8_onesIn_15 ml_8_234 md_X8_bitOf (m_bitOf (by omega) (hb _ (by omega) (by omega))) rfl rfl rfl (by first | decide | omega) (Nat.le_of_ble_eq_true rfl) (Nat.le_of_ble_eq_true rfl) (qk_e ?_)
    refine q_iadd dX8_onesIn_18 ?_
    refine q_istore_n dX8_onesIn_19 (Nat.le_of_ble_eq_true rfl) rfl ?_
    refine q_iinc dX8_onesIn_20 rfl (Nat.le_of_ble_eq_true rfl) rfl ?_
    refine q_goto (tgt := 5) dX8_onesIn_23 rfl ?_
    exact ih (i + 1) _ _ (by omega) (by omega) (by rw [zsum, show f + ((i + 1 : Nat) : Int) = f + (i : Int) + 1 by omega]; rfl) rfl
  refine q_iload_n dX8_onesIn_26 rfl ?_
  refine q_ireturn dX8_onesIn_27 ?_
  exact ⟨by rw [show (t - f + 1).toNat = i by omega], rfl⟩
set_option maxHeartbeats 2000000 in
theorem o_bit (hM : MI M) (hL : M 37 2 = (L : Int)) (hk : zR k) (hp : zR p) : qCt mX8_bit 0 4 [.ref 37, .int (zI k), .int (zI p)] M (mpx (gor (gG M k) (mPs M p)) (fun z M' => z = bitP (scl M k) p ∧ MS (qup M 37 0 0) M') M) := by
  have hL4 : L ≤ 4 := by have := hM.2.1; omega
  have hpin := p4_in (L : Int)
  refine q_intro (own := 8) (L := [some (.ref 37), some (.int (zI k)), some (.int (zI p))]) md_X8_bit rfl rfl rfl (Nat.le_of_ble_eq_true rfl) (fun X => ?_)
  refine q_aload_n dX8_bit_0 rfl ?_
  refine q_iload_n dX8_bit_1 rfl ?_
  refine q_iload_n dX8_bit_2 rfl ?_
  refine q_V2 dX8_bit_3 ml_8_298 md_X8_noPosition (m_noPosition hM hk hp) rfl rfl rfl (by first | decide | omega) (Nat.le_of_ble_eq_true rfl) (Nat.le_of_ble_eq_true rfl) (qk_e ?_)
  refine q_if_eq (tgt := 11) dX8_bit_6 rfl (by exact zb_R _) (fun h6 => ?_) (fun h6 => ?_)
  ·
    have hg := zbz h6
    have hg2 := gor_00.1 hg
    have hgk := gG_0 hM hg2.1
    have hps := mPs_0 hL hg2.2
    refine q_aload_n dX8_bit_11 rfl ?_
    refine q_iload_n dX8_bit_12 rfl ?_
    refine q_V1 dX8_bit_13 ml_8_117 md_X8_fetches (m_fetchG hM hL (by omega)) rfl rfl rfl (by first | decide | omega) (Nat.le_of_ble_eq_true rfl) (Nat.le_of_ble_eq_true rfl) (qk_v ?_)
    refine q_aload_n dX8_bit_16 rfl ?_
    refine q_iload_n dX8_bit_17 rfl ?_
    refine q_V1 dX8_bit_18 ml_8_234 md_X8_bitOf (m_bitOf (by omega) (fW_b hM (by omega) (by omega))) rfl rfl rfl (by first | decide | omega) (Nat.le_of_ble_eq_true rfl) (Nat.le_of_ble_eq_true rfl) (qk_e ?_)
    refine q_ireturn dX8_bit_21 ?_
    exact mpx_k hg ⟨fW_bit hps, by have e := fW_MS M (gor (gor (mT M) (mMp M k)) (mPs M p)) L k; rw [hg] at e ⊢; exact e⟩
  ·
    refine q_iconst dX8_bit_9 ?_
    refine q_ireturn dX8_bit_10 ?_
    exact mpx_g (zbn h6)
set_option maxHeartbeats 2000000 in
theorem o_ones (hM : MI M) (hL : M 37 2 = (L : Int)) (hk : zR k) (hf : zR f) (ht : zR t) : qCt mX8_ones 0 4 [.ref 37, .int (zI k), .int (zI f), .int (zI t)] M (mpx (gor (gG M k) (mRg M f t)) (fun z M' => z = zsum (bitP (scl M k)) f (t - f + 1).toNat ∧ MS (qup M 37 0 0) M') M) := by
  have hL4 : L ≤ 4 := by have := hM.2.1; omega
  have hpin := p4_in (L : Int)
  refine q_intro (own := 8) (L := [some (.ref 37), some (.int (zI k)), some (.int (zI f)), some (.int (zI t))]) md_X8_ones rfl rfl rfl (Nat.le_of_ble_eq_true rfl) (fun X => ?_)
  refine q_aload_n dX8_ones_0 rfl ?_
  refine q_iload_n dX8_ones_1 rfl ?_
  refine q_iload_n dX8_ones_2 rfl ?_
  refine q_iload_n dX8_ones_3 rfl ?_
  refine q_V3 dX8_ones_4 ml_8_302 md_X8_noRange (m_noRange hM hk hf ht) rfl rfl rfl (by first | decide | omega) (Nat.le_of_ble_eq_true rfl) (Nat.le_of_ble_eq_true rfl) (qk_e ?_)
  refine q_if_eq (tgt := 12) dX8_ones_7 rfl (by exact zb_R _) (fun h7 => ?_) (fun h7 => ?_)
  ·
    have hg := zbz h7
    have hg2 := gor_00.1 hg
    have hgk := gG_0 hM hg2.1
    have hps := mRg_0 hL hg2.2
    refine q_aload_n dX8_ones_12 rfl ?_
    refine q_iload_n dX8_ones_13 rfl ?_
    refine q_V1 dX8_ones_14 ml_8_117 md_X8_fetches (m_fetchG hM hL (by omega)) rfl rfl rfl (by first | decide | omega) (Nat.le_of_ble_eq_true rfl) (Nat.le_of_ble_eq_true rfl) (qk_v ?_)
    refine q_aload_n dX8_ones_17 rfl ?_
    refine q_iload_n dX8_ones_18 rfl ?_
    refine q_iload_n dX8_ones_19 rfl ?_
    refine q_V2 dX8_ones_20 ml_8_305 md_X8_onesIn (m_onesIn (by omega) (by omega) (fun p p0 p1 => fW_b hM (by omega) (by omega)) (by omega)) rfl rfl rfl (by first | decide | omega) (Nat.le_of_ble_eq_true rfl) (Nat.le_of_ble_eq_true rfl) (qk_e ?_)
    refine q_ireturn dX8_ones_23 ?_
    exact mpx_k hg ⟨zsum_congr (fun p p0 p1 => fW_bit (by omega)), by have e := fW_MS M (gor (gor (mT M) (mMp M k)) (mRg M f t)) L k; rw [hg] at e ⊢; exact e⟩
  ·
    refine q_iconst dX8_ones_10 ?_
    refine q_ireturn dX8_ones_11 ?_
    exact mpx_g (zbn h7)
set_option maxHeartbeats 2000000 in
theorem o_next (hM : MI M) (hL : M 37 2 = (L : Int)) (hk : zR k) (hp : zR p) (hb : zR b) : qCt mX8_next 0 4 [.ref 37, .int (zI k), .int (zI p), .int (zI b)] M (mpx (gor (gor (gG M k) (mPs M p)) (gBit b)) (fun z M' => frst (fun i => bitP (scl M k) i = b) p (8 * p4 L) z ∧ MS (qup M 37 0 0) M') M) := by
  have hL4 : L ≤ 4 := by have := hM.2.1; omega
  have hpin := p4_in (L : Int)
  have z01 := zb_01 (b = 0 ∨ b = 1)
  refine q_intro (own := 8) (L := [some (.ref 37), some (.int (zI k)), some (.int (zI p)), some (.int (zI b)), none]) md_X8_next rfl rfl rfl (Nat.le_of_ble_eq_true rfl) (fun X => ?_)
  refine q_aload_n dX8_next_0 rfl ?_
  refine q_iload_n dX8_next_1 rfl ?_
  refine q_iload_n dX8_next_2 rfl ?_
  refine q_V2 dX8_next_3 ml_8_298 md_X8_noPosition (m_noPosition hM hk hp) rfl rfl rfl (by first | decide | omega) (Nat.le_of_ble_eq_true rfl) (Nat.le_of_ble_eq_true rfl) (qk_e ?_)
  refine q_if_ne (tgt := 29) dX8_next_6 rfl (by exact zb_R _) (fun h6 => ?_) (fun h6 => ?_)
  ·
    refine q_iconst dX8_next_29 ?_
    refine q_ireturn dX8_next_30 ?_
    exact mpx_g2 (zbn h6)
  ·
    refine q_aload_n dX8_next_9 rfl ?_
    refine q_iload_n dX8_next_10 rfl ?_
    refine q_S1 dX8_next_11 ml_8_308 md_X8_isBit (m_isBit hb) rfl (by first | decide | omega) (Nat.le_of_ble_eq_true rfl) (Nat.le_of_ble_eq_true rfl) (qk_e ?_)
    refine q_if_ne (tgt := 21) dX8_next_14 rfl (by (first | (unfold zR; omega) | (unfold zLR; omega) | omega | (simp only [zR, qup] at *; omega) | (simp [zR, qup]; omega) | (simp [zR, qup]; done))) (fun h14 => ?_) (fun h14 => ?_)
    ·
      refine q_iconst dX8_next_21 ?_
      refine q_iconst dX8_next_22 ?_
      have hgb : (if (0 : Int) = 1 then (3 : Int) else 0) = gBit b := (if_pos (zb_1.1 (by omega))).symm
      refine q_V2 dX8_next_23 ml_8_64 md_X8_refuse (m_refH (by omega) (gor_R (gor_R (mT_R M) mMp_R) (ite_R (by unfold zR; omega) (by unfold zR; omega))) (by (first | (unfold zR; omega) | (unfold zLR; omega) | omega | (simp only [zR, qup] at *; omega) | (simp [zR, qup]; omega) | (simp [zR, qup]; done))) hgb) rfl rfl rfl (by first | decide | omega) (Nat.le_of_ble_eq_true rfl) (Nat.le_of_ble_eq_true rfl) (qk_e ?_)
      refine q_if_eq (tgt := 31) dX8_next_26 rfl (by exact zb_R _) (fun h26 => ?_) (fun h26 => ?_)
      ·
        have hg := zbz h26
        have hg1 := gor_00.1 hg
        have hg2 := gor_00.1 hg1.1
        have hgk := gG_0 hM hg2.1
        have hps := mPs_0 hL hg2.2
        refine q_aload_n dX8_next_31 rfl ?_
        refine q_iload_n dX8_next_32 rfl ?_
        refine q_V1 dX8_next_33 ml_8_117 md_X8_fetches (m_fetchG hM hL (by omega)) rfl rfl rfl (by first | decide | omega) (Nat.le_of_ble_eq_true rfl) (Nat.le_of_ble_eq_true rfl) (qk_v ?_)
        refine q_iload_n dX8_next_36 rfl ?_
        refine q_istore dX8_next_37 (Nat.le_of_ble_eq_true rfl) rfl ?_
        have hMS : MS (qup M 37 0 0) (fW M (gor (gor (gor (mT M) (mMp M k)) (mPs M p)) (gBit b)) L k) := by have e := fW_MS M (gor (gor (gor (mT M) (mMp M k)) (mPs M p)) (gBit b)) L k; rw [hg] at e ⊢; exact e
        refine q_lp (fun i : Int => (8 * p4 L - i).toNat) (fun i => p ≤ i ∧ i ≤ 8 * p4 L ∧ ∀ j, p ≤ j → j < i → bitP (scl M k) j ≠ b) (fun i => [some (.ref 37), some (.int (zI k)), some (.int (zI p)), some (.int (zI b)), some (.int (zI i))]) (fun _ => fW M (gor (gor (gor (mT M) (mMp M k)) (mPs M p)) (gBit b)) L k) p rfl rfl ⟨by omega, by omega, fun j q1 q2 => by omega⟩ (fun i hi ih => ?_)
        have hb01 := bitP_01 (scl M k) i
        refine q_iload dX8_next_39 rfl ?_
        refine q_aload_n dX8_next_41 rfl ?_
        refine q_V0 dX8_next_42 ml_8_225 md_X8_bits (m_bits fW_9 hL4) rfl rfl rfl (by first | decide | omega) (Nat.le_of_ble_eq_true rfl) (Nat.le_of_ble_eq_true rfl) (qk_e ?_)
        refine q_icmp_ge (tgt := 67) dX8_next_45 rfl (by (first | (unfold zR; omega) | (unfold zLR; omega) | omega | (simp only [zR, qup] at *; omega) | (simp [zR, qup]; omega) | (simp [zR, qup]; done))) (by (first | (unfold zR; omega) | (unfold zLR; omega) | omega | (simp only [zR, qup] at *; omega) | (simp [zR, qup]; omega) | (simp [zR, qup]; done))) (fun h45 => ?_) (fun h45 => ?_)
        rotate_left
        ·
          refine q_aload_n dX8_next_48 rfl ?_
          refine q_iload dX8_next_49 rfl ?_
          refine q_V1 dX8_next_51 ml_8_234 md_X8_bitOf (m_bitOf (by omega) (fW_b hM (by omega) (by omega))) rfl rfl rfl (by first | decide | omega) (Nat.le_of_ble_eq_true rfl) (Nat.le_of_ble_eq_true rfl) (qk_e ?_)
          rw [fW_bit (by omega)]
          refine q_iload_n dX8_next_54 rfl ?_
          refine q_icmp_ne (tgt := 61) dX8_next_55 rfl (by (first | (unfold zR; omega) | (unfold zLR; omega) | omega | (simp only [zR, qup] at *; omega) | (simp [zR, qup]; omega) | (simp [zR, qup]; done))) (by (first | (unfold zR; omega) | (unfold zLR; omega) | omega | (simp only [zR, qup] at *; omega) | (simp [zR, qup]; omega) | (simp [zR, qup]; done))) (fun h55 => ?_) (fun h55 => ?_)
          ·
            refine q_iinc dX8_next_61 rfl (Nat.le_of_ble_eq_true rfl) rfl ?_
            refine q_goto (tgt := 39) dX8_next_64 rfl ?_
            exact ih (i + 1) _ _ ⟨by omega, by omega, fun j q1 q2 => by
              by_cases q3 : j = i
              · subst q3; exact h55
              · exact hi.2.2 j q1 (by omega)⟩ (by omega) rfl rfl
          ·
            refine q_iload dX8_next_58 rfl ?_
            refine q_ireturn dX8_next_60 ?_
            exact mpx_k hg ⟨Or.inr ⟨hi.1, h45, h55, hi.2.2⟩, hMS⟩
        refine q_iconst dX8_next_67 ?_
        refine q_ireturn dX8_next_68 ?_
        exact mpx_k hg ⟨Or.inl ⟨rfl, fun j q1 q2 => hi.2.2 j q1 (by omega)⟩, hMS⟩
      ·
        refine q_iconst dX8_next_29 ?_
        refine q_ireturn dX8_next_30 ?_
        exact mpx_g (zbn h26)
    ·
      refine q_iconst dX8_next_17 ?_
      refine q_goto (tgt := 22) dX8_next_18 rfl ?_
      refine q_iconst dX8_next_22 ?_
      have hgb : (if (1 : Int) = 1 then (3 : Int) else 0) = gBit b := (if_neg (zb_0.1 (by omega))).symm
      refine q_V2 dX8_next_23 ml_8_64 md_X8_refuse (m_refH (by omega) (gor_R (gor_R (mT_R M) mMp_R) (ite_R (by unfold zR; omega) (by unfold zR; omega))) (by (first | (unfold zR; omega) | (unfold zLR; omega) | omega | (simp only [zR, qup] at *; omega) | (simp [zR, qup]; omega) | (simp [zR, qup]; done))) hgb) rfl rfl rfl (by first | decide | omega) (Nat.le_of_ble_eq_true rfl) (Nat.le_of_ble_eq_true rfl) (qk_e ?_)
      refine q_if_eq (tgt := 31) dX8_next_26 rfl (by exact zb_R _) (fun h26 => ?_) (fun h26 => ?_)
      ·
        have hg := zbz h26
        have hg1 := gor_00.1 hg
        have hg2 := gor_00.1 hg1.1
        have hgk := gG_0 hM hg2.1
        have hps := mPs_0 hL hg2.2
        refine q_aload_n dX8_next_31 rfl ?_
        refine q_iload_n dX8_next_32 rfl ?_
        refine q_V1 dX8_next_33 ml_8_117 md_X8_fetches (m_fetchG hM hL (by omega)) rfl rfl rfl (by first | decide | omega) (Nat.le_of_ble_eq_true rfl) (Nat.le_of_ble_eq_true rfl) (qk_v ?_)
        refine q_iload_n dX8_next_36 rfl ?_
        refine q_istore dX8_next_37 (Nat.le_of_ble_eq_true rfl) rfl ?_
        have hMS : MS (qup M 37 0 0) (fW M (gor (gor (gor (mT M) (mMp M k)) (mPs M p)) (gBit b)) L k) := by have e := fW_MS M (gor (gor (gor (mT M) (mMp M k)) (mPs M p)) (gBit b)) L k; rw [hg] at e ⊢; exact e
        refine q_lp (fun i : Int => (8 * p4 L - i).toNat) (fun i => p ≤ i ∧ i ≤ 8 * p4 L ∧ ∀ j, p ≤ j → j < i → bitP (scl M k) j ≠ b) (fun i => [some (.ref 37), some (.int (zI k)), some (.int (zI p)), some (.int (zI b)), some (.int (zI i))]) (fun _ => fW M (gor (gor (gor (mT M) (mMp M k)) (mPs M p)) (gBit b)) L k) p rfl rfl ⟨by omega, by omega, fun j q1 q2 => by omega⟩ (fun i hi ih => ?_)
        have hb01 := bitP_01 (scl M k) i
        refine q_iload dX8_next_39 rfl ?_
        refine q_aload_n dX8_next_41 rfl ?_
        refine q_V0 dX8_next_42 ml_8_225 md_X8_bits (m_bits fW_9 hL4) rfl rfl rfl (by first | decide | omega) (Nat.le_of_ble_eq_true rfl) (Nat.le_of_ble_eq_true rfl) (qk_e ?_)
        refine q_icmp_ge (tgt := 67) dX8_next_45 rfl (by (first | (unfold zR; omega) | (unfold zLR; omega) | omega | (simp only [zR, qup] at *; omega) | (simp [zR, qup]; omega) | (simp [zR, qup]; done))) (by (first | (unfold zR; omega) | (unfold zLR; omega) | omega | (simp only [zR, qup] at *; omega) | (simp [zR, qup]; omega) | (simp [zR, qup]; done))) (fun h45 => ?_) (fun h45 => ?_)
        rotate_left
        ·
          refine q_aload_n dX8_next_48 rfl ?_
          refine q_iload dX8_next_49 rfl ?_
          refine q_V1 dX8_next_51 ml_8_234 md_X8_bitOf (m_bitOf (by omega) (fW_b hM (by omega) (by omega))) rfl rfl rfl (by first | decide | omega) (Nat.le_of_ble_eq_true rfl) (Nat.le_of_ble_eq_true rfl) (qk_e ?_)
          rw [fW_bit (by omega)]
          refine q_iload_n dX8_next_54 rfl ?_
          refine q_icmp_ne (tgt := 61) dX8_next_55 rfl (by (first | (unfold zR; omega) | (unfold zLR; omega) | omega | (simp only [zR, qup] at *; omega) | (simp [zR, qup]; omega) | (simp [zR, qup]; done))) (by (first | (unfold zR; omega) | (unfold zLR; omega) | omega | (simp only [zR, qup] at *; omega) | (simp [zR, qup]; omega) | (simp [zR, qup]; done))) (fun h55 => ?_) (fun h55 => ?_)
          ·
            refine q_iinc dX8_next_61 rfl (Nat.le_of_ble_eq_true rfl) rfl ?_
            refine q_goto (tgt := 39) dX8_next_64 rfl ?_
            exact ih (i + 1) _ _ ⟨by omega, by omega, fun j q1 q2 => by
              by_cases q3 : j = i
              · subst q3; exact h55
              · exact hi.2.2 j q1 (by omega)⟩ (by omega) rfl rfl
          ·
            refine q_iload dX8_next_58 rfl ?_
            refine q_ireturn dX8_next_60 ?_
            exact mpx_k hg ⟨Or.inr ⟨hi.1, h45, h55, hi.2.2⟩, hMS⟩
        refine q_iconst dX8_next_67 ?_
        refine q_ireturn dX8_next_68 ?_
        exact mpx_k hg ⟨Or.inl ⟨rfl, fun j q1 q2 => hi.2.2 j q1 (by omega)⟩, hMS⟩
      ·
        refine q_iconst dX8_next_29 ?_
        refine q_ireturn dX8_next_30 ?_
        exact mpx_g (zbn h26)
set_option maxHeartbeats 2000000 in
theorem o_select (hM : MI M) (hL : M 37 2 = (L : Int)) (hk : zR k) (hq : zR q) : qCt mX8_select 0 4 [.ref 37, .int (zI k), .int (zI q)] M (mpx (gor (gG M k) (if 0 ≤ q then 0 else 2)) (fun z M' => frst (fun i => bitP (scl M k) i = 1 ∧ zsum (bitP (scl M k)) 0 i.toNat = q) 0 (8 * p4 L) z ∧ MS (qup M 37 0 0) M') M) := by
  have hL4 : L ≤ 4 := by have := hM.2.1; omega
  have hpin := p4_in (L : Int)
  refine q_intro (own := 8) (L := [some (.ref 37), some (.int (zI k)), some (.int (zI q)), none, none]) md_X8_select rfl rfl rfl (Nat.le_of_ble_eq_true rfl) (fun X => ?_)
  refine q_aload_n dX8_select_0 rfl ?_
  refine q_iload_n dX8_select_1 rfl ?_
  refine q_V1 dX8_select_2 ml_8_292 md_X8_noMap (m_noMap hM.1 hM.2.2.2.1 hk) rfl rfl rfl (by first | decide | omega) (Nat.le_of_ble_eq_true rfl) (Nat.le_of_ble_eq_true rfl) (qk_e ?_)
  refine q_if_ne (tgt := 25) dX8_select_5 rfl (by exact zb_R _) (fun h5 => ?_) (fun h5 => ?_)
  ·
    refine q_iconst dX8_select_25 ?_
    refine q_ireturn dX8_select_26 ?_
    exact mpx_g2 (zbn h5)
  ·
    refine q_aload_n dX8_select_8 rfl ?_
    refine q_iload_n dX8_select_9 rfl ?_
    refine q_if_ge (tgt := 17) dX8_select_10 rfl (by (first | (unfold zR; omega) | (unfold zLR; omega) | omega | (simp only [zR, qup] at *; omega) | (simp [zR, qup]; omega) | (simp [zR, qup]; done))) (fun h10 => ?_) (fun h10 => ?_)
    ·
      refine q_iconst dX8_select_17 ?_
      refine q_iconst dX8_select_18 ?_
      have hgb : (if (0 : Int) = 1 then (2 : Int) else 0) = (if 0 ≤ q then 0 else 2) := (if_pos h10).symm
      refine q_V2 dX8_select_19 ml_8_64 md_X8_refuse (m_refH (by omega) (gor_R (mT_R M) mMp_R) (by (first | (unfold zR; omega) | (unfold zLR; omega) | omega | (simp only [zR, qup] at *; omega) | (simp [zR, qup]; omega) | (simp [zR, qup]; done))) hgb) rfl rfl rfl (by first | decide | omega) (Nat.le_of_ble_eq_true rfl) (Nat.le_of_ble_eq_true rfl) (qk_e ?_)
      refine q_if_eq (tgt := 27) dX8_select_22 rfl (by exact zb_R _) (fun h22 => ?_) (fun h22 => ?_)
      ·
        have hg := zbz h22
        have hg2 := gor_00.1 hg
        have hgk := gG_0 hM hg2.1
        have hq0 : 0 ≤ q := Classical.byContradiction fun w => by have := hg2.2; rw [if_neg w] at this; omega
        refine q_aload_n dX8_select_27 rfl ?_
        refine q_iload_n dX8_select_28 rfl ?_
        refine q_V1 dX8_select_29 ml_8_117 md_X8_fetches (m_fetchG hM hL (by omega)) rfl rfl rfl (by first | decide | omega) (Nat.le_of_ble_eq_true rfl) (Nat.le_of_ble_eq_true rfl) (qk_v ?_)
        refine q_iload_n dX8_select_32 rfl ?_
        refine q_istore_n dX8_select_33 (Nat.le_of_ble_eq_true rfl) rfl ?_
        refine q_iconst dX8_select_34 ?_
        refine q_istore dX8_select_35 (Nat.le_of_ble_eq_true rfl) rfl ?_
        have hMS : MS (qup M 37 0 0) (fW M (gor (gor (mT M) (mMp M k)) (if 0 ≤ q then 0 else 2)) L k) := by have e := fW_MS M (gor (gor (mT M) (mMp M k)) (if 0 ≤ q then 0 else 2)) L k; rw [hg] at e ⊢; exact e
        refine q_lp (fun i : Int => (8 * p4 L - i).toNat) (fun i => 0 ≤ i ∧ i ≤ 8 * p4 L ∧ zsum (bitP (scl M k)) 0 i.toNat ≤ q ∧ ∀ j, 0 ≤ j → j < i → ¬ (bitP (scl M k) j = 1 ∧ zsum (bitP (scl M k)) 0 j.toNat = q)) (fun i => [some (.ref 37), some (.int (zI k)), some (.int (zI q)), some (.int (zI (q - zsum (bitP (scl M k)) 0 i.toNat))), some (.int (zI i))]) (fun _ => fW M (gor (gor (mT M) (mMp M k)) (if 0 ≤ q then 0 else 2)) L k) 0 (by simp only [zsum, Int.toNat_zero, Int.sub_zero]; rfl) rfl ⟨by omega, by omega, by simpa [zsum] using hq0, fun j q1 q2 => by omega⟩ (fun i hi ih => ?_)
        have hb01 := bitP_01 (scl M k) i
        have hzs := zsum_s (bitP (scl M k)) hi.1
        have hzi : 0 ≤ zsum (bitP (scl M k)) 0 i.toNat := (zsum_in (B := 1) (fun j _ _ => by have := bitP_01 (scl M k) j; omega)).1
        refine q_iload dX8_select_37 rfl ?_
        refine q_aload_n dX8_select_39 rfl ?_
        refine q_V0 dX8_select_40 ml_8_225 md_X8_bits (m_bits fW_9 hL4) rfl rfl rfl (by first | decide | omega) (Nat.le_of_ble_eq_true rfl) (Nat.le_of_ble_eq_true rfl) (qk_e ?_)
        refine q_icmp_ge (tgt := 78) dX8_select_43 rfl (by (first | (unfold zR; omega) | (unfold zLR; omega) | omega | (simp only [zR, qup] at *; omega) | (simp [zR, qup]; omega) | (simp [zR, qup]; done))) (by (first | (unfold zR; omega) | (unfold zLR; omega) | omega | (simp only [zR, qup] at *; omega) | (simp [zR, qup]; omega) | (simp [zR, qup]; done))) (fun h43 => ?_) (fun h43 => ?_)
        rotate_left
        ·
          refine q_aload_n dX8_select_46 rfl ?_
          refine q_iload dX8_select_47 rfl ?_
          refine q_V1 dX8_select_49 ml_8_234 md_X8_bitOf (m_bitOf (by omega) (fW_b hM (by omega) (by omega))) rfl rfl rfl (by first | decide | omega) (Nat.le_of_ble_eq_true rfl) (Nat.le_of_ble_eq_true rfl) (qk_e ?_)
          rw [fW_bit (by omega)]
          refine q_iconst dX8_select_52 ?_
          refine q_icmp_ne (tgt := 63) dX8_select_53 rfl (by (first | (unfold zR; omega) | (unfold zLR; omega) | omega | (simp only [zR, qup] at *; omega) | (simp [zR, qup]; omega) | (simp [zR, qup]; done))) (by (first | (unfold zR; omega) | (unfold zLR; omega) | omega | (simp only [zR, qup] at *; omega) | (simp [zR, qup]; omega) | (simp [zR, qup]; done))) (fun h53 => ?_) (fun h53 => ?_)
          ·
            refine q_iload_n dX8_select_63 rfl ?_
            refine q_aload_n dX8_select_64 rfl ?_
            refine q_iload dX8_select_65 rfl ?_
            refine q_V1 dX8_select_67 ml_8_234 md_X8_bitOf (m_bitOf (by omega) (fW_b hM (by omega) (by omega))) rfl rfl rfl (by first | decide | omega) (Nat.le_of_ble_eq_true rfl) (Nat.le_of_ble_eq_true rfl) (qk_e ?_)
            rw [fW_bit (by omega)]
            refine q_isub dX8_select_70 ?_
            refine q_istore_n dX8_select_71 (Nat.le_of_ble_eq_true rfl) rfl ?_
            refine q_iinc dX8_select_72 rfl (Nat.le_of_ble_eq_true rfl) rfl ?_
            refine q_goto (tgt := 37) dX8_select_75 rfl ?_
            exact ih (i + 1) _ _ ⟨by omega, by omega, by omega, fun j q1 q2 => by
              by_cases q3 : j = i
              · subst q3; exact fun q4 => h53 q4.1
              · exact hi.2.2.2 j q1 (by omega)⟩ (by omega) (by rw [show q - zsum (bitP (scl M k)) 0 (i + 1).toNat = q - zsum (bitP (scl M k)) 0 i.toNat - bitP (scl M k) i by omega]; rfl) rfl
          ·
            refine q_iload_n dX8_select_56 rfl ?_
            refine q_if_ne (tgt := 63) dX8_select_57 rfl (by (first | (unfold zR; omega) | (unfold zLR; omega) | omega | (simp only [zR, qup] at *; omega) | (simp [zR, qup]; omega) | (simp [zR, qup]; done))) (fun h57 => ?_) (fun h57 => ?_)
            ·
              refine q_iload_n dX8_select_63 rfl ?_
              refine q_aload_n dX8_select_64 rfl ?_
              refine q_iload dX8_select_65 rfl ?_
              refine q_V1 dX8_select_67 ml_8_234 md_X8_bitOf (m_bitOf (by omega) (fW_b hM (by omega) (by omega))) rfl rfl rfl (by first | decide | omega) (Nat.le_of_ble_eq_true rfl) (Nat.le_of_ble_eq_true rfl) (qk_e ?_)
              rw [fW_bit (by omega)]
              refine q_isub dX8_select_70 ?_
              refine q_istore_n dX8_select_71 (Nat.le_of_ble_eq_true rfl) rfl ?_
              refine q_iinc dX8_select_72 rfl (Nat.le_of_ble_eq_true rfl) rfl ?_
              refine q_goto (tgt := 37) dX8_select_75 rfl ?_
              exact ih (i + 1) _ _ ⟨by omega, by omega, by omega, fun j q1 q2 => by
                by_cases q3 : j = i
                · subst q3; exact fun q4 => by have := q4.2; omega
                · exact hi.2.2.2 j q1 (by omega)⟩ (by omega) (by rw [show q - zsum (bitP (scl M k)) 0 (i + 1).toNat = q - zsum (bitP (scl M k)) 0 i.toNat - bitP (scl M k) i by omega]; rfl) rfl
            ·
              refine q_iload dX8_select_60 rfl ?_
              refine q_ireturn dX8_select_62 ?_
              exact mpx_k hg ⟨Or.inr ⟨hi.1, h43, ⟨h53, by omega⟩, hi.2.2.2⟩, hMS⟩
        refine q_iconst dX8_select_78 ?_
        refine q_ireturn dX8_select_79 ?_
        exact mpx_k hg ⟨Or.inl ⟨rfl, fun j q1 q2 => hi.2.2.2 j q1 (by omega)⟩, hMS⟩
      ·
        refine q_iconst dX8_select_25 ?_
        refine q_ireturn dX8_select_26 ?_
        exact mpx_g (zbn h22)
    ·
      refine q_iconst dX8_select_13 ?_
      refine q_goto (tgt := 18) dX8_select_14 rfl ?_
      refine q_iconst dX8_select_18 ?_
      have hgb : (if (1 : Int) = 1 then (2 : Int) else 0) = (if 0 ≤ q then 0 else 2) := (if_neg (by omega)).symm
      refine q_V2 dX8_select_19 ml_8_64 md_X8_refuse (m_refH (by omega) (gor_R (mT_R M) mMp_R) (by (first | (unfold zR; omega) | (unfold zLR; omega) | omega | (simp only [zR, qup] at *; omega) | (simp [zR, qup]; omega) | (simp [zR, qup]; done))) hgb) rfl rfl rfl (by first | decide | omega) (Nat.le_of_ble_eq_true rfl) (Nat.le_of_ble_eq_true rfl) (qk_e ?_)
      refine q_if_eq (tgt := 27) dX8_select_22 rfl (by exact zb_R _) (fun h22 => ?_) (fun h22 => ?_)
      ·
        have hg := zbz h22
        have hg2 := gor_00.1 hg
        have hgk := gG_0 hM hg2.1
        have hq0 : 0 ≤ q := Classical.byContradiction fun w => by have := hg2.2; rw [if_neg w] at this; omega
        refine q_aload_n dX8_select_27 rfl ?_
        refine q_iload_n dX8_select_28 rfl ?_
        refine q_V1 dX8_select_29 ml_8_117 md_X8_fetches (m_fetchG hM hL (by omega)) rfl rfl rfl (by first | decide | omega) (Nat.le_of_ble_eq_true rfl) (Nat.le_of_ble_eq_true rfl) (qk_v ?_)
        refine q_iload_n dX8_select_32 rfl ?_
        refine q_istore_n dX8_select_33 (Nat.le_of_ble_eq_true rfl) rfl ?_
        refine q_iconst dX8_select_34 ?_
        refine q_istore dX8_select_35 (Nat.le_of_ble_eq_true rfl) rfl ?_
        have hMS : MS (qup M 37 0 0) (fW M (gor (gor (mT M) (mMp M k)) (if 0 ≤ q then 0 else 2)) L k) := by have e := fW_MS M (gor (gor (mT M) (mMp M k)) (if 0 ≤ q then 0 else 2)) L k; rw [hg] at e ⊢; exact e
        refine q_lp (fun i : Int => (8 * p4 L - i).toNat) (fun i => 0 ≤ i ∧ i ≤ 8 * p4 L ∧ zsum (bitP (scl M k)) 0 i.toNat ≤ q ∧ ∀ j, 0 ≤ j → j < i → ¬ (bitP (scl M k) j = 1 ∧ zsum (bitP (scl M k)) 0 j.toNat = q)) (fun i => [some (.ref 37), some (.int (zI k)), some (.int (zI q)), some (.int (zI (q - zsum (bitP (scl M k)) 0 i.toNat))), some (.int (zI i))]) (fun _ => fW M (gor (gor (mT M) (mMp M k)) (if 0 ≤ q then 0 else 2)) L k) 0 (by simp only [zsum, Int.toNat_zero, Int.sub_zero]; rfl) rfl ⟨by omega, by omega, by simpa [zsum] using hq0, fun j q1 q2 => by omega⟩ (fun i hi ih => ?_)
        have hb01 := bitP_01 (scl M k) i
        have hzs := zsum_s (bitP (scl M k)) hi.1
        have hzi : 0 ≤ zsum (bitP (scl M k)) 0 i.toNat := (zsum_in (B := 1) (fun j _ _ => by have := bitP_01 (scl M k) j; omega)).1
        refine q_iload dX8_select_37 rfl ?_
        refine q_aload_n dX8_select_39 rfl ?_
        refine q_V0 dX8_select_40 ml_8_225 md_X8_bits (m_bits fW_9 hL4) rfl rfl rfl (by first | decide | omega) (Nat.le_of_ble_eq_true rfl) (Nat.le_of_ble_eq_true rfl) (qk_e ?_)
        refine q_icmp_ge (tgt := 78) dX8_select_43 rfl (by (first | (unfold zR; omega) | (unfold zLR; omega) | omega | (simp only [zR, qup] at *; omega) | (simp [zR, qup]; omega) | (simp [zR, qup]; done))) (by (first | (unfold zR; omega) | (unfold zLR; omega) | omega | (simp only [zR, qup] at *; omega) | (simp [zR, qup]; omega) | (simp [zR, qup]; done))) (fun h43 => ?_) (fun h43 => ?_)
        rotate_left
        ·
          refine q_aload_n dX8_select_46 rfl ?_
          refine q_iload dX8_select_47 rfl ?_
          refine q_V1 dX8_select_49 ml_8_234 md_X8_bitOf (m_bitOf (by omega) (fW_b hM (by omega) (by omega))) rfl rfl rfl (by first | decide | omega) (Nat.le_of_ble_eq_true rfl) (Nat.le_of_ble_eq_true rfl) (qk_e ?_)
          rw [fW_bit (by omega)]
          refine q_iconst dX8_select_52 ?_
          refine q_icmp_ne (tgt := 63) dX8_select_53 rfl (by (first | (unfold zR; omega) | (unfold zLR; omega) | omega | (simp only [zR, qup] at *; omega) | (simp [zR, qup]; omega) | (simp [zR, qup]; done))) (by (first | (unfold zR; omega) | (unfold zLR; omega) | omega | (simp only [zR, qup] at *; omega) | (simp [zR, qup]; omega) | (simp [zR, qup]; done))) (fun h53 => ?_) (fun h53 => ?_)
          ·
            refine q_iload_n dX8_select_63 rfl ?_
            refine q_aload_n dX8_select_64 rfl ?_
            refine q_iload dX8_select_65 rfl ?_
            refine q_V1 dX8_select_67 ml_8_234 md_X8_bitOf (m_bitOf (by omega) (fW_b hM (by omega) (by omega))) rfl rfl rfl (by first | decide | omega) (Nat.le_of_ble_eq_true rfl) (Nat.le_of_ble_eq_true rfl) (qk_e ?_)
            rw [fW_bit (by omega)]
            refine q_isub dX8_select_70 ?_
            refine q_istore_n dX8_select_71 (Nat.le_of_ble_eq_true rfl) rfl ?_
            refine q_iinc dX8_select_72 rfl (Nat.le_of_ble_eq_true rfl) rfl ?_
            refine q_goto (tgt := 37) dX8_select_75 rfl ?_
            exact ih (i + 1) _ _ ⟨by omega, by omega, by omega, fun j q1 q2 => by
              by_cases q3 : j = i
              · subst q3; exact fun q4 => h53 q4.1
              · exact hi.2.2.2 j q1 (by omega)⟩ (by omega) (by rw [show q - zsum (bitP (scl M k)) 0 (i + 1).toNat = q - zsum (bitP (scl M k)) 0 i.toNat - bitP (scl M k) i by omega]; rfl) rfl
          ·
            refine q_iload_n dX8_select_56 rfl ?_
            refine q_if_ne (tgt := 63) dX8_select_57 rfl (by (first | (unfold zR; omega) | (unfold zLR; omega) | omega | (simp only [zR, qup] at *; omega) | (simp [zR, qup]; omega) | (simp [zR, qup]; done))) (fun h57 => ?_) (fun h57 => ?_)
            ·
              refine q_iload_n dX8_select_63 rfl ?_
              refine q_aload_n dX8_select_64 rfl ?_
              refine q_iload dX8_select_65 rfl ?_
              refine q_V1 dX8_select_67 ml_8_234 md_X8_bitOf (m_bitOf (by omega) (fW_b hM (by omega) (by omega))) rfl rfl rfl (by first | decide | omega) (Nat.le_of_ble_eq_true rfl) (Nat.le_of_ble_eq_true rfl) (qk_e ?_)
              rw [fW_bit (by omega)]
              refine q_isub dX8_select_70 ?_
              refine q_istore_n dX8_select_71 (Nat.le_of_ble_eq_true rfl) rfl ?_
              refine q_iinc dX8_select_72 rfl (Nat.le_of_ble_eq_true rfl) rfl ?_
              refine q_goto (tgt := 37) dX8_select_75 rfl ?_
              exact ih (i + 1) _ _ ⟨by omega, by omega, by omega, fun j q1 q2 => by
                by_cases q3 : j = i
                · subst q3; exact fun q4 => by have := q4.2; omega
                · exact hi.2.2.2 j q1 (by omega)⟩ (by omega) (by rw [show q - zsum (bitP (scl M k)) 0 (i + 1).toNat = q - zsum (bitP (scl M k)) 0 i.toNat - bitP (scl M k) i by omega]; rfl) rfl
            ·
              refine q_iload dX8_select_60 rfl ?_
              refine q_ireturn dX8_select_62 ?_
              exact mpx_k hg ⟨Or.inr ⟨hi.1, h43, ⟨h53, by omega⟩, hi.2.2.2⟩, hMS⟩
        refine q_iconst dX8_select_78 ?_
        refine q_ireturn dX8_select_79 ?_
        exact mpx_k hg ⟨Or.inl ⟨rfl, fun j q1 q2 => hi.2.2.2 j q1 (by omega)⟩, hMS⟩
      ·
        refine q_iconst dX8_select_25 ?_
        refine q_ireturn dX8_select_26 ?_
        exact mpx_g (zbn h22)
set_option maxHeartbeats 2000000 in
theorem o_longestRun (hM : MI M) (hL : M 37 2 = (L : Int)) (hk : zR k) (hb : zR b) : qCt mX8_longestRun 0 4 [.ref 37, .int (zI k), .int (zI b)] M (mpx (gor (gG M k) (gBit b)) (fun z M' => z = mostF (scl M k) b (8 * p4 L).toNat ∧ MS (qup M 37 0 0) M') M) := by
  have hL4 : L ≤ 4 := by have := hM.2.1; omega
  have hpin := p4_in (L : Int)
  refine q_intro (own := 8) (L := [some (.ref 37), some (.int (zI k)), some (.int (zI b)), none, none, none]) md_X8_longestRun rfl rfl rfl (Nat.le_of_ble_eq_true rfl) (fun X => ?_)
  refine q_aload_n dX8_longestRun_0 rfl ?_
  refine q_iload_n dX8_longestRun_1 rfl ?_
  refine q_iload_n dX8_longestRun_2 rfl ?_
  refine q_V2 dX8_longestRun_3 ml_8_311 md_X8_noBit (m_noBit hM hk hb) rfl rfl rfl (by first | decide | omega) (Nat.le_of_ble_eq_true rfl) (Nat.le_of_ble_eq_true rfl) (qk_e ?_)
  refine q_if_eq (tgt := 11) dX8_longestRun_6 rfl (by exact zb_R _) (fun h6 => ?_) (fun h6 => ?_)
  ·
    have hg := zbz h6
    have hg2 := gor_00.1 hg
    have hgk := gG_0 hM hg2.1
    have hMS : MS (qup M 37 0 0) (fW M (gor (gor (mT M) (mMp M k)) (gBit b)) L k) := by have e := fW_MS M (gor (gor (mT M) (mMp M k)) (gBit b)) L k; rw [hg] at e ⊢; exact e
    refine q_aload_n dX8_longestRun_11 rfl ?_
    refine q_iload_n dX8_longestRun_12 rfl ?_
    refine q_V1 dX8_longestRun_13 ml_8_117 md_X8_fetches (m_fetchG hM hL (by omega)) rfl rfl rfl (by first | decide | omega) (Nat.le_of_ble_eq_true rfl) (Nat.le_of_ble_eq_true rfl) (qk_v ?_)
    refine q_iconst dX8_longestRun_16 ?_
    refine q_istore_n dX8_longestRun_17 (Nat.le_of_ble_eq_true rfl) rfl ?_
    refine q_iconst dX8_longestRun_18 ?_
    refine q_istore dX8_longestRun_19 (Nat.le_of_ble_eq_true rfl) rfl ?_
    refine q_iconst dX8_longestRun_21 ?_
    refine q_istore dX8_longestRun_22 (Nat.le_of_ble_eq_true rfl) rfl ?_
    refine q_lp (fun i : Nat => (8 * p4 L).toNat - i) (fun i => (i : Int) ≤ 8 * p4 L) (fun i => [some (.ref 37), some (.int (zI k)), some (.int (zI b)), some (.int (zI (mostF (scl M k) b i))), some (.int (zI (runF (scl M k) b i))), some (.int (zI (i : Int)))]) (fun _ => fW M (gor (gor (mT M) (mMp M k)) (gBit b)) L k) 0 rfl rfl (by omega) (fun i hi ih => ?_)
    have hb01 := bitP_01 (scl M k) i
    have hri := runF_in (scl M k) b i
    have er : runF (scl M k) b (i + 1) = if bitP (scl M k) i = b then runF (scl M k) b i + 1 else 0 := rfl
    have em : mostF (scl M k) b (i + 1) = max (mostF (scl M k) b i) (runF (scl M k) b (i + 1)) := rfl
    refine q_iload dX8_longestRun_24 rfl ?_
    refine q_aload_n dX8_longestRun_26 rfl ?_
    refine q_V0 dX8_longestRun_27 ml_8_225 md_X8_bits (m_bits fW_9 hL4) rfl rfl rfl (by first | decide | omega) (Nat.le_of_ble_eq_true rfl) (Nat.le_of_ble_eq_true rfl) (qk_e ?_)
    refine q_icmp_ge (tgt := 66) dX8_longestRun_30 rfl (by (first | (unfold zR; omega) | (unfold zLR; omega) | omega | (simp only [zR, qup] at *; omega) | (simp [zR, qup]; omega) | (simp [zR, qup]; done))) (by (first | (unfold zR; omega) | (unfold zLR; omega) | omega | (simp only [zR, qup] at *; omega) | (simp [zR, qup]; omega) | (simp [zR, qup]; done))) (fun h30 => ?_) (fun h30 => ?_)
    rotate_left
    ·
      refine q_aload_n dX8_longestRun_33 rfl ?_
      refine q_iload dX8_longestRun_34 rfl ?_
      refine q_V1 dX8_longestRun_36 ml_8_234 md_X8_bitOf (m_bitOf (by omega) (fW_b hM (by omega) (by omega))) rfl rfl rfl (by first | decide | omega) (Nat.le_of_ble_eq_true rfl) (Nat.le_of_ble_eq_true rfl) (qk_e ?_)
      rw [fW_bit (by omega)]
      refine q_iload_n dX8_longestRun_39 rfl ?_
      refine q_icmp_ne (tgt := 50) dX8_longestRun_40 rfl (by (first | (unfold zR; omega) | (unfold zLR; omega) | omega | (simp only [zR, qup] at *; omega) | (simp [zR, qup]; omega) | (simp [zR, qup]; done))) (by (first | (unfold zR; omega) | (unfold zLR; omega) | omega | (simp only [zR, qup] at *; omega) | (simp [zR, qup]; omega) | (simp [zR, qup]; done))) (fun h40 => ?_) (fun h40 => ?_)
      ·
        refine q_iconst dX8_longestRun_50 ?_
        refine q_istore dX8_longestRun_51 (Nat.le_of_ble_eq_true rfl) rfl ?_
        refine q_iload_n dX8_longestRun_53 rfl ?_
        refine q_iload dX8_longestRun_54 rfl ?_
        refine q_mmax dX8_longestRun_56 ml_8_318 (by (first | (unfold zR; omega) | (unfold zLR; omega) | omega | (simp only [zR, qup] at *; omega) | (simp [zR, qup]; omega) | (simp [zR, qup]; done))) (by (first | (unfold zR; omega) | (unfold zLR; omega) | omega | (simp only [zR, qup] at *; omega) | (simp [zR, qup]; omega) | (simp [zR, qup]; done))) (Nat.le_of_ble_eq_true rfl) ?_
        refine q_istore_n dX8_longestRun_59 (Nat.le_of_ble_eq_true rfl) rfl ?_
        refine q_iinc dX8_longestRun_60 rfl (Nat.le_of_ble_eq_true rfl) rfl ?_
        refine q_goto (tgt := 24) dX8_longestRun_63 rfl ?_
        rw [if_neg h40] at er
        rw [er] at em
        exact ih (i + 1) _ _ (by omega) (by omega) (by rw [em, er]; rfl) rfl
      ·
        refine q_iload dX8_longestRun_43 rfl ?_
        refine q_iconst dX8_longestRun_45 ?_
        refine q_iadd dX8_longestRun_46 ?_
        refine q_goto (tgt := 51) dX8_longestRun_47 rfl ?_
        refine q_istore dX8_longestRun_51 (Nat.le_of_ble_eq_true rfl) rfl ?_
        refine q_iload_n dX8_longestRun_53 rfl ?_
        refine q_iload dX8_longestRun_54 rfl ?_
        refine q_mmax dX8_longestRun_56 ml_8_318 (by (first | (unfold zR; omega) | (unfold zLR; omega) | omega | (simp only [zR, qup] at *; omega) | (simp [zR, qup]; omega) | (simp [zR, qup]; done))) (by (first | (unfold zR; omega) | (unfold zLR; omega) | omega | (simp only [zR, qup] at *; omega) | (simp [zR, qup]; omega) | (simp [zR, qup]; done))) (Nat.le_of_ble_eq_true rfl) ?_
        refine q_istore_n dX8_longestRun_59 (Nat.le_of_ble_eq_true rfl) rfl ?_
        refine q_iinc dX8_longestRun_60 rfl (Nat.le_of_ble_eq_true rfl) rfl ?_
        refine q_goto (tgt := 24) dX8_longestRun_63 rfl ?_
        rw [if_pos h40] at er
        rw [er] at em
        exact ih (i + 1) _ _ (by omega) (by omega) (by rw [em, er]; rfl) rfl
    refine q_iload_n dX8_longestRun_66 rfl ?_
    refine q_ireturn dX8_longestRun_67 ?_
    exact mpx_k hg ⟨by rw [show (8 * p4 (L : Int)).toNat = i by omega], hMS⟩
  ·
    refine q_iconst dX8_longestRun_9 ?_
    refine q_ireturn dX8_longestRun_10 ?_
    exact mpx_g (zbn h6)
set_option maxHeartbeats 4000000 in
theorem o_runs (hM : MI M) (hL : M 37 2 = (L : Int)) (hk : zR k) (hb : zR b) : qCt mX8_runs 0 4 [.ref 37, .int (zI k), .int (zI b)] M (mpx (gor (gG M k) (gBit b)) (fun z M' => z = zsum (runsF (scl M k) b) 0 (8 * p4 L).toNat ∧ MS (qup M 37 0 0) M') M) := by
  have hL4 : L ≤ 4 := by have := hM.2.1; omega
  have hpin := p4_in (L : Int)
  refine q_intro (own := 8) (L := [some (.ref 37), some (.int (zI k)), some (.int (zI b)), none, none]) md_X8_runs rfl rfl rfl (Nat.le_of_ble_eq_true rfl) (fun X => ?_)
  refine q_aload_n dX8_runs_0 rfl ?_
  refine q_iload_n dX8_runs_1 rfl ?_
  refine q_iload_n dX8_runs_2 rfl ?_
  refine q_V2 dX8_runs_3 ml_8_311 md_X8_noBit (m_noBit hM hk hb) rfl rfl rfl (by first | decide | omega) (Nat.le_of_ble_eq_true rfl) (Nat.le_of_ble_eq_true rfl) (qk_e ?_)
  refine q_if_eq (tgt := 11) dX8_runs_6 rfl (by exact zb_R _) (fun h6 => ?_) (fun h6 => ?_)
  ·
    have hg := zbz h6
    have hg2 := gor_00.1 hg
    have hgk := gG_0 hM hg2.1
    have hMS : MS (qup M 37 0 0) (fW M (gor (gor (mT M) (mMp M k)) (gBit b)) L k) := by have e := fW_MS M (gor (gor (mT M) (mMp M k)) (gBit b)) L k; rw [hg] at e ⊢; exact e
    refine q_aload_n dX8_runs_11 rfl ?_
    refine q_iload_n dX8_runs_12 rfl ?_
    refine q_V1 dX8_runs_13 ml_8_117 md_X8_fetches (m_fetchG hM hL (by omega)) rfl rfl rfl (by first | decide | omega) (Nat.le_of_ble_eq_true rfl) (Nat.le_of_ble_eq_true rfl) (qk_v ?_)
    refine q_iconst dX8_runs_16 ?_
    refine q_istore_n dX8_runs_17 (Nat.le_of_ble_eq_true rfl) rfl ?_
    refine q_iconst dX8_runs_18 ?_
    refine q_istore dX8_runs_19 (Nat.le_of_ble_eq_true rfl) rfl ?_
    refine q_lp (fun i : Int => (8 * p4 L - i).toNat) (fun i => 0 ≤ i ∧ i ≤ 8 * p4 L) (fun i => [some (.ref 37), some (.int (zI k)), some (.int (zI b)), some (.int (zI (zsum (runsF (scl M k) b) 0 i.toNat))), some (.int (zI i))]) (fun _ => fW M (gor (gor (mT M) (mMp M k)) (gBit b)) L k) 0 rfl rfl ⟨by omega, by omega⟩ (fun i hi ih => ?_)
    have hb01 := bitP_01 (scl M k) i
    have hb02 := bitP_01 (scl M k) (i - 1)
    have hzs := zsum_s (runsF (scl M k) b) hi.1
    have hgo : ∀ w : Int, w = 0 ∨ w = 1 → w = runsF (scl M k) b i → i < 8 * p4 L → QW X (8, cX8_runs, 5, some .int, 0, 4) (mpx (gor (gG M k) (gBit b)) (fun z M' => z = zsum (runsF (scl M k) b) 0 (8 * p4 L).toNat ∧ MS (qup M 37 0 0) M') M) 0 63 [some (.ref 37), some (.int (zI k)), some (.int (zI b)), some (.int (zI (zsum (runsF (scl M k) b) 0 i.toNat))), some (.int (zI i))] [.int (zI w), .int (zI (zsum (runsF (scl M k) b) 0 i.toNat))] (fW M (gor (gor (mT M) (mMp M k)) (gBit b)) L k) := by
      intro w hw hwe hil
      refine q_S1 dX8_runs_63 ml_8_314 md_X8_flag (m_flag hw) rfl (by first | decide | omega) (Nat.le_of_ble_eq_true rfl) (Nat.le_of_ble_eq_true rfl) (qk_e ?_)
      refine q_iadd dX8_runs_66 ?_
      refine q_istore_n dX8_runs_67 (Nat.le_of_ble_eq_true rfl) rfl ?_
      refine q_iinc dX8_runs_68 rfl (Nat.le_of_ble_eq_true rfl) rfl ?_
      refine q_goto (tgt := 21) dX8_runs_71 rfl ?_
      exact ih (i + 1) _ _ ⟨by omega, by omega⟩ (by omega) (by rw [hzs, hwe]; rfl) rfl
    refine q_iload dX8_runs_21 rfl ?_
    refine q_aload_n dX8_runs_23 rfl ?_
    refine q_V0 dX8_runs_24 ml_8_225 md_X8_bits (m_bits fW_9 hL4) rfl rfl rfl (by first | decide | omega) (Nat.le_of_ble_eq_true rfl) (Nat.le_of_ble_eq_true rfl) (qk_e ?_)
    refine q_icmp_ge (tgt := 74) dX8_runs_27 rfl (by (first | (unfold zR; omega) | (unfold zLR; omega) | omega | (simp only [zR, qup] at *; omega) | (simp [zR, qup]; omega) | (simp [zR, qup]; done))) (by (first | (unfold zR; omega) | (unfold zLR; omega) | omega | (simp only [zR, qup] at *; omega) | (simp [zR, qup]; omega) | (simp [zR, qup]; done))) (fun h27 => ?_) (fun h27 => ?_)
    rotate_left
    ·
      refine q_iload_n dX8_runs_30 rfl ?_
      refine q_aload_n dX8_runs_31 rfl ?_
      refine q_iload dX8_runs_32 rfl ?_
      refine q_V1 dX8_runs_34 ml_8_234 md_X8_bitOf (m_bitOf (by omega) (fW_b hM (by omega) (by omega))) rfl rfl rfl (by first | decide | omega) (Nat.le_of_ble_eq_true rfl) (Nat.le_of_ble_eq_true rfl) (qk_e ?_)
      rw [fW_bit (by omega)]
      refine q_iload_n dX8_runs_37 rfl ?_
      refine q_icmp_ne (tgt := 62) dX8_runs_38 rfl (by (first | (unfold zR; omega) | (unfold zLR; omega) | omega | (simp only [zR, qup] at *; omega) | (simp [zR, qup]; omega) | (simp [zR, qup]; done))) (by (first | (unfold zR; omega) | (unfold zLR; omega) | omega | (simp only [zR, qup] at *; omega) | (simp [zR, qup]; omega) | (simp [zR, qup]; done))) (fun h38 => ?_) (fun h38 => ?_)
      ·
        refine q_iconst dX8_runs_62 ?_
        exact hgo 0 (Or.inl rfl) (zb_f (fun w => h38 w.1)).symm h27
      ·
        refine q_iload dX8_runs_41 rfl ?_
        refine q_if_eq (tgt := 58) dX8_runs_43 rfl (by (first | (unfold zR; omega) | (unfold zLR; omega) | omega | (simp only [zR, qup] at *; omega) | (simp [zR, qup]; omega) | (simp [zR, qup]; done))) (fun h43 => ?_) (fun h43 => ?_)
        ·
          refine q_iconst dX8_runs_58 ?_
          refine q_goto (tgt := 63) dX8_runs_59 rfl ?_
          exact hgo 1 (Or.inr rfl) (zb_t ⟨h38, Or.inl h43⟩).symm h27
        ·
          refine q_aload_n dX8_runs_46 rfl ?_
          refine q_iload dX8_runs_47 rfl ?_
          refine q_iconst dX8_runs_49 ?_
          refine q_isub dX8_runs_50 ?_
          refine q_V1 dX8_runs_51 ml_8_234 md_X8_bitOf (m_bitOf (by omega) (fW_b hM (by omega) (by omega))) rfl rfl rfl (by first | decide | omega) (Nat.le_of_ble_eq_true rfl) (Nat.le_of_ble_eq_true rfl) (qk_e ?_)
          rw [fW_bit (by omega)]
          refine q_iload_n dX8_runs_54 rfl ?_
          refine q_icmp_eq (tgt := 62) dX8_runs_55 rfl (by (first | (unfold zR; omega) | (unfold zLR; omega) | omega | (simp only [zR, qup] at *; omega) | (simp [zR, qup]; omega) | (simp [zR, qup]; done))) (by (first | (unfold zR; omega) | (unfold zLR; omega) | omega | (simp only [zR, qup] at *; omega) | (simp [zR, qup]; omega) | (simp [zR, qup]; done))) (fun h55 => ?_) (fun h55 => ?_)
          ·
            refine q_iconst dX8_runs_62 ?_
            exact hgo 0 (Or.inl rfl) (zb_f (fun w => w.2.elim (fun w => h43 w) (fun w => w h55))).symm h27
          ·
            refine q_iconst dX8_runs_58 ?_
            refine q_goto (tgt := 63) dX8_runs_59 rfl ?_
            exact hgo 1 (Or.inr rfl) (zb_t ⟨h38, Or.inr h55⟩).symm h27
    refine q_iload_n dX8_runs_74 rfl ?_
    refine q_ireturn dX8_runs_75 ?_
    exact mpx_k hg ⟨by rw [show i = 8 * p4 L by omega], hMS⟩
  ·
    refine q_iconst dX8_runs_9 ?_
    refine q_ireturn dX8_runs_10 ?_
    exact mpx_g (zbn h6)
end MP


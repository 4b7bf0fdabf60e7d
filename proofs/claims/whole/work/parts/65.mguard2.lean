/-! The model: its invariant; the other guards. -/
def MI (M : qM) : Prop := (M 37 1 = 0 ∨ M 37 1 = 1) ∧ (0 ≤ M 37 2 ∧ M 37 2 ≤ 4) ∧ (M 37 1 = 1 → 1 ≤ M 37 2) ∧ (0 ≤ M 37 3 ∧ M 37 3 ≤ 6) ∧ (∀ i, 0 ≤ i → i < 1536 → 0 ≤ M 39 i ∧ M 39 i < 256) ∧ (∀ i, 0 ≤ i → i < 15360 → 0 ≤ M 40 i ∧ M 40 i < 256) ∧ (0 ≤ M 37 7 ∧ M 37 7 ≤ 8) ∧ (∀ s, 0 ≤ s → s < 2 → M 41 s = 0 ∨ M 41 s = 1) ∧ (0 ≤ M 37 21 ∧ M 37 21 ≤ 700) ∧ (∀ i, 0 ≤ i → i < M 37 21 → 0 ≤ M 48 i ∧ M 48 i < 256) ∧ (0 ≤ M 37 35 ∧ M 37 35 ≤ 1400) ∧ (∀ k i, 0 ≤ k → k < 6 → p4 (M 37 2) ≤ i → i < 256 → M 39 (256 * k + i) = 0) ∧ (∀ i, 0 ≤ i → i < 6 * M 37 3 → 0 ≤ M 38 i ∧ M 38 i < 256) ∧ ∀ st k i, 0 ≤ st → st < 10 → (st < M 37 7 ∨ (8 ≤ st ∧ M 41 (st - 8) ≠ 0)) → 0 ≤ k → k < 6 → p4 (M 37 2) ≤ i → i < 256 → M 40 (1536 * st + 256 * k + i) = 0
def gA (q : Prop) [Decidable q] (code : Int) : Int := if q then 0 else code
theorem zshl_8 {l : Int} (h : 0 ≤ l ∧ l ≤ 4) : zshl 8 (2 * l) = 8 * p4 l := by
  rcases p4_cases h with h | h | h | h | h <;> subst h <;> decide
theorem gor_R {a b : Int} (ha : zR a) (hb : zR b) : zR (gor a b) := by
  unfold gor
  by_cases h : a ≠ 0
  · rw [if_pos h]; exact ha
  · rw [if_neg h]; exact hb
theorem ite_R {p : Prop} [Decidable p] {a b : Int} (ha : zR a) (hb : zR b) : zR (if p then a else b) := by
  by_cases h : p
  · rw [if_pos h]; exact ha
  · rw [if_neg h]; exact hb
section MO
variable {M : qM} {L l : Nat} {c : Int → Int} {k o x y a b v p q f t n code : Int}
theorem mMp_R : zR (mMp M k) := ite_R (by unfold zR; omega) (by unfold zR; omega)
set_option maxHeartbeats 1000000 in
theorem m_isPosition (h2 : 0 ≤ M 37 2 ∧ M 37 2 ≤ 4) (hp : zR p) : qCt mX8_isPosition 0 1 [.ref 37, .int (zI p)] M (qpe (zb (0 ≤ p ∧ p < 8 * p4 (M 37 2))) M) := by
  have h4 := p4_in (M 37 2)
  refine q_intro (own := 8) (L := [some (.ref 37), some (.int (zI p))]) md_X8_isPosition rfl rfl rfl (Nat.le_of_ble_eq_true rfl) (fun X => ?_)
  refine q_iload_n dX8_isPosition_0 rfl ?_
  refine q_iconst dX8_isPosition_1 ?_
  refine q_bipush dX8_isPosition_2 rfl ?_
  refine q_iconst dX8_isPosition_4 ?_
  refine q_aload_n dX8_isPosition_5 rfl ?_
  refine q_geti (j := 2) dX8_isPosition_6 fl_8_114 rfl rfl rfl ?_
  refine q_imul dX8_isPosition_9 ?_
  refine q_ishl dX8_isPosition_10 ?_
  rw [zshl_8 h2]
  refine q_iconst dX8_isPosition_11 ?_
  refine q_isub dX8_isPosition_12 ?_
  refine q_S3 dX8_isPosition_13 ml_8_71 md_X8_in (m_in hp (by (first | (unfold zR; omega) | (unfold zLR; omega) | omega | (simp only [zR, qup] at *; omega) | (simp [zR, qup]; omega) | (simp [zR, qup]; done))) (by (first | (unfold zR; omega) | (unfold zLR; omega) | omega | (simp only [zR, qup] at *; omega) | (simp [zR, qup]; omega) | (simp [zR, qup]; done)))) rfl (by first | decide | omega) (Nat.le_of_ble_eq_true rfl) (Nat.le_of_ble_eq_true rfl) (qk_e ?_)
  refine q_zreturn (by exact zb_01 _) dX8_isPosition_16 ?_
  exact ⟨by rw [zb_c (show (0 ≤ p ∧ p < 8 * p4 (M 37 2)) ↔ (0 ≤ p ∧ p ≤ 8 * p4 (M 37 2) - 1) by omega)], rfl⟩
set_option maxHeartbeats 2000000 in
theorem m_noPosition (hM : MI M) (hk : zR k) (hp : zR p) : qCt mX8_noPosition 0 3 [.ref 37, .int (zI k), .int (zI p)] M (qpe (zb (gor (gor (mT M) (mMp M k)) (mPs M p) ≠ 0)) (qup M 37 0 (gor (gor (mT M) (mMp M k)) (mPs M p)))) := by
  have e2 : ∀ g, qup M 37 0 g 37 2 = M 37 2 := fun g => by simp [qup]
  have z01 := zb_01 (0 ≤ p ∧ p < 8 * p4 (M 37 2))
  refine q_intro (own := 8) (L := [some (.ref 37), some (.int (zI k)), some (.int (zI p))]) md_X8_noPosition rfl rfl rfl (Nat.le_of_ble_eq_true rfl) (fun X => ?_)
  refine q_aload_n dX8_noPosition_0 rfl ?_
  refine q_iload_n dX8_noPosition_1 rfl ?_
  refine q_V1 dX8_noPosition_2 ml_8_292 md_X8_noMap (m_noMap hM.1 hM.2.2.2.1 hk) rfl rfl rfl (by first | decide | omega) (Nat.le_of_ble_eq_true rfl) (Nat.le_of_ble_eq_true rfl) (qk_e ?_)
  refine q_if_ne (tgt := 29) dX8_noPosition_5 rfl (by exact zb_R _) (fun h5 => ?_) (fun h5 => ?_)
  ·
    refine q_iconst dX8_noPosition_29 ?_
    refine q_goto (tgt := 34) dX8_noPosition_30 rfl ?_
    refine q_zreturn (by first | exact Or.inl rfl | exact Or.inr rfl) dX8_noPosition_34 ?_
    exact ⟨by rw [gor_n (zbn h5), zb_t (zbn h5)], by rw [gor_n (zbn h5)]⟩
  ·
    refine q_aload_n dX8_noPosition_8 rfl ?_
    refine q_aload_n dX8_noPosition_9 rfl ?_
    refine q_iload_n dX8_noPosition_10 rfl ?_
    refine q_V1 dX8_noPosition_11 ml_8_295 md_X8_isPosition (m_isPosition (by rw [e2]; exact hM.2.1) hp) rfl rfl rfl (by first | decide | omega) (Nat.le_of_ble_eq_true rfl) (Nat.le_of_ble_eq_true rfl) (qk_e ?_)
    rw [e2]
    refine q_if_ne (tgt := 21) dX8_noPosition_14 rfl (by (first | (unfold zR; omega) | (unfold zLR; omega) | omega | (simp only [zR, qup] at *; omega) | (simp [zR, qup]; omega) | (simp [zR, qup]; done))) (fun h14 => ?_) (fun h14 => ?_)
    ·
      refine q_iconst dX8_noPosition_21 ?_
      refine q_iconst dX8_noPosition_22 ?_
      have hg : (if (0 : Int) = 1 then (2 : Int) else 0) = mPs M p := (if_pos (zb_1.1 (by omega))).symm
      refine q_V2 dX8_noPosition_23 ml_8_64 md_X8_refuse (m_refH (by omega) (gor_R (mT_R M) mMp_R) (by (first | (unfold zR; omega) | (unfold zLR; omega) | omega | (simp only [zR, qup] at *; omega) | (simp [zR, qup]; omega) | (simp [zR, qup]; done))) hg) rfl rfl rfl (by first | decide | omega) (Nat.le_of_ble_eq_true rfl) (Nat.le_of_ble_eq_true rfl) (qk_e ?_)
      refine q_if_eq (tgt := 33) dX8_noPosition_26 rfl (by exact zb_R _) (fun h26 => ?_) (fun h26 => ?_)
      ·
        refine q_iconst dX8_noPosition_33 ?_
        refine q_zreturn (by first | exact Or.inl rfl | exact Or.inr rfl) dX8_noPosition_34 ?_
        exact ⟨by rw [h26], rfl⟩
      ·
        refine q_iconst dX8_noPosition_29 ?_
        refine q_goto (tgt := 34) dX8_noPosition_30 rfl ?_
        refine q_zreturn (by first | exact Or.inl rfl | exact Or.inr rfl) dX8_noPosition_34 ?_
        exact ⟨by rw [zb_t (zbn h26)], rfl⟩
    ·
      refine q_iconst dX8_noPosition_17 ?_
      refine q_goto (tgt := 22) dX8_noPosition_18 rfl ?_
      refine q_iconst dX8_noPosition_22 ?_
      have hg : (if (1 : Int) = 1 then (2 : Int) else 0) = mPs M p := (if_neg (zb_0.1 (by omega))).symm
      refine q_V2 dX8_noPosition_23 ml_8_64 md_X8_refuse (m_refH (by omega) (gor_R (mT_R M) mMp_R) (by (first | (unfold zR; omega) | (unfold zLR; omega) | omega | (simp only [zR, qup] at *; omega) | (simp [zR, qup]; omega) | (simp [zR, qup]; done))) hg) rfl rfl rfl (by first | decide | omega) (Nat.le_of_ble_eq_true rfl) (Nat.le_of_ble_eq_true rfl) (qk_e ?_)
      refine q_if_eq (tgt := 33) dX8_noPosition_26 rfl (by exact zb_R _) (fun h26 => ?_) (fun h26 => ?_)
      ·
        refine q_iconst dX8_noPosition_33 ?_
        refine q_zreturn (by first | exact Or.inl rfl | exact Or.inr rfl) dX8_noPosition_34 ?_
        exact ⟨by rw [h26], rfl⟩
      ·
        refine q_iconst dX8_noPosition_29 ?_
        refine q_goto (tgt := 34) dX8_noPosition_30 rfl ?_
        refine q_zreturn (by first | exact Or.inl rfl | exact Or.inr rfl) dX8_noPosition_34 ?_
        exact ⟨by rw [zb_t (zbn h26)], rfl⟩
set_option maxHeartbeats 2000000 in
theorem m_noRange (hM : MI M) (hk : zR k) (hf : zR f) (ht : zR t) : qCt mX8_noRange 0 3 [.ref 37, .int (zI k), .int (zI f), .int (zI t)] M (qpe (zb (gor (gor (mT M) (mMp M k)) (mRg M f t) ≠ 0)) (qup M 37 0 (gor (gor (mT M) (mMp M k)) (mRg M f t)))) := by
  have e2 : ∀ g, qup M 37 0 g 37 2 = M 37 2 := fun g => by simp [qup]
  have z01 := zb_01 (0 ≤ f ∧ f < 8 * p4 (M 37 2))
  have z02 := zb_01 (0 ≤ t ∧ t < 8 * p4 (M 37 2))
  refine q_intro (own := 8) (L := [some (.ref 37), some (.int (zI k)), some (.int (zI f)), some (.int (zI t))]) md_X8_noRange rfl rfl rfl (Nat.le_of_ble_eq_true rfl) (fun X => ?_)
  refine q_aload_n dX8_noRange_0 rfl ?_
  refine q_iload_n dX8_noRange_1 rfl ?_
  refine q_V1 dX8_noRange_2 ml_8_292 md_X8_noMap (m_noMap hM.1 hM.2.2.2.1 hk) rfl rfl rfl (by first | decide | omega) (Nat.le_of_ble_eq_true rfl) (Nat.le_of_ble_eq_true rfl) (qk_e ?_)
  refine q_if_ne (tgt := 42) dX8_noRange_5 rfl (by exact zb_R _) (fun h5 => ?_) (fun h5 => ?_)
  ·
    refine q_iconst dX8_noRange_42 ?_
    refine q_goto (tgt := 47) dX8_noRange_43 rfl ?_
    refine q_zreturn (by first | exact Or.inl rfl | exact Or.inr rfl) dX8_noRange_47 ?_
    exact ⟨by rw [gor_n (zbn h5), zb_t (zbn h5)], by rw [gor_n (zbn h5)]⟩
  ·
    refine q_aload_n dX8_noRange_8 rfl ?_
    refine q_aload_n dX8_noRange_9 rfl ?_
    refine q_iload_n dX8_noRange_10 rfl ?_
    refine q_V1 dX8_noRange_11 ml_8_295 md_X8_isPosition (m_isPosition (by rw [e2]; exact hM.2.1) hf) rfl rfl rfl (by first | decide | omega) (Nat.le_of_ble_eq_true rfl) (Nat.le_of_ble_eq_true rfl) (qk_e ?_)
    rw [e2]
    refine q_if_eq (tgt := 30) dX8_noRange_14 rfl (by (first | (unfold zR; omega) | (unfold zLR; omega) | omega | (simp only [zR, qup] at *; omega) | (simp [zR, qup]; omega) | (simp [zR, qup]; done))) (fun h14 => ?_) (fun h14 => ?_)
    ·
      refine q_iconst dX8_noRange_30 ?_
      refine q_goto (tgt := 35) dX8_noRange_31 rfl ?_
      refine q_iconst dX8_noRange_35 ?_
      have hg : (if (1 : Int) = 1 then (2 : Int) else 0) = mRg M f t := (if_neg (fun w => zb_0.1 h14 w.1)).symm
      refine q_V2 dX8_noRange_36 ml_8_64 md_X8_refuse (m_refH (by omega) (gor_R (mT_R M) mMp_R) (by (first | (unfold zR; omega) | (unfold zLR; omega) | omega | (simp only [zR, qup] at *; omega) | (simp [zR, qup]; omega) | (simp [zR, qup]; done))) hg) rfl rfl rfl (by first | decide | omega) (Nat.le_of_ble_eq_true rfl) (Nat.le_of_ble_eq_true rfl) (qk_e ?_)
      refine q_if_eq (tgt := 46) dX8_noRange_39 rfl (by exact zb_R _) (fun h39 => ?_) (fun h39 => ?_)
      ·
        refine q_iconst dX8_noRange_46 ?_
        refine q_zreturn (by first | exact Or.inl rfl | exact Or.inr rfl) dX8_noRange_47 ?_
        exact ⟨by rw [h39], rfl⟩
      ·
        refine q_iconst dX8_noRange_42 ?_
        refine q_goto (tgt := 47) dX8_noRange_43 rfl ?_
        refine q_zreturn (by first | exact Or.inl rfl | exact Or.inr rfl) dX8_noRange_47 ?_
        exact ⟨by rw [zb_t (zbn h39)], rfl⟩
    ·
      refine q_aload_n dX8_noRange_17 rfl ?_
      refine q_iload_n dX8_noRange_18 rfl ?_
      refine q_V1 dX8_noRange_19 ml_8_295 md_X8_isPosition (m_isPosition (by rw [e2]; exact hM.2.1) ht) rfl rfl rfl (by first | decide | omega) (Nat.le_of_ble_eq_true rfl) (Nat.le_of_ble_eq_true rfl) (qk_e ?_)
      rw [e2]
      refine q_if_eq (tgt := 30) dX8_noRange_22 rfl (by (first | (unfold zR; omega) | (unfold zLR; omega) | omega | (simp only [zR, qup] at *; omega) | (simp [zR, qup]; omega) | (simp [zR, qup]; done))) (fun h22 => ?_) (fun h22 => ?_)
      ·
        refine q_iconst dX8_noRange_30 ?_
        refine q_goto (tgt := 35) dX8_noRange_31 rfl ?_
        refine q_iconst dX8_noRange_35 ?_
        have hg : (if (1 : Int) = 1 then (2 : Int) else 0) = mRg M f t := (if_neg (fun w => zb_0.1 h22 w.2.1)).symm
        refine q_V2 dX8_noRange_36 ml_8_64 md_X8_refuse (m_refH (by omega) (gor_R (mT_R M) mMp_R) (by (first | (unfold zR; omega) | (unfold zLR; omega) | omega | (simp only [zR, qup] at *; omega) | (simp [zR, qup]; omega) | (simp [zR, qup]; done))) hg) rfl rfl rfl (by first | decide | omega) (Nat.le_of_ble_eq_true rfl) (Nat.le_of_ble_eq_true rfl) (qk_e ?_)
        refine q_if_eq (tgt := 46) dX8_noRange_39 rfl (by exact zb_R _) (fun h39 => ?_) (fun h39 => ?_)
        ·
          refine q_iconst dX8_noRange_46 ?_
          refine q_zreturn (by first | exact Or.inl rfl | exact Or.inr rfl) dX8_noRange_47 ?_
          exact ⟨by rw [h39], rfl⟩
        ·
          refine q_iconst dX8_noRange_42 ?_
          refine q_goto (tgt := 47) dX8_noRange_43 rfl ?_
          refine q_zreturn (by first | exact Or.inl rfl | exact Or.inr rfl) dX8_noRange_47 ?_
          exact ⟨by rw [zb_t (zbn h39)], rfl⟩
      ·
        refine q_iload_n dX8_noRange_25 rfl ?_
        refine q_iload_n dX8_noRange_26 rfl ?_
        refine q_icmp_le (tgt := 34) dX8_noRange_27 rfl (by (first | (unfold zR; omega) | (unfold zLR; omega) | omega | (simp only [zR, qup] at *; omega) | (simp [zR, qup]; omega) | (simp [zR, qup]; done))) (by (first | (unfold zR; omega) | (unfold zLR; omega) | omega | (simp only [zR, qup] at *; omega) | (simp [zR, qup]; omega) | (simp [zR, qup]; done))) (fun h27 => ?_) (fun h27 => ?_)
        ·
          refine q_iconst dX8_noRange_34 ?_
          refine q_iconst dX8_noRange_35 ?_
          have hg : (if (0 : Int) = 1 then (2 : Int) else 0) = mRg M f t := (if_pos ⟨zb_1.1 (by omega), zb_1.1 (by omega), by omega⟩).symm
          refine q_V2 dX8_noRange_36 ml_8_64 md_X8_refuse (m_refH (by omega) (gor_R (mT_R M) mMp_R) (by (first | (unfold zR; omega) | (unfold zLR; omega) | omega | (simp only [zR, qup] at *; omega) | (simp [zR, qup]; omega) | (simp [zR, qup]; done))) hg) rfl rfl rfl (by first | decide | omega) (Nat.le_of_ble_eq_true rfl) (Nat.le_of_ble_eq_true rfl) (qk_e ?_)
          refine q_if_eq (tgt := 46) dX8_noRange_39 rfl (by exact zb_R _) (fun h39 => ?_) (fun h39 => ?_)
          ·
            refine q_iconst dX8_noRange_46 ?_
            refine q_zreturn (by first | exact Or.inl rfl | exact Or.inr rfl) dX8_noRange_47 ?_
            exact ⟨by rw [h39], rfl⟩
          ·
            refine q_iconst dX8_noRange_42 ?_
            refine q_goto (tgt := 47) dX8_noRange_43 rfl ?_
            refine q_zreturn (by first | exact Or.inl rfl | exact Or.inr rfl) dX8_noRange_47 ?_
            exact ⟨by rw [zb_t (zbn h39)], rfl⟩
        ·
          refine q_iconst dX8_noRange_30 ?_
          refine q_goto (tgt := 35) dX8_noRange_31 rfl ?_
          refine q_iconst dX8_noRange_35 ?_
          have hg : (if (1 : Int) = 1 then (2 : Int) else 0) = mRg M f t := (if_neg (fun w => by have := w.2.2; omega)).symm
          refine q_V2 dX8_noRange_36 ml_8_64 md_X8_refuse (m_refH (by omega) (gor_R (mT_R M) mMp_R) (by (first | (unfold zR; omega) | (unfold zLR; omega) | omega | (simp only [zR, qup] at *; omega) | (simp [zR, qup]; omega) | (simp [zR, qup]; done))) hg) rfl rfl rfl (by first | decide | omega) (Nat.le_of_ble_eq_true rfl) (Nat.le_of_ble_eq_true rfl) (qk_e ?_)
          refine q_if_eq (tgt := 46) dX8_noRange_39 rfl (by exact zb_R _) (fun h39 => ?_) (fun h39 => ?_)
          ·
            refine q_iconst dX8_noRange_46 ?_
            refine q_zreturn (by first | exact Or.inl rfl | exact Or.inr rfl) dX8_noRange_47 ?_
            exact ⟨by rw [h39], rfl⟩
          ·
            refine q_iconst dX8_noRange_42 ?_
            refine q_goto (tgt := 47) dX8_noRange_43 rfl ?_
            refine q_zreturn (by first | exact Or.inl rfl | exact Or.inr rfl) dX8_noRange_47 ?_
            exact ⟨by rw [zb_t (zbn h39)], rfl⟩
set_option maxHeartbeats 1000000 in
theorem m_isBit (hb : zR b) : qCt mX8_isBit 0 1 [.int (zI b)] M (qpe (zb (b = 0 ∨ b = 1)) M) := by
  refine q_intro (own := 8) (L := [some (.int (zI b))]) md_X8_isBit rfl rfl rfl (Nat.le_of_ble_eq_true rfl) (fun X => ?_)
  refine q_iload_n dX8_isBit_0 rfl ?_
  refine q_iconst dX8_isBit_1 ?_
  refine q_iconst dX8_isBit_2 ?_
  refine q_S3 dX8_isBit_3 ml_8_71 md_X8_in (m_in hb (by (first | (unfold zR; omega) | (unfold zLR; omega) | omega | (simp only [zR, qup] at *; omega) | (simp [zR, qup]; omega) | (simp [zR, qup]; done))) (by (first | (unfold zR; omega) | (unfold zLR; omega) | omega | (simp only [zR, qup] at *; omega) | (simp [zR, qup]; omega) | (simp [zR, qup]; done)))) rfl (by first | decide | omega) (Nat.le_of_ble_eq_true rfl) (Nat.le_of_ble_eq_true rfl) (qk_e ?_)
  refine q_zreturn (by exact zb_01 _) dX8_isBit_6 ?_
  exact ⟨by rw [zb_c (show (b = 0 ∨ b = 1) ↔ (0 ≤ b ∧ b ≤ 1) by omega)], rfl⟩
set_option maxHeartbeats 2000000 in
theorem m_noBit (hM : MI M) (hk : zR k) (hb : zR b) : qCt mX8_noBit 0 3 [.ref 37, .int (zI k), .int (zI b)] M (qpe (zb (gor (gor (mT M) (mMp M k)) (gBit b) ≠ 0)) (qup M 37 0 (gor (gor (mT M) (mMp M k)) (gBit b)))) := by
  have z01 := zb_01 (b = 0 ∨ b = 1)
  refine q_intro (own := 8) (L := [some (.ref 37), some (.int (zI k)), some (.int (zI b))]) md_X8_noBit rfl rfl rfl (Nat.le_of_ble_eq_true rfl) (fun X => ?_)
  refine q_aload_n dX8_noBit_0 rfl ?_
  refine q_iload_n dX8_noBit_1 rfl ?_
  refine q_V1 dX8_noBit_2 ml_8_292 md_X8_noMap (m_noMap hM.1 hM.2.2.2.1 hk) rfl rfl rfl (by first | decide | omega) (Nat.le_of_ble_eq_true rfl) (Nat.le_of_ble_eq_true rfl) (qk_e ?_)
  refine q_if_ne (tgt := 28) dX8_noBit_5 rfl (by exact zb_R _) (fun h5 => ?_) (fun h5 => ?_)
  ·
    refine q_iconst dX8_noBit_28 ?_
    refine q_goto (tgt := 33) dX8_noBit_29 rfl ?_
    refine q_zreturn (by first | exact Or.inl rfl | exact Or.inr rfl) dX8_noBit_33 ?_
    exact ⟨by rw [gor_n (zbn h5), zb_t (zbn h5)], by rw [gor_n (zbn h5)]⟩
  ·
    refine q_aload_n dX8_noBit_8 rfl ?_
    refine q_iload_n dX8_noBit_9 rfl ?_
    refine q_S1 dX8_noBit_10 ml_8_308 md_X8_isBit (m_isBit hb) rfl (by first | decide | omega) (Nat.le_of_ble_eq_true rfl) (Nat.le_of_ble_eq_true rfl) (qk_e ?_)
    refine q_if_ne (tgt := 20) dX8_noBit_13 rfl (by (first | (unfold zR; omega) | (unfold zLR; omega) | omega | (simp only [zR, qup] at *; omega) | (simp [zR, qup]; omega) | (simp [zR, qup]; done))) (fun h13 => ?_) (fun h13 => ?_)
    ·
      refine q_iconst dX8_noBit_20 ?_
      refine q_iconst dX8_noBit_21 ?_
      have hg : (if (0 : Int) = 1 then (3 : Int) else 0) = gBit b := (if_pos (zb_1.1 (by omega))).symm
      refine q_V2 dX8_noBit_22 ml_8_64 md_X8_refuse (m_refH (by omega) (gor_R (mT_R M) mMp_R) (by (first | (unfold zR; omega) | (unfold zLR; omega) | omega | (simp only [zR, qup] at *; omega) | (simp [zR, qup]; omega) | (simp [zR, qup]; done))) hg) rfl rfl rfl (by first | decide | omega) (Nat.le_of_ble_eq_true rfl) (Nat.le_of_ble_eq_true rfl) (qk_e ?_)
      refine q_if_eq (tgt := 32) dX8_noBit_25 rfl (by exact zb_R _) (fun h25 => ?_) (fun h25 => ?_)
      ·
        refine q_iconst dX8_noBit_32 ?_
        refine q_zreturn (by first | exact Or.inl rfl | exact Or.inr rfl) dX8_noBit_33 ?_
        exact ⟨by rw [h25], rfl⟩
      ·
        refine q_iconst dX8_noBit_28 ?_
        refine q_goto (tgt := 33) dX8_noBit_29 rfl ?_
        refine q_zreturn (by first | exact Or.inl rfl | exact Or.inr rfl) dX8_noBit_33 ?_
        exact ⟨by rw [zb_t (zbn h25)], rfl⟩
    ·
      refine q_iconst dX8_noBit_16 ?_
      refine q_goto (tgt := 21) dX8_noBit_17 rfl ?_
      refine q_iconst dX8_noBit_21 ?_
      have hg : (if (1 : Int) = 1 then (3 : Int) else 0) = gBit b := (if_neg (zb_0.1 (by omega))).symm
      refine q_V2 dX8_noBit_22 ml_8_64 md_X8_refuse (m_refH (by omega) (gor_R (mT_R M) mMp_R) (by (first | (unfold zR; omega) | (unfold zLR; omega) | omega | (simp only [zR, qup] at *; omega) | (simp [zR, qup]; omega) | (simp [zR, qup]; done))) hg) rfl rfl rfl (by first | decide | omega) (Nat.le_of_ble_eq_true rfl) (Nat.le_of_ble_eq_true rfl) (qk_e ?_)
      refine q_if_eq (tgt := 32) dX8_noBit_25 rfl (by exact zb_R _) (fun h25 => ?_) (fun h25 => ?_)
      ·
        refine q_iconst dX8_noBit_32 ?_
        refine q_zreturn (by first | exact Or.inl rfl | exact Or.inr rfl) dX8_noBit_33 ?_
        exact ⟨by rw [h25], rfl⟩
      ·
        refine q_iconst dX8_noBit_28 ?_
        refine q_goto (tgt := 33) dX8_noBit_29 rfl ?_
        refine q_zreturn (by first | exact Or.inl rfl | exact Or.inr rfl) dX8_noBit_33 ?_
        exact ⟨by rw [zb_t (zbn h25)], rfl⟩
set_option maxHeartbeats 1000000 in
theorem m_isBlock (h2 : 0 ≤ M 37 2 ∧ M 37 2 ≤ 4) (hx : zR x) (hy : zR y) : qCt mX8_isBlock 0 1 [.ref 37, .int (zI x), .int (zI y)] M (qpe (zb ((0 ≤ x ∧ x ≤ M 37 2) ∧ 0 ≤ y ∧ y < p4 (M 37 2 - x))) M) := by
  have h4 := p4_in (M 37 2 - x)
  have z01 := zb_01 (0 ≤ x ∧ x ≤ M 37 2)
  have z02 := zb_01 (0 ≤ y ∧ y ≤ p4 (M 37 2 - x) - 1)
  refine q_intro (own := 8) (L := [some (.ref 37), some (.int (zI x)), some (.int (zI y))]) md_X8_isBlock rfl rfl rfl (Nat.le_of_ble_eq_true rfl) (fun X => ?_)
  refine q_iload_n dX8_isBlock_0 rfl ?_
  refine q_iconst dX8_isBlock_1 ?_
  refine q_aload_n dX8_isBlock_2 rfl ?_
  refine q_geti (j := 2) dX8_isBlock_3 fl_8_114 rfl rfl rfl ?_
  refine q_S3 dX8_isBlock_6 ml_8_71 md_X8_in (m_in hx (by (first | (unfold zR; omega) | (unfold zLR; omega) | omega | (simp only [zR, qup] at *; omega) | (simp [zR, qup]; omega) | (simp [zR, qup]; done))) (by (first | (unfold zR; omega) | (unfold zLR; omega) | omega | (simp only [zR, qup] at *; omega) | (simp [zR, qup]; omega) | (simp [zR, qup]; done)))) rfl (by first | decide | omega) (Nat.le_of_ble_eq_true rfl) (Nat.le_of_ble_eq_true rfl) (qk_e ?_)
  refine q_if_eq (tgt := 36) dX8_isBlock_9 rfl (by (first | (unfold zR; omega) | (unfold zLR; omega) | omega | (simp only [zR, qup] at *; omega) | (simp [zR, qup]; omega) | (simp [zR, qup]; done))) (fun h9 => ?_) (fun h9 => ?_)
  ·
    refine q_iconst dX8_isBlock_36 ?_
    refine q_zreturn (by first | exact Or.inl rfl | exact Or.inr rfl) dX8_isBlock_37 ?_
    exact ⟨by rw [zb_f (fun w => zb_0.1 h9 w.1)], rfl⟩
  ·
    have hxx := zb_1.1 (show zb (0 ≤ x ∧ x ≤ M 37 2) = 1 by omega)
    refine q_iload_n dX8_isBlock_12 rfl ?_
    refine q_iconst dX8_isBlock_13 ?_
    refine q_iconst dX8_isBlock_14 ?_
    refine q_iconst dX8_isBlock_15 ?_
    refine q_aload_n dX8_isBlock_16 rfl ?_
    refine q_geti (j := 2) dX8_isBlock_17 fl_8_114 rfl rfl rfl ?_
    refine q_iload_n dX8_isBlock_20 rfl ?_
    refine q_isub dX8_isBlock_21 ?_
    refine q_imul dX8_isBlock_22 ?_
    refine q_ishl dX8_isBlock_23 ?_
    rw [p4_shl (by omega)]
    refine q_iconst dX8_isBlock_24 ?_
    refine q_isub dX8_isBlock_25 ?_
    refine q_S3 dX8_isBlock_26 ml_8_71 md_X8_in (m_in hy (by (first | (unfold zR; omega) | (unfold zLR; omega) | omega | (simp only [zR, qup] at *; omega) | (simp [zR, qup]; omega) | (simp [zR, qup]; done))) (by (first | (unfold zR; omega) | (unfold zLR; omega) | omega | (simp only [zR, qup] at *; omega) | (simp [zR, qup]; omega) | (simp [zR, qup]; done)))) rfl (by first | decide | omega) (Nat.le_of_ble_eq_true rfl) (Nat.le_of_ble_eq_true rfl) (qk_e ?_)
    refine q_if_eq (tgt := 36) dX8_isBlock_29 rfl (by (first | (unfold zR; omega) | (unfold zLR; omega) | omega | (simp only [zR, qup] at *; omega) | (simp [zR, qup]; omega) | (simp [zR, qup]; done))) (fun h29 => ?_) (fun h29 => ?_)
    ·
      refine q_iconst dX8_isBlock_36 ?_
      refine q_zreturn (by first | exact Or.inl rfl | exact Or.inr rfl) dX8_isBlock_37 ?_
      exact ⟨by rw [zb_f (fun w => zb_0.1 h29 ⟨w.2.1, by have := w.2.2; omega⟩)], rfl⟩
    ·
      refine q_iconst dX8_isBlock_32 ?_
      refine q_goto (tgt := 37) dX8_isBlock_33 rfl ?_
      refine q_zreturn (by first | exact Or.inl rfl | exact Or.inr rfl) dX8_isBlock_37 ?_
      have hyy := zb_1.1 (show zb (0 ≤ y ∧ y ≤ p4 (M 37 2 - x) - 1) = 1 by omega)
      exact ⟨by rw [zb_t ⟨hxx, hyy.1, by omega⟩], rfl⟩
set_option maxHeartbeats 2000000 in
theorem m_noBlock (hM : MI M) (hk : zR k) (hx : zR x) (hy : zR y) : qCt mX8_noBlock 0 3 [.ref 37, .int (zI k), .int (zI x), .int (zI y)] M (qpe (zb (gor (gor (mT M) (mMp M k)) (mBk M x y) ≠ 0)) (qup M 37 0 (gor (gor (mT M) (mMp M k)) (mBk M x y)))) := by
  have e2 : ∀ g, qup M 37 0 g 37 2 = M 37 2 := fun g => by simp [qup]
  have z01 := zb_01 ((0 ≤ x ∧ x ≤ M 37 2) ∧ 0 ≤ y ∧ y < p4 (M 37 2 - x))
  refine q_intro (own := 8) (L := [some (.ref 37), some (.int (zI k)), some (.int (zI x)), some (.int (zI y))]) md_X8_noBlock rfl rfl rfl (Nat.le_of_ble_eq_true rfl) (fun X => ?_)
  refine q_aload_n dX8_noBlock_0 rfl ?_
  refine q_iload_n dX8_noBlock_1 rfl ?_
  refine q_V1 dX8_noBlock_2 ml_8_292 md_X8_noMap (m_noMap hM.1 hM.2.2.2.1 hk) rfl rfl rfl (by first | decide | omega) (Nat.le_of_ble_eq_true rfl) (Nat.le_of_ble_eq_true rfl) (qk_e ?_)
  refine q_if_ne (tgt := 30) dX8_noBlock_5 rfl (by exact zb_R _) (fun h5 => ?_) (fun h5 => ?_)
  ·
    refine q_iconst dX8_noBlock_30 ?_
    refine q_goto (tgt := 35) dX8_noBlock_31 rfl ?_
    refine q_zreturn (by first | exact Or.inl rfl | exact Or.inr rfl) dX8_noBlock_35 ?_
    exact ⟨by rw [gor_n (zbn h5), zb_t (zbn h5)], by rw [gor_n (zbn h5)]⟩
  ·
    refine q_aload_n dX8_noBlock_8 rfl ?_
    refine q_aload_n dX8_noBlock_9 rfl ?_
    refine q_iload_n dX8_noBlock_10 rfl ?_
    refine q_iload_n dX8_noBlock_11 rfl ?_
    refine q_V2 dX8_noBlock_12 ml_8_332 md_X8_isBlock (m_isBlock (by rw [e2]; exact hM.2.1) hx hy) rfl rfl rfl (by first | decide | omega) (Nat.le_of_ble_eq_true rfl) (Nat.le_of_ble_eq_true rfl) (qk_e ?_)
    rw [e2]
    refine q_if_ne (tgt := 22) dX8_noBlock_15 rfl (by (first | (unfold zR; omega) | (unfold zLR; omega) | omega | (simp only [zR, qup] at *; omega) | (simp [zR, qup]; omega) | (simp [zR, qup]; done))) (fun h15 => ?_) (fun h15 => ?_)
    ·
      refine q_iconst dX8_noBlock_22 ?_
      refine q_iconst dX8_noBlock_23 ?_
      have hg : (if (0 : Int) = 1 then (2 : Int) else 0) = mBk M x y := (if_pos (zb_1.1 (by omega))).symm
      refine q_V2 dX8_noBlock_24 ml_8_64 md_X8_refuse (m_refH (by omega) (gor_R (mT_R M) mMp_R) (by (first | (unfold zR; omega) | (unfold zLR; omega) | omega | (simp only [zR, qup] at *; omega) | (simp [zR, qup]; omega) | (simp [zR, qup]; done))) hg) rfl rfl rfl (by first | decide | omega) (Nat.le_of_ble_eq_true rfl) (Nat.le_of_ble_eq_true rfl) (qk_e ?_)
      refine q_if_eq (tgt := 34) dX8_noBlock_27 rfl (by exact zb_R _) (fun h27 => ?_) (fun h27 => ?_)
      ·
        refine q_iconst dX8_noBlock_34 ?_
        refine q_zreturn (by first | exact Or.inl rfl | exact Or.inr rfl) dX8_noBlock_35 ?_
        exact ⟨by rw [h27], rfl⟩
      ·
        refine q_iconst dX8_noBlock_30 ?_
        refine q_goto (tgt := 35) dX8_noBlock_31 rfl ?_
        refine q_zreturn (by first | exact Or.inl rfl | exact Or.inr rfl) dX8_noBlock_35 ?_
        exact ⟨by rw [zb_t (zbn h27)], rfl⟩
    ·
      refine q_iconst dX8_noBlock_18 ?_
      refine q_goto (tgt := 23) dX8_noBlock_19 rfl ?_
      refine q_iconst dX8_noBlock_23 ?_
      have hg : (if (1 : Int) = 1 then (2 : Int) else 0) = mBk M x y := (if_neg (zb_0.1 (by omega))).symm
      refine q_V2 dX8_noBlock_24 ml_8_64 md_X8_refuse (m_refH (by omega) (gor_R (mT_R M) mMp_R) (by (first | (unfold zR; omega) | (unfold zLR; omega) | omega | (simp only [zR, qup] at *; omega) | (simp [zR, qup]; omega) | (simp [zR, qup]; done))) hg) rfl rfl rfl (by first | decide | omega) (Nat.le_of_ble_eq_true rfl) (Nat.le_of_ble_eq_true rfl) (qk_e ?_)
      refine q_if_eq (tgt := 34) dX8_noBlock_27 rfl (by exact zb_R _) (fun h27 => ?_) (fun h27 => ?_)
      ·
        refine q_iconst dX8_noBlock_34 ?_
        refine q_zreturn (by first | exact Or.inl rfl | exact Or.inr rfl) dX8_noBlock_35 ?_
        exact ⟨by rw [h27], rfl⟩
      ·
        refine q_iconst dX8_noBlock_30 ?_
        refine q_goto (tgt := 35) dX8_noBlock_31 rfl ?_
        refine q_zreturn (by first | exact Or.inl rfl | exact Or.inr rfl) dX8_noBlock_35 ?_
        exact ⟨by rw [zb_t (zbn h27)], rfl⟩
set_option maxHeartbeats 2000000 in
theorem m_noPair (hM : MI M) (hk : zR k) (ho : zR o) : qCt mX8_noPair 0 3 [.ref 37, .int (zI k), .int (zI o)] M (qpe (zb (gor (gor (mT M) (mMp M k)) (mMp M o) ≠ 0)) (qup M 37 0 (gor (gor (mT M) (mMp M k)) (mMp M o)))) := by
  have e3 : ∀ g, qup M 37 0 g 37 3 = M 37 3 := fun g => by simp [qup]
  have z01 := zb_01 (0 ≤ o ∧ o < M 37 3)
  refine q_intro (own := 8) (L := [some (.ref 37), some (.int (zI k)), some (.int (zI o))]) md_X8_noPair rfl rfl rfl (Nat.le_of_ble_eq_true rfl) (fun X => ?_)
  refine q_aload_n dX8_noPair_0 rfl ?_
  refine q_iload_n dX8_noPair_1 rfl ?_
  refine q_V1 dX8_noPair_2 ml_8_292 md_X8_noMap (m_noMap hM.1 hM.2.2.2.1 hk) rfl rfl rfl (by first | decide | omega) (Nat.le_of_ble_eq_true rfl) (Nat.le_of_ble_eq_true rfl) (qk_e ?_)
  refine q_if_ne (tgt := 29) dX8_noPair_5 rfl (by exact zb_R _) (fun h5 => ?_) (fun h5 => ?_)
  ·
    refine q_iconst dX8_noPair_29 ?_
    refine q_goto (tgt := 34) dX8_noPair_30 rfl ?_
    refine q_zreturn (by first | exact Or.inl rfl | exact Or.inr rfl) dX8_noPair_34 ?_
    exact ⟨by rw [gor_n (zbn h5), zb_t (zbn h5)], by rw [gor_n (zbn h5)]⟩
  ·
    refine q_aload_n dX8_noPair_8 rfl ?_
    refine q_aload_n dX8_noPair_9 rfl ?_
    refine q_iload_n dX8_noPair_10 rfl ?_
    refine q_V1 dX8_noPair_11 ml_8_79 md_X8_isMap (m_isMap (by rw [e3]; exact hM.2.2.2.1) ho) rfl rfl rfl (by first | decide | omega) (Nat.le_of_ble_eq_true rfl) (Nat.le_of_ble_eq_true rfl) (qk_e ?_)
    rw [e3]
    refine q_if_ne (tgt := 21) dX8_noPair_14 rfl (by (first | (unfold zR; omega) | (unfold zLR; omega) | omega | (simp only [zR, qup] at *; omega) | (simp [zR, qup]; omega) | (simp [zR, qup]; done))) (fun h14 => ?_) (fun h14 => ?_)
    ·
      refine q_iconst dX8_noPair_21 ?_
      refine q_iconst dX8_noPair_22 ?_
      have hg : (if (0 : Int) = 1 then (2 : Int) else 0) = mMp M o := (if_pos (zb_1.1 (by omega))).symm
      refine q_V2 dX8_noPair_23 ml_8_64 md_X8_refuse (m_refH (by omega) (gor_R (mT_R M) mMp_R) (by (first | (unfold zR; omega) | (unfold zLR; omega) | omega | (simp only [zR, qup] at *; omega) | (simp [zR, qup]; omega) | (simp [zR, qup]; done))) hg) rfl rfl rfl (by first | decide | omega) (Nat.le_of_ble_eq_true rfl) (Nat.le_of_ble_eq_true rfl) (qk_e ?_)
      refine q_if_eq (tgt := 33) dX8_noPair_26 rfl (by exact zb_R _) (fun h26 => ?_) (fun h26 => ?_)
      ·
        refine q_iconst dX8_noPair_33 ?_
        refine q_zreturn (by first | exact Or.inl rfl | exact Or.inr rfl) dX8_noPair_34 ?_
        exact ⟨by rw [h26], rfl⟩
      ·
        refine q_iconst dX8_noPair_29 ?_
        refine q_goto (tgt := 34) dX8_noPair_30 rfl ?_
        refine q_zreturn (by first | exact Or.inl rfl | exact Or.inr rfl) dX8_noPair_34 ?_
        exact ⟨by rw [zb_t (zbn h26)], rfl⟩
    ·
      refine q_iconst dX8_noPair_17 ?_
      refine q_goto (tgt := 22) dX8_noPair_18 rfl ?_
      refine q_iconst dX8_noPair_22 ?_
      have hg : (if (1 : Int) = 1 then (2 : Int) else 0) = mMp M o := (if_neg (zb_0.1 (by omega))).symm
      refine q_V2 dX8_noPair_23 ml_8_64 md_X8_refuse (m_refH (by omega) (gor_R (mT_R M) mMp_R) (by (first | (unfold zR; omega) | (unfold zLR; omega) | omega | (simp only [zR, qup] at *; omega) | (simp [zR, qup]; omega) | (simp [zR, qup]; done))) hg) rfl rfl rfl (by first | decide | omega) (Nat.le_of_ble_eq_true rfl) (Nat.le_of_ble_eq_true rfl) (qk_e ?_)
      refine q_if_eq (tgt := 33) dX8_noPair_26 rfl (by exact zb_R _) (fun h26 => ?_) (fun h26 => ?_)
      ·
        refine q_iconst dX8_noPair_33 ?_
        refine q_zreturn (by first | exact Or.inl rfl | exact Or.inr rfl) dX8_noPair_34 ?_
        exact ⟨by rw [h26], rfl⟩
      ·
        refine q_iconst dX8_noPair_29 ?_
        refine q_goto (tgt := 34) dX8_noPair_30 rfl ?_
        refine q_zreturn (by first | exact Or.inl rfl | exact Or.inr rfl) dX8_noPair_34 ?_
        exact ⟨by rw [zb_t (zbn h26)], rfl⟩
end MO


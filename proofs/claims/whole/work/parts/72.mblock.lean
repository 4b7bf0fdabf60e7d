/-! The model: block, lowest; combined, alike. -/
section MX
variable {M : qM} {L l : Nat} {c T K F S : Int → Int} {k o x y a b v p q f t n g i : Int}
theorem mBk_0 (hL : M 37 2 = (L : Int)) (h : mBk M x y = 0) : (0 ≤ x ∧ x ≤ L) ∧ 0 ≤ y ∧ y < p4 ((L : Int) - x) := by
  unfold mBk at h
  rw [hL] at h
  exact Classical.byContradiction fun q => by rw [if_neg q] at h; omega
set_option maxHeartbeats 4000000 in
theorem o_block (hM : MI M) (hL : M 37 2 = (L : Int)) (hk : zR k) (hx : zR x) (hy : zR y) (hq : zR q) : qCt mX8_block 0 9 [.ref 37, .int (zI k), .int (zI x), .int (zI y), .int (zI q)] M (mpx (gor (gor (gG M k) (mBk M x y)) (if 0 ≤ q ∧ q ≤ 3 then 0 else 3)) (fun z M' => z = blkF (scl M k) L x y q ∧ MS (qup M 37 0 0) M') M) := by
  have hL4 : L ≤ 4 := by have := hM.2.1; omega
  have z01 := zb_01 (0 ≤ q ∧ q ≤ 3)
  refine q_intro (own := 8) (L := [some (.ref 37), some (.int (zI k)), some (.int (zI x)), some (.int (zI y)), some (.int (zI q)), none]) md_X8_block rfl rfl rfl (Nat.le_of_ble_eq_true rfl) (fun X => ?_)
  refine q_aload_n dX8_block_0 rfl ?_
  refine q_iload_n dX8_block_1 rfl ?_
  refine q_iload_n dX8_block_2 rfl ?_
  refine q_iload_n dX8_block_3 rfl ?_
  refine q_V3 dX8_block_4 ml_8_335 md_X8_noBlock (m_noBlock hM hk hx hy) rfl rfl rfl (by first | decide | omega) (Nat.le_of_ble_eq_true rfl) (Nat.le_of_ble_eq_true rfl) (qk_e ?_)
  refine q_if_ne (tgt := 33) dX8_block_7 rfl (by exact zb_R _) (fun h7 => ?_) (fun h7 => ?_)
  ·
    refine q_iconst dX8_block_33 ?_
    refine q_ireturn dX8_block_34 ?_
    exact mpx_g2 (zbn h7)
  ·
    refine q_aload_n dX8_block_10 rfl ?_
    refine q_iload dX8_block_11 rfl ?_
    refine q_iconst dX8_block_13 ?_
    refine q_iconst dX8_block_14 ?_
    refine q_S3 dX8_block_15 ml_8_71 md_X8_in (m_in hq (by (first | (unfold zR; omega) | (unfold zLR; omega) | omega | (simp only [zR, qup] at *; omega) | (simp [zR, qup]; omega) | (simp [zR, qup]; done))) (by (first | (unfold zR; omega) | (unfold zLR; omega) | omega | (simp only [zR, qup] at *; omega) | (simp [zR, qup]; omega) | (simp [zR, qup]; done)))) rfl (by first | decide | omega) (Nat.le_of_ble_eq_true rfl) (Nat.le_of_ble_eq_true rfl) (qk_e ?_)
    refine q_if_ne (tgt := 25) dX8_block_18 rfl (by exact zb_R _) (fun h18 => ?_) (fun h18 => ?_)
    ·
      refine q_iconst dX8_block_25 ?_
      refine q_iconst dX8_block_26 ?_
      have hgb : (if (0 : Int) = 1 then (3 : Int) else 0) = (if 0 ≤ q ∧ q ≤ 3 then 0 else 3) := (if_pos (zb_1.1 (by omega))).symm
      refine q_V2 dX8_block_27 ml_8_64 md_X8_refuse (m_refH (by omega) (gor_R (gor_R (mT_R M) mMp_R) (ite_R (by unfold zR; omega) (by unfold zR; omega))) (by (first | (unfold zR; omega) | (unfold zLR; omega) | omega | (simp only [zR, qup] at *; omega) | (simp [zR, qup]; omega) | (simp [zR, qup]; done))) hgb) rfl rfl rfl (by first | decide | omega) (Nat.le_of_ble_eq_true rfl) (Nat.le_of_ble_eq_true rfl) (qk_e ?_)
      refine q_if_eq (tgt := 35) dX8_block_30 rfl (by exact zb_R _) (fun h30 => ?_) (fun h30 => ?_)
      ·
        have hg := zbz h30
        have hg1 := gor_00.1 hg
        have hg2 := gor_00.1 hg1.1
        have hgk := gG_0 hM hg2.1
        have hq5 : 0 ≤ q ∧ q ≤ 3 := Classical.byContradiction fun w => by have := hg1.2; rw [if_neg w] at this; omega
        have hbk := mBk_0 hL hg2.2
        obtain ⟨ln, rfl⟩ := Int.eq_ofNat_of_zero_le hbk.1.1
        have hlL : ln ≤ L := by omega
        have hbi := blk_in hL4 hbk.1 hbk.2
        have hpin := p4_in (L : Int)
        have hpil := p4_in (ln : Int)
        have hmul : 8 * p4 (ln : Int) * y = 8 * (p4 (ln : Int) * y) := Int.mul_assoc _ _ _
        have hmul2 : 8 * p4 (ln : Int) * (y + 1) = 8 * p4 (ln : Int) * y + 8 * p4 (ln : Int) := by rw [Int.mul_add, Int.mul_one]
        have hyd : 0 ≤ y ∧ y < p4 ((L - ln : Nat) : Int) := ⟨hbk.2.1, by rw [show ((L - ln : Nat) : Int) = (L : Int) - ln by omega]; exact hbk.2.2⟩
        have hoi := off_in (d := L - ln) (by omega) hyd
        rw [hg]
        refine q_aload_n dX8_block_35 rfl ?_
        refine q_iload_n dX8_block_36 rfl ?_
        refine q_V1 dX8_block_37 ml_8_286 md_X8_fetchesTree (m_fetchesTree hM hL (by omega)) rfl rfl rfl (by first | decide | omega) (Nat.le_of_ble_eq_true rfl) (Nat.le_of_ble_eq_true rfl) (qk_h (fun N37 hq37 => ?_))
        obtain ⟨Tq, Kq, Fq, Sq, rfl, hm⟩ := hq37
        have hMS : MS (qup M 37 0 0) (mtw (fW M 0 L k) Tq Kq Fq Sq (tsz (scl M k) L 0)) := MS_tr (fW_MS M 0 L k) (mtw_MS _ _ _ _ _ _)
        have hy2 := hm.2.1 (L - ln) y (by omega) hyd.1 hyd.2
        refine q_aload_n dX8_block_40 rfl ?_
        refine q_iload_n dX8_block_41 rfl ?_
        refine q_iload_n dX8_block_42 rfl ?_
        refine q_V2 dX8_block_43 ml_8_97 md_X8_spot (m_spot (L := L) (by rw [mtw_9]; exact fW_9) hL4 hlL hyd) rfl rfl rfl (by first | decide | omega) (Nat.le_of_ble_eq_true rfl) (Nat.le_of_ble_eq_true rfl) (qk_e ?_)
        refine q_istore dX8_block_46 (Nat.le_of_ble_eq_true rfl) rfl ?_
        refine q_iload dX8_block_48 rfl ?_
        by_cases hs50_0 : q = 0
        ·
          refine q_tableIn (tgt := 76) dX8_block_50 (by (first | (unfold zR; omega) | (unfold zLR; omega) | omega | (simp only [zR, qup] at *; omega) | (simp [zR, qup]; omega) | (simp [zR, qup]; done))) (by omega) (by omega) (by rw [hs50_0]; rfl) rfl ?_
          refine q_aload_n dX8_block_76 rfl ?_
          refine q_getr dX8_block_77 fl_8_29 rfl rfl ?_
          refine q_iload dX8_block_80 rfl ?_
          refine q_iald dX8_block_82 rfl (by (first | (unfold zR; omega) | (unfold zLR; omega) | omega | (simp only [zR, qup] at *; omega) | (simp [zR, qup]; omega) | (simp [zR, qup]; done))) (Nat.le_of_ble_eq_true rfl) ?_
          rw [show mtw (fW M 0 L k) Tq Kq Fq Sq (tsz (scl M k) L 0) 44 (off (L - ln) + y) = Kq (off (L - ln) + y) from rfl, hy2.1]
          refine q_ireturn dX8_block_83 ?_
          exact mpx_k hg ⟨by unfold blkF; rw [if_pos (by omega), Int.toNat_natCast], hMS⟩
        by_cases hs50_1 : q = 1
        ·
          refine q_tableIn (tgt := 84) dX8_block_50 (by (first | (unfold zR; omega) | (unfold zLR; omega) | omega | (simp only [zR, qup] at *; omega) | (simp [zR, qup]; omega) | (simp [zR, qup]; done))) (by omega) (by omega) (by rw [hs50_1]; rfl) rfl ?_
          refine q_aload_n dX8_block_84 rfl ?_
          refine q_bipush dX8_block_85 rfl ?_
          refine q_iload_n dX8_block_87 rfl ?_
          refine q_S1 dX8_block_88 ml_8_94 md_X8_span (m_span (by omega)) rfl (by first | decide | omega) (Nat.le_of_ble_eq_true rfl) (Nat.le_of_ble_eq_true rfl) (qk_e ?_)
          refine q_imul dX8_block_91 ?_
          refine q_iload_n dX8_block_92 rfl ?_
          refine q_imul dX8_block_93 ?_
          refine q_bipush dX8_block_94 rfl ?_
          refine q_iload_n dX8_block_96 rfl ?_
          refine q_S1 dX8_block_97 ml_8_94 md_X8_span (m_span (by omega)) rfl (by first | decide | omega) (Nat.le_of_ble_eq_true rfl) (Nat.le_of_ble_eq_true rfl) (qk_e ?_)
          refine q_imul dX8_block_100 ?_
          refine q_iload_n dX8_block_101 rfl ?_
          refine q_iconst dX8_block_102 ?_
          refine q_iadd dX8_block_103 ?_
          refine q_imul dX8_block_104 ?_
          refine q_iconst dX8_block_105 ?_
          refine q_isub dX8_block_106 ?_
          refine q_V2 dX8_block_107 ml_8_305 md_X8_onesIn (m_onesIn (by omega) (by omega) (fun p p0 p1 => by rw [mtw_42]; exact fW_b hM (by omega) (by omega)) (by omega)) rfl rfl rfl (by first | decide | omega) (Nat.le_of_ble_eq_true rfl) (Nat.le_of_ble_eq_true rfl) (qk_e ?_)
          refine q_ireturn dX8_block_110 ?_
          exact mpx_k hg ⟨by unfold blkF; rw [if_neg (by omega), if_pos (by omega), onesI_z (by omega) (by omega) (by omega), mtw_42, show 8 * p4 (ln : Int) * (y + 1) - 1 - 8 * p4 (ln : Int) * y + 1 = 8 * p4 (ln : Int) * y + 8 * p4 (ln : Int) - 1 - 8 * p4 (ln : Int) * y + 1 by omega]; exact zsum_congr (fun p p0 p1 => fW_bit (by omega)), hMS⟩
        by_cases hs50_2 : q = 2
        ·
          refine q_tableIn (tgt := 111) dX8_block_50 (by (first | (unfold zR; omega) | (unfold zLR; omega) | omega | (simp only [zR, qup] at *; omega) | (simp [zR, qup]; omega) | (simp [zR, qup]; done))) (by omega) (by omega) (by rw [hs50_2]; rfl) rfl ?_
          refine q_aload_n dX8_block_111 rfl ?_
          refine q_getr dX8_block_112 fl_8_32 rfl rfl ?_
          refine q_iload dX8_block_115 rfl ?_
          refine q_iald dX8_block_117 rfl (by (first | (unfold zR; omega) | (unfold zLR; omega) | omega | (simp only [zR, qup] at *; omega) | (simp [zR, qup]; omega) | (simp [zR, qup]; done))) (Nat.le_of_ble_eq_true rfl) ?_
          rw [show mtw (fW M 0 L k) Tq Kq Fq Sq (tsz (scl M k) L 0) 45 (off (L - ln) + y) = Fq (off (L - ln) + y) from rfl, hy2.2.1]
          refine q_ireturn dX8_block_118 ?_
          exact mpx_k hg ⟨by unfold blkF; rw [if_neg (by omega), if_neg (by omega), if_pos (by omega), Int.toNat_natCast], hMS⟩
        refine q_tableOut (tgt := 119) dX8_block_50 (by (first | (unfold zR; omega) | (unfold zLR; omega) | omega | (simp only [zR, qup] at *; omega) | (simp [zR, qup]; omega) | (simp [zR, qup]; done))) (by omega) rfl ?_
        refine q_aload_n dX8_block_119 rfl ?_
        refine q_getr dX8_block_120 fl_8_35 rfl rfl ?_
        refine q_iload dX8_block_123 rfl ?_
        refine q_iald dX8_block_125 rfl (by (first | (unfold zR; omega) | (unfold zLR; omega) | omega | (simp only [zR, qup] at *; omega) | (simp [zR, qup]; omega) | (simp [zR, qup]; done))) (Nat.le_of_ble_eq_true rfl) ?_
        rw [show mtw (fW M 0 L k) Tq Kq Fq Sq (tsz (scl M k) L 0) 46 (off (L - ln) + y) = Sq (off (L - ln) + y) from rfl, hy2.2.2]
        refine q_ireturn dX8_block_126 ?_
        exact mpx_k hg ⟨by rw [show L - (L - ln) = ln by omega]; unfold blkF; rw [if_neg hs50_0, if_neg hs50_1, if_neg hs50_2, Int.toNat_natCast], hMS⟩
      ·
        refine q_iconst dX8_block_33 ?_
        refine q_ireturn dX8_block_34 ?_
        exact mpx_g (zbn h30)
    ·
      refine q_iconst dX8_block_21 ?_
      refine q_goto (tgt := 26) dX8_block_22 rfl ?_
      refine q_iconst dX8_block_26 ?_
      have hgb : (if (1 : Int) = 1 then (3 : Int) else 0) = (if 0 ≤ q ∧ q ≤ 3 then 0 else 3) := (if_neg (zb_0.1 (by omega))).symm
      refine q_V2 dX8_block_27 ml_8_64 md_X8_refuse (m_refH (by omega) (gor_R (gor_R (mT_R M) mMp_R) (ite_R (by unfold zR; omega) (by unfold zR; omega))) (by (first | (unfold zR; omega) | (unfold zLR; omega) | omega | (simp only [zR, qup] at *; omega) | (simp [zR, qup]; omega) | (simp [zR, qup]; done))) hgb) rfl rfl rfl (by first | decide | omega) (Nat.le_of_ble_eq_true rfl) (Nat.le_of_ble_eq_true rfl) (qk_e ?_)
      refine q_if_eq (tgt := 35) dX8_block_30 rfl (by exact zb_R _) (fun h30 => ?_) (fun h30 => ?_)
      ·
        have hg := zbz h30
        have hg1 := gor_00.1 hg
        have hg2 := gor_00.1 hg1.1
        have hgk := gG_0 hM hg2.1
        have hq5 : 0 ≤ q ∧ q ≤ 3 := Classical.byContradiction fun w => by have := hg1.2; rw [if_neg w] at this; omega
        have hbk := mBk_0 hL hg2.2
        obtain ⟨ln, rfl⟩ := Int.eq_ofNat_of_zero_le hbk.1.1
        have hlL : ln ≤ L := by omega
        have hbi := blk_in hL4 hbk.1 hbk.2
        have hpin := p4_in (L : Int)
        have hpil := p4_in (ln : Int)
        have hmul : 8 * p4 (ln : Int) * y = 8 * (p4 (ln : Int) * y) := Int.mul_assoc _ _ _
        have hmul2 : 8 * p4 (ln : Int) * (y + 1) = 8 * p4 (ln : Int) * y + 8 * p4 (ln : Int) := by rw [Int.mul_add, Int.mul_one]
        have hyd : 0 ≤ y ∧ y < p4 ((L - ln : Nat) : Int) := ⟨hbk.2.1, by rw [show ((L - ln : Nat) : Int) = (L : Int) - ln by omega]; exact hbk.2.2⟩
        have hoi := off_in (d := L - ln) (by omega) hyd
        rw [hg]
        refine q_aload_n dX8_block_35 rfl ?_
        refine q_iload_n dX8_block_36 rfl ?_
        refine q_V1 dX8_block_37 ml_8_286 md_X8_fetchesTree (m_fetchesTree hM hL (by omega)) rfl rfl rfl (by first | decide | omega) (Nat.le_of_ble_eq_true rfl) (Nat.le_of_ble_eq_true rfl) (qk_h (fun N37 hq37 => ?_))
        obtain ⟨Tq, Kq, Fq, Sq, rfl, hm⟩ := hq37
        have hMS : MS (qup M 37 0 0) (mtw (fW M 0 L k) Tq Kq Fq Sq (tsz (scl M k) L 0)) := MS_tr (fW_MS M 0 L k) (mtw_MS _ _ _ _ _ _)
        have hy2 := hm.2.1 (L - ln) y (by omega) hyd.1 hyd.2
        refine q_aload_n dX8_block_40 rfl ?_
        refine q_iload_n dX8_block_41 rfl ?_
        refine q_iload_n dX8_block_42 rfl ?_
        refine q_V2 dX8_block_43 ml_8_97 md_X8_spot (m_spot (L := L) (by rw [mtw_9]; exact fW_9) hL4 hlL hyd) rfl rfl rfl (by first | decide | omega) (Nat.le_of_ble_eq_true rfl) (Nat.le_of_ble_eq_true rfl) (qk_e ?_)
        refine q_istore dX8_block_46 (Nat.le_of_ble_eq_true rfl) rfl ?_
        refine q_iload dX8_block_48 rfl ?_
        by_cases hs50_0 : q = 0
        ·
          refine q_tableIn (tgt := 76) dX8_block_50 (by (first | (unfold zR; omega) | (unfold zLR; omega) | omega | (simp only [zR, qup] at *; omega) | (simp [zR, qup]; omega) | (simp [zR, qup]; done))) (by omega) (by omega) (by rw [hs50_0]; rfl) rfl ?_
          refine q_aload_n dX8_block_76 rfl ?_
          refine q_getr dX8_block_77 fl_8_29 rfl rfl ?_
          refine q_iload dX8_block_80 rfl ?_
          refine q_iald dX8_block_82 rfl (by (first | (unfold zR; omega) | (unfold zLR; omega) | omega | (simp only [zR, qup] at *; omega) | (simp [zR, qup]; omega) | (simp [zR, qup]; done))) (Nat.le_of_ble_eq_true rfl) ?_
          rw [show mtw (fW M 0 L k) Tq Kq Fq Sq (tsz (scl M k) L 0) 44 (off (L - ln) + y) = Kq (off (L - ln) + y) from rfl, hy2.1]
          refine q_ireturn dX8_block_83 ?_
          exact mpx_k hg ⟨by unfold blkF; rw [if_pos (by omega), Int.toNat_natCast], hMS⟩
        by_cases hs50_1 : q = 1
        ·
          refine q_tableIn (tgt := 84) dX8_block_50 (by (first | (unfold zR; omega) | (unfold zLR; omega) | omega | (simp only [zR, qup] at *; omega) | (simp [zR, qup]; omega) | (simp [zR, qup]; done))) (by omega) (by omega) (by rw [hs50_1]; rfl) rfl ?_
          refine q_aload_n dX8_block_84 rfl ?_
          refine q_bipush dX8_block_85 rfl ?_
          refine q_iload_n dX8_block_87 rfl ?_
          refine q_S1 dX8_block_88 ml_8_94 md_X8_span (m_span (by omega)) rfl (by first | decide | omega) (Nat.le_of_ble_eq_true rfl) (Nat.le_of_ble_eq_true rfl) (qk_e ?_)
          refine q_imul dX8_block_91 ?_
          refine q_iload_n dX8_block_92 rfl ?_
          refine q_imul dX8_block_93 ?_
          refine q_bipush dX8_block_94 rfl ?_
          refine q_iload_n dX8_block_96 rfl ?_
          refine q_S1 dX8_block_97 ml_8_94 md_X8_span (m_span (by omega)) rfl (by first | decide | omega) (Nat.le_of_ble_eq_true rfl) (Nat.le_of_ble_eq_true rfl) (qk_e ?_)
          refine q_imul dX8_block_100 ?_
          refine q_iload_n dX8_block_101 rfl ?_
          refine q_iconst dX8_block_102 ?_
          refine q_iadd dX8_block_103 ?_
          refine q_imul dX8_block_104 ?_
          refine q_iconst dX8_block_105 ?_
          refine q_isub dX8_block_106 ?_
          refine q_V2 dX8_block_107 ml_8_305 md_X8_onesIn (m_onesIn (by omega) (by omega) (fun p p0 p1 => by rw [mtw_42]; exact fW_b hM (by omega) (by omega)) (by omega)) rfl rfl rfl (by first | decide | omega) (Nat.le_of_ble_eq_true rfl) (Nat.le_of_ble_eq_true rfl) (qk_e ?_)
          refine q_ireturn dX8_block_110 ?_
          exact mpx_k hg ⟨by unfold blkF; rw [if_neg (by omega), if_pos (by omega), onesI_z (by omega) (by omega) (by omega), mtw_42, show 8 * p4 (ln : Int) * (y + 1) - 1 - 8 * p4 (ln : Int) * y + 1 = 8 * p4 (ln : Int) * y + 8 * p4 (ln : Int) - 1 - 8 * p4 (ln : Int) * y + 1 by omega]; exact zsum_congr (fun p p0 p1 => fW_bit (by omega)), hMS⟩
        by_cases hs50_2 : q = 2
        ·
          refine q_tableIn (tgt := 111) dX8_block_50 (by (first | (unfold zR; omega) | (unfold zLR; omega) | omega | (simp only [zR, qup] at *; omega) | (simp [zR, qup]; omega) | (simp [zR, qup]; done))) (by omega) (by omega) (by rw [hs50_2]; rfl) rfl ?_
          refine q_aload_n dX8_block_111 rfl ?_
          refine q_getr dX8_block_112 fl_8_32 rfl rfl ?_
          refine q_iload dX8_block_115 rfl ?_
          refine q_iald dX8_block_117 rfl (by (first | (unfold zR; omega) | (unfold zLR; omega) | omega | (simp only [zR, qup] at *; omega) | (simp [zR, qup]; omega) | (simp [zR, qup]; done))) (Nat.le_of_ble_eq_true rfl) ?_
          rw [show mtw (fW M 0 L k) Tq Kq Fq Sq (tsz (scl M k) L 0) 45 (off (L - ln) + y) = Fq (off (L - ln) + y) from rfl, hy2.2.1]
          refine q_ireturn dX8_block_118 ?_
          exact mpx_k hg ⟨by unfold blkF; rw [if_neg (by omega), if_neg (by omega), if_pos (by omega), Int.toNat_natCast], hMS⟩
        refine q_tableOut (tgt := 119) dX8_block_50 (by (first | (unfold zR; omega) | (unfold zLR; omega) | omega | (simp only [zR, qup] at *; omega) | (simp [zR, qup]; omega) | (simp [zR, qup]; done))) (by omega) rfl ?_
        refine q_aload_n dX8_block_119 rfl ?_
        refine q_getr dX8_block_120 fl_8_35 rfl rfl ?_
        refine q_iload dX8_block_123 rfl ?_
        refine q_iald dX8_block_125 rfl (by (first | (unfold zR; omega) | (unfold zLR; omega) | omega | (simp only [zR, qup] at *; omega) | (simp [zR, qup]; omega) | (simp [zR, qup]; done))) (Nat.le_of_ble_eq_true rfl) ?_
        rw [show mtw (fW M 0 L k) Tq Kq Fq Sq (tsz (scl M k) L 0) 46 (off (L - ln) + y) = Sq (off (L - ln) + y) from rfl, hy2.2.2]
        refine q_ireturn dX8_block_126 ?_
        exact mpx_k hg ⟨by rw [show L - (L - ln) = ln by omega]; unfold blkF; rw [if_neg hs50_0, if_neg hs50_1, if_neg hs50_2, Int.toNat_natCast], hMS⟩
      ·
        refine q_iconst dX8_block_33 ?_
        refine q_ireturn dX8_block_34 ?_
        exact mpx_g (zbn h30)
set_option maxHeartbeats 2000000 in
theorem o_lowest (hM : MI M) (hL : M 37 2 = (L : Int)) (hk : zR k) : qCt mX8_lowest 0 9 [.ref 37, .int (zI k)] M (mpx (gG M k) (fun z M' => lowP (scl M k) L z ∧ MS (qup M 37 0 0) M') M) := by
  have hL4 : L ≤ 4 := by have := hM.2.1; omega
  refine q_intro (own := 8) (L := [some (.ref 37), some (.int (zI k)), none]) md_X8_lowest rfl rfl rfl (Nat.le_of_ble_eq_true rfl) (fun X => ?_)
  refine q_aload_n dX8_lowest_0 rfl ?_
  refine q_iload_n dX8_lowest_1 rfl ?_
  refine q_V1 dX8_lowest_2 ml_8_292 md_X8_noMap (m_noMap hM.1 hM.2.2.2.1 hk) rfl rfl rfl (by first | decide | omega) (Nat.le_of_ble_eq_true rfl) (Nat.le_of_ble_eq_true rfl) (qk_e ?_)
  refine q_if_eq (tgt := 10) dX8_lowest_5 rfl (by exact zb_R _) (fun h5 => ?_) (fun h5 => ?_)
  ·
    have hg := zbz h5
    have hgk := gG_0 hM hg
    rw [hg]
    refine q_aload_n dX8_lowest_10 rfl ?_
    refine q_iload_n dX8_lowest_11 rfl ?_
    refine q_V1 dX8_lowest_12 ml_8_286 md_X8_fetchesTree (m_fetchesTree hM hL (by omega)) rfl rfl rfl (by first | decide | omega) (Nat.le_of_ble_eq_true rfl) (Nat.le_of_ble_eq_true rfl) (qk_h (fun N12 hq12 => ?_))
    obtain ⟨Tq, Kq, Fq, Sq, rfl, hm⟩ := hq12
    have hMS : MS (qup M 37 0 0) (mtw (fW M 0 L k) Tq Kq Fq Sq (tsz (scl M k) L 0)) := MS_tr (fW_MS M 0 L k) (mtw_MS _ _ _ _ _ _)
    refine q_iconst dX8_lowest_15 ?_
    refine q_istore_n dX8_lowest_16 (Nat.le_of_ble_eq_true rfl) rfl ?_
    refine q_lp (fun l : Nat => L + 1 - l) (fun l => l ≤ L ∧ ∀ j : Nat, j < l → ∀ x, 0 ≤ x → x < p4 ((L : Int) - j) → sr (scl M k) L 0 (L - j) x = -1) (fun l => [some (.ref 37), some (.int (zI k)), some (.int (zI (l : Int)))]) (fun _ => mtw (fW M 0 L k) Tq Kq Fq Sq (tsz (scl M k) L 0)) 0 rfl rfl ⟨by omega, fun j hj => by omega⟩ (fun l hl ih => ?_)
    have hpl := p4_in ((L : Int) - l)
    have h00 := zsum_00 (f := fun x => zb (sr (scl M k) L 0 (L - l) x ≠ -1)) (a := 0) (n := (p4 ((L : Int) - l)).toNat) (fun i _ _ => by have := zb_01 (sr (scl M k) L 0 (L - l) i ≠ -1); omega)
    have hin := zsum_in (f := fun x => zb (sr (scl M k) L 0 (L - l) x ≠ -1)) (a := 0) (B := 1) (n := (p4 ((L : Int) - l)).toNat) (fun i _ _ => by have := zb_01 (sr (scl M k) L 0 (L - l) i ≠ -1); omega)
    refine q_aload_n dX8_lowest_17 rfl ?_
    refine q_iload_n dX8_lowest_18 rfl ?_
    refine q_V1 dX8_lowest_19 ml_8_326 md_X8_toldIn (m_toldIn (l := l) fW_9 hL4 hl.1 hm) rfl rfl rfl (by first | decide | omega) (Nat.le_of_ble_eq_true rfl) (Nat.le_of_ble_eq_true rfl) (qk_e ?_)
    refine q_if_ne (tgt := 31) dX8_lowest_22 rfl (by (first | (unfold zR; omega) | (unfold zLR; omega) | omega | (simp only [zR, qup] at *; omega) | (simp [zR, qup]; omega) | (simp [zR, qup]; done))) (fun h22 => ?_) (fun h22 => ?_)
    ·
      refine q_iload_n dX8_lowest_31 rfl ?_
      refine q_ireturn dX8_lowest_32 ?_
      refine mpx_k hg ⟨⟨l, rfl, hl.1, ?_, hl.2⟩, hMS⟩
      apply Classical.byContradiction
      intro w
      exact h22 (h00.2 (fun i i0 i1 => zb_f (fun w2 => w ⟨i, i0, by omega, w2⟩)))
    ·
      refine q_iinc dX8_lowest_25 rfl (Nat.le_of_ble_eq_true rfl) rfl ?_
      refine q_goto (tgt := 17) dX8_lowest_28 rfl ?_
      have hno : ∀ x, 0 ≤ x → x < p4 ((L : Int) - l) → sr (scl M k) L 0 (L - l) x = -1 := fun x x0 x1 => Classical.byContradiction (fun w => zb_0.1 (h00.1 (by omega) x x0 (by omega)) w)
      have hlt : l < L := by
        apply Classical.byContradiction
        intro w
        have hlL : l = L := by omega
        have := hno 0 (Int.le_refl 0) (by omega)
        rw [hlL, Nat.sub_self, sr_0] at this
        omega
      exact ih (l + 1) _ _ ⟨by omega, fun j hj => by
        by_cases e : j = l
        · subst e; exact hno
        · exact hl.2 j (by omega)⟩ (by omega) rfl rfl
  ·
    refine q_iconst dX8_lowest_8 ?_
    refine q_ireturn dX8_lowest_9 ?_
    exact mpx_g (zbn h5)
set_option maxHeartbeats 1000000 in
theorem m_joined (hq : 0 ≤ q ∧ q ≤ 3) : qCt mX8_joined 0 0 [.int (zI q), .int (zI a), .int (zI b)] M (qpe (mgF q a b) M) := by
  refine q_intro (own := 8) (L := [some (.int (zI q)), some (.int (zI a)), some (.int (zI b))]) md_X8_joined rfl rfl rfl (Nat.le_of_ble_eq_true rfl) (fun X => ?_)
  refine q_iload_n dX8_joined_0 rfl ?_
  by_cases hs1_0 : q = 0
  ·
    refine q_tableIn (tgt := 28) dX8_joined_1 (by (first | (unfold zR; omega) | (unfold zLR; omega) | omega | (simp only [zR, qup] at *; omega) | (simp [zR, qup]; omega) | (simp [zR, qup]; done))) (by omega) (by omega) (by rw [hs1_0]; rfl) rfl ?_
    refine q_iload_n dX8_joined_28 rfl ?_
    refine q_iload_n dX8_joined_29 rfl ?_
    refine q_ior dX8_joined_30 ?_
    refine q_ireturn dX8_joined_31 ?_
    exact ⟨by unfold mgF; rw [if_pos hs1_0], rfl⟩
  by_cases hs1_1 : q = 1
  ·
    refine q_tableIn (tgt := 32) dX8_joined_1 (by (first | (unfold zR; omega) | (unfold zLR; omega) | omega | (simp only [zR, qup] at *; omega) | (simp [zR, qup]; omega) | (simp [zR, qup]; done))) (by omega) (by omega) (by rw [hs1_1]; rfl) rfl ?_
    refine q_iload_n dX8_joined_32 rfl ?_
    refine q_iload_n dX8_joined_33 rfl ?_
    refine q_iand dX8_joined_34 ?_
    refine q_ireturn dX8_joined_35 ?_
    exact ⟨by unfold mgF; rw [if_neg hs1_0, if_pos hs1_1], rfl⟩
  by_cases hs1_2 : q = 2
  ·
    refine q_tableIn (tgt := 36) dX8_joined_1 (by (first | (unfold zR; omega) | (unfold zLR; omega) | omega | (simp only [zR, qup] at *; omega) | (simp [zR, qup]; omega) | (simp [zR, qup]; done))) (by omega) (by omega) (by rw [hs1_2]; rfl) rfl ?_
    refine q_iload_n dX8_joined_36 rfl ?_
    refine q_iload_n dX8_joined_37 rfl ?_
    refine q_iconst dX8_joined_38 ?_
    refine q_ixor dX8_joined_39 ?_
    refine q_iand dX8_joined_40 ?_
    refine q_ireturn dX8_joined_41 ?_
    exact ⟨by unfold mgF; rw [if_neg hs1_0, if_neg hs1_1, if_pos hs1_2], rfl⟩
  refine q_tableOut (tgt := 42) dX8_joined_1 (by (first | (unfold zR; omega) | (unfold zLR; omega) | omega | (simp only [zR, qup] at *; omega) | (simp [zR, qup]; omega) | (simp [zR, qup]; done))) (by omega) rfl ?_
  refine q_iload_n dX8_joined_42 rfl ?_
  refine q_iload_n dX8_joined_43 rfl ?_
  refine q_ixor dX8_joined_44 ?_
  refine q_ireturn dX8_joined_45 ?_
  exact ⟨by unfold mgF; rw [if_neg hs1_0, if_neg hs1_1, if_neg hs1_2], rfl⟩
end MX


/-! The model: combined, alike. -/
section MZ
variable {M N : qM} {L l : Nat} {c T K F S : Int → Int} {k o x y a b v p q f t n g i : Int}
/-- the row at hand is two maps combined -/
def cW (M : qM) (g : Int) (L : Nat) (q k o : Int) : qM := rowW (qup (qup M 37 0 g) 37 9 (L : Int)) (fun i => mgF q (scl M k i) (scl M o i)) (p4 L)
theorem cW_9 : cW M g L q k o 37 9 = (L : Int) := by
  unfold cW rowW
  rw [if_neg (fun w => by have := w.1; omega), qup_s]
theorem cW_42 (h : 0 ≤ i ∧ i < p4 L) : cW M g L q k o 42 i = mgF q (scl M k i) (scl M o i) := by
  unfold cW rowW
  rw [if_pos ⟨rfl, h⟩]
theorem cW_MS : MS (qup M 37 0 g) (cW M g L q k o) := by
  refine ⟨fun u h37 h42 _ _ _ _ _ _ _ => ?_, fun j hj => ?_⟩
  · funext i
    unfold cW rowW
    rw [if_neg (fun w => h42 w.1), qup_o _ _ _ _ h37]
  · unfold cW rowW
    rw [if_neg (fun w => by have := w.1; omega), qup_k _ _ _ (by omega)]
set_option maxHeartbeats 2000000 in
theorem m_combines (hM : MI M) (hL : M 37 2 = (L : Int)) (hq : 0 ≤ q ∧ q ≤ 3) (hk : 0 ≤ k ∧ k < 6) (ho : 0 ≤ o ∧ o < 6) : qCt mX8_combines 0 1 [.ref 37, .int (zI q), .int (zI k), .int (zI o)] (qup M 37 0 g) (qpv (cW M g L q k o)) := by
  have hL4 : L ≤ 4 := by have := hM.2.1; omega
  have hpin := p4_in (L : Int)
  refine q_intro (own := 8) (L := [some (.ref 37), some (.int (zI q)), some (.int (zI k)), some (.int (zI o)), none]) md_X8_combines rfl rfl rfl (Nat.le_of_ble_eq_true rfl) (fun X => ?_)
  refine q_aload_n dX8_combines_0 rfl ?_
  refine q_aload_n dX8_combines_1 rfl ?_
  refine q_geti (j := 2) dX8_combines_2 fl_8_114 rfl rfl rfl ?_
  rw [show qup M 37 0 g 37 2 = (L : Int) by rw [qup_k _ _ _ (by decide)]; exact hL]
  refine q_puti (j := 9) dX8_combines_5 fl_8_83 rfl rfl rfl rfl rfl ?_
  refine q_iconst dX8_combines_8 ?_
  refine q_istore dX8_combines_9 (Nat.le_of_ble_eq_true rfl) rfl ?_
  refine q_lp (fun i : Int => (p4 L - i).toNat) (fun i => 0 ≤ i ∧ i ≤ p4 L) (fun i => [some (.ref 37), some (.int (zI q)), some (.int (zI k)), some (.int (zI o)), some (.int (zI i))]) (fun i => rowW (qup (qup M 37 0 g) 37 9 (L : Int)) (fun i => mgF q (scl M k i) (scl M o i)) i) 0 rfl (by funext u j; unfold rowW; rw [if_neg (by omega)]) ⟨by omega, by omega⟩ (fun i hi ih => ?_)
  have hsc : ∀ r, scl (rowW (qup (qup M 37 0 g) 37 9 (L : Int)) (fun i => mgF q (scl M k i) (scl M o i)) i) r = scl M r := fun r => by
    funext j
    unfold scl rowW
    rw [if_neg (fun w => by have := w.1; omega), qup_o _ _ _ _ (by decide), qup_o _ _ _ _ (by decide)]
  refine q_iload dX8_combines_11 rfl ?_
  refine q_aload_n dX8_combines_13 rfl ?_
  refine q_V0 dX8_combines_14 ml_8_86 md_X8_bytesOfMap (m_bytesOfMap (by unfold rowW; rw [if_neg (by omega), qup_s]) hL4) rfl rfl rfl (by first | decide | omega) (Nat.le_of_ble_eq_true rfl) (Nat.le_of_ble_eq_true rfl) (qk_e ?_)
  refine q_icmp_ge (tgt := 51) dX8_combines_17 rfl (by (first | (unfold zR; omega) | (unfold zLR; omega) | omega | (simp only [zR, qup] at *; omega) | (simp [zR, qup]; omega) | (simp [zR, qup]; done))) (by (first | (unfold zR; omega) | (unfold zLR; omega) | omega | (simp only [zR, qup] at *; omega) | (simp [zR, qup]; omega) | (simp [zR, qup]; done))) (fun h17 => ?_) (fun h17 => ?_)
  rotate_left
  ·
    refine q_aload_n dX8_combines_20 rfl ?_
    refine q_getr dX8_combines_21 fl_8_23 rfl rfl ?_
    refine q_iload dX8_combines_24 rfl ?_
    refine q_iload_n dX8_combines_26 rfl ?_
    refine q_aload_n dX8_combines_27 rfl ?_
    refine q_iload_n dX8_combines_28 rfl ?_
    refine q_iload dX8_combines_29 rfl ?_
    refine q_V2 dX8_combines_31 ml_8_344 md_X8_byteOf (m_byteOf hk (by omega)) rfl rfl rfl (by first | decide | omega) (Nat.le_of_ble_eq_true rfl) (Nat.le_of_ble_eq_true rfl) (qk_e ?_)
    refine q_aload_n dX8_combines_34 rfl ?_
    refine q_iload_n dX8_combines_35 rfl ?_
    refine q_iload dX8_combines_36 rfl ?_
    refine q_V2 dX8_combines_38 ml_8_344 md_X8_byteOf (m_byteOf ho (by omega)) rfl rfl rfl (by first | decide | omega) (Nat.le_of_ble_eq_true rfl) (Nat.le_of_ble_eq_true rfl) (qk_e ?_)
    refine q_S3 dX8_combines_41 ml_8_353 md_X8_joined (m_joined hq) rfl (by first | decide | omega) (Nat.le_of_ble_eq_true rfl) (Nat.le_of_ble_eq_true rfl) (qk_e ?_)
    rw [hsc, hsc]
    refine q_iast dX8_combines_44 rfl (by (first | (unfold zR; omega) | (unfold zLR; omega) | omega | (simp only [zR, qup] at *; omega) | (simp [zR, qup]; omega) | (simp [zR, qup]; done))) (Nat.le_of_ble_eq_true rfl) ?_
    refine q_iinc dX8_combines_45 rfl (Nat.le_of_ble_eq_true rfl) rfl ?_
    refine q_goto (tgt := 11) dX8_combines_48 rfl ?_
    exact ih (i + 1) _ _ ⟨by omega, by omega⟩ (by omega) rfl (by
      funext u j
      by_cases g : u = 42
      · subst g
        by_cases g2 : j = i
        · subst g2; rw [qup_s]; unfold rowW; rw [if_pos ⟨rfl, by omega, by omega⟩]
        · rw [qup_k _ _ _ g2]; unfold rowW
          by_cases g3 : 0 ≤ j ∧ j < i
          · rw [if_pos ⟨rfl, g3⟩, if_pos ⟨rfl, g3.1, by omega⟩]
          · rw [if_neg (fun w => g3 w.2), if_neg (by omega)]
      · rw [qup_o _ _ _ _ g]; unfold rowW; rw [if_neg (fun w => g w.1), if_neg (fun w => g w.1)])
  refine q_return dX8_combines_51 ?_
  exact ⟨rfl, by rw [show i = p4 L by omega]; rfl⟩
set_option maxHeartbeats 2000000 in
theorem o_combined (hM : MI M) (hL : M 37 2 = (L : Int)) (hk : zR k) (ho : zR o) (hq : zR q) : qCt mX8_combined 0 8 [.ref 37, .int (zI q), .int (zI k), .int (zI o)] M (mpx (gor (gor (gG M k) (mMp M o)) (gKind q)) (fun z M' => z = tsz (fun i => mgF q (scl M k i) (scl M o i)) L 0 ∧ MS (qup M 37 0 0) M') M) := by
  have hL4 : L ≤ 4 := by have := hM.2.1; omega
  have hpin := p4_in (L : Int)
  have z01 := zb_01 (0 ≤ q ∧ q ≤ 3)
  refine q_intro (own := 8) (L := [some (.ref 37), some (.int (zI q)), some (.int (zI k)), some (.int (zI o))]) md_X8_combined rfl rfl rfl (Nat.le_of_ble_eq_true rfl) (fun X => ?_)
  refine q_aload_n dX8_combined_0 rfl ?_
  refine q_iload_n dX8_combined_1 rfl ?_
  refine q_iload_n dX8_combined_2 rfl ?_
  refine q_V2 dX8_combined_3 ml_8_341 md_X8_noPair (m_noPair hM hk ho) rfl rfl rfl (by first | decide | omega) (Nat.le_of_ble_eq_true rfl) (Nat.le_of_ble_eq_true rfl) (qk_e ?_)
  refine q_if_ne (tgt := 31) dX8_combined_6 rfl (by exact zb_R _) (fun h6 => ?_) (fun h6 => ?_)
  ·
    refine q_iconst dX8_combined_31 ?_
    refine q_ireturn dX8_combined_32 ?_
    exact mpx_g2 (zbn h6)
  ·
    refine q_aload_n dX8_combined_9 rfl ?_
    refine q_iload_n dX8_combined_10 rfl ?_
    refine q_iconst dX8_combined_11 ?_
    refine q_iconst dX8_combined_12 ?_
    refine q_S3 dX8_combined_13 ml_8_71 md_X8_in (m_in hq (by (first | (unfold zR; omega) | (unfold zLR; omega) | omega | (simp only [zR, qup] at *; omega) | (simp [zR, qup]; omega) | (simp [zR, qup]; done))) (by (first | (unfold zR; omega) | (unfold zLR; omega) | omega | (simp only [zR, qup] at *; omega) | (simp [zR, qup]; omega) | (simp [zR, qup]; done)))) rfl (by first | decide | omega) (Nat.le_of_ble_eq_true rfl) (Nat.le_of_ble_eq_true rfl) (qk_e ?_)
    refine q_if_ne (tgt := 23) dX8_combined_16 rfl (by exact zb_R _) (fun h16 => ?_) (fun h16 => ?_)
    ·
      refine q_iconst dX8_combined_23 ?_
      refine q_iconst dX8_combined_24 ?_
      have hgb : (if (0 : Int) = 1 then (3 : Int) else 0) = gKind q := (if_pos (zb_1.1 (by omega))).symm
      refine q_V2 dX8_combined_25 ml_8_64 md_X8_refuse (m_refH (by omega) (gor_R (gor_R (mT_R M) mMp_R) mMp_R) (by (first | (unfold zR; omega) | (unfold zLR; omega) | omega | (simp only [zR, qup] at *; omega) | (simp [zR, qup]; omega) | (simp [zR, qup]; done))) hgb) rfl rfl rfl (by first | decide | omega) (Nat.le_of_ble_eq_true rfl) (Nat.le_of_ble_eq_true rfl) (qk_e ?_)
      refine q_if_eq (tgt := 33) dX8_combined_28 rfl (by exact zb_R _) (fun h28 => ?_) (fun h28 => ?_)
      ·
        have hg := zbz h28
        have hg1 := gor_00.1 hg
        have hg2 := gor_00.1 hg1.1
        have hgk := gG_0 hM hg2.1
        have hgo := mMp_0 hM hg2.2
        have hkd := gKind_0.1 hg1.2
        have he : cE (cW M 0 L q k o 42) (fun i => mgF q (scl M k i) (scl M o i)) L := fun i i0 i1 => cW_42 ⟨i0, i1⟩
        rw [hg]
        refine q_aload_n dX8_combined_33 rfl ?_
        refine q_iload_n dX8_combined_34 rfl ?_
        refine q_iload_n dX8_combined_35 rfl ?_
        refine q_iload_n dX8_combined_36 rfl ?_
        refine q_V3 dX8_combined_37 ml_8_357 md_X8_combines (m_combines hM hL (by omega) (by omega) (by omega)) rfl rfl rfl (by first | decide | omega) (Nat.le_of_ble_eq_true rfl) (Nat.le_of_ble_eq_true rfl) (qk_v ?_)
        refine q_aload_n dX8_combined_40 rfl ?_
        refine q_V0 dX8_combined_41 ml_8_121 md_X8_laysTree (m_laysTree hL4 cW_9 (fun _ => rfl) (fun i i0 i1 => by rw [cW_42 ⟨i0, i1⟩]; exact mgF_in (scl_b hM (by omega) (by omega)) (scl_b hM (by omega) (by omega)))) rfl rfl rfl (by first | decide | omega) (Nat.le_of_ble_eq_true rfl) (Nat.le_of_ble_eq_true rfl) (qk_h (fun N41 hq41 => ?_))
        obtain ⟨Tq, Kq, Fq, Sq, rfl, hm⟩ := hq41
        refine q_aload_n dX8_combined_44 rfl ?_
        refine q_geti (j := 12) dX8_combined_45 fl_8_101 rfl rfl rfl ?_
        rw [mtw_12]
        refine q_ireturn dX8_combined_48 ?_
        exact mpx_k hg ⟨tsz_e hL4 he (Nat.le_refl L) ⟨Int.le_refl 0, by rw [show (L : Int) - L = 0 by omega]; decide⟩, MS_tr cW_MS (mtw_MS _ _ _ _ _ _)⟩
      ·
        refine q_iconst dX8_combined_31 ?_
        refine q_ireturn dX8_combined_32 ?_
        exact mpx_g (zbn h28)
    ·
      refine q_iconst dX8_combined_19 ?_
      refine q_goto (tgt := 24) dX8_combined_20 rfl ?_
      refine q_iconst dX8_combined_24 ?_
      have hgb : (if (1 : Int) = 1 then (3 : Int) else 0) = gKind q := (if_neg (zb_0.1 (by omega))).symm
      refine q_V2 dX8_combined_25 ml_8_64 md_X8_refuse (m_refH (by omega) (gor_R (gor_R (mT_R M) mMp_R) mMp_R) (by (first | (unfold zR; omega) | (unfold zLR; omega) | omega | (simp only [zR, qup] at *; omega) | (simp [zR, qup]; omega) | (simp [zR, qup]; done))) hgb) rfl rfl rfl (by first | decide | omega) (Nat.le_of_ble_eq_true rfl) (Nat.le_of_ble_eq_true rfl) (qk_e ?_)
      refine q_if_eq (tgt := 33) dX8_combined_28 rfl (by exact zb_R _) (fun h28 => ?_) (fun h28 => ?_)
      ·
        have hg := zbz h28
        have hg1 := gor_00.1 hg
        have hg2 := gor_00.1 hg1.1
        have hgk := gG_0 hM hg2.1
        have hgo := mMp_0 hM hg2.2
        have hkd := gKind_0.1 hg1.2
        have he : cE (cW M 0 L q k o 42) (fun i => mgF q (scl M k i) (scl M o i)) L := fun i i0 i1 => cW_42 ⟨i0, i1⟩
        rw [hg]
        refine q_aload_n dX8_combined_33 rfl ?_
        refine q_iload_n dX8_combined_34 rfl ?_
        refine q_iload_n dX8_combined_35 rfl ?_
        refine q_iload_n dX8_combined_36 rfl ?_
        refine q_V3 dX8_combined_37 ml_8_357 md_X8_combines (m_combines hM hL (by omega) (by omega) (by omega)) rfl rfl rfl (by first | decide | omega) (Nat.le_of_ble_eq_true rfl) (Nat.le_of_ble_eq_true rfl) (qk_v ?_)
        refine q_aload_n dX8_combined_40 rfl ?_
        refine q_V0 dX8_combined_41 ml_8_121 md_X8_laysTree (m_laysTree hL4 cW_9 (fun _ => rfl) (fun i i0 i1 => by rw [cW_42 ⟨i0, i1⟩]; exact mgF_in (scl_b hM (by omega) (by omega)) (scl_b hM (by omega) (by omega)))) rfl rfl rfl (by first | decide | omega) (Nat.le_of_ble_eq_true rfl) (Nat.le_of_ble_eq_true rfl) (qk_h (fun N41 hq41 => ?_))
        obtain ⟨Tq, Kq, Fq, Sq, rfl, hm⟩ := hq41
        refine q_aload_n dX8_combined_44 rfl ?_
        refine q_geti (j := 12) dX8_combined_45 fl_8_101 rfl rfl rfl ?_
        rw [mtw_12]
        refine q_ireturn dX8_combined_48 ?_
        exact mpx_k hg ⟨tsz_e hL4 he (Nat.le_refl L) ⟨Int.le_refl 0, by rw [show (L : Int) - L = 0 by omega]; decide⟩, MS_tr cW_MS (mtw_MS _ _ _ _ _ _)⟩
      ·
        refine q_iconst dX8_combined_31 ?_
        refine q_ireturn dX8_combined_32 ?_
        exact mpx_g (zbn h28)
end MZ


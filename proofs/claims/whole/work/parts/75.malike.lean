/-! The model: alike, biggest. -/
section NA
variable {M N : qM} {L l : Nat} {c T K F S : Int → Int} {k o x y a b v p q f t n g i : Int}
def mLv (M : qM) (x : Int) : Int := if 0 ≤ x ∧ x ≤ M 37 2 then 0 else 2
set_option maxHeartbeats 4000000 in
theorem o_alike (hM : MI M) (hL : M 37 2 = (L : Int)) (hk : zR k) (ho : zR o) (hy : zR y) : qCt mX8_alike 0 4 [.ref 37, .int (zI k), .int (zI o), .int (zI y)] M (mpx (gor (gor (gG M k) (mMp M o)) (mLv M y)) (fun z M' => z = zsum (fun x => zb (∀ j, 0 ≤ j → j < p4 y → scl M k (p4 y * x + j) = scl M o (p4 y * x + j))) 0 (p4 ((L : Int) - y)).toNat ∧ MS (qup M 37 0 0) M') M) := by
  have hL4 : L ≤ 4 := by have := hM.2.1; omega
  have hpin := p4_in (L : Int)
  have e2 : ∀ g, qup M 37 0 g 37 2 = M 37 2 := fun g => by simp [qup]
  have z01 := zb_01 (0 ≤ y ∧ y ≤ M 37 2)
  have hm2 := hM.2.1
  refine q_intro (own := 8) (L := [some (.ref 37), some (.int (zI k)), some (.int (zI o)), some (.int (zI y)), none, none, none, none]) md_X8_alike rfl rfl rfl (Nat.le_of_ble_eq_true rfl) (fun X => ?_)
  refine q_aload_n dX8_alike_0 rfl ?_
  refine q_iload_n dX8_alike_1 rfl ?_
  refine q_iload_n dX8_alike_2 rfl ?_
  refine q_V2 dX8_alike_3 ml_8_341 md_X8_noPair (m_noPair hM hk ho) rfl rfl rfl (by first | decide | omega) (Nat.le_of_ble_eq_true rfl) (Nat.le_of_ble_eq_true rfl) (qk_e ?_)
  refine q_if_ne (tgt := 34) dX8_alike_6 rfl (by exact zb_R _) (fun h6 => ?_) (fun h6 => ?_)
  ·
    refine q_iconst dX8_alike_34 ?_
    refine q_ireturn dX8_alike_35 ?_
    exact mpx_g2 (zbn h6)
  ·
    refine q_aload_n dX8_alike_9 rfl ?_
    refine q_iload_n dX8_alike_10 rfl ?_
    refine q_iconst dX8_alike_11 ?_
    refine q_aload_n dX8_alike_12 rfl ?_
    refine q_geti (j := 2) dX8_alike_13 fl_8_114 rfl rfl rfl ?_
    rw [e2]
    refine q_S3 dX8_alike_16 ml_8_71 md_X8_in (m_in hy (by (first | (unfold zR; omega) | (unfold zLR; omega) | omega | (simp only [zR, qup] at *; omega) | (simp [zR, qup]; omega) | (simp [zR, qup]; done))) (by (first | (unfold zR; omega) | (unfold zLR; omega) | omega | (simp only [zR, qup] at *; omega) | (simp [zR, qup]; omega) | (simp [zR, qup]; done)))) rfl (by first | decide | omega) (Nat.le_of_ble_eq_true rfl) (Nat.le_of_ble_eq_true rfl) (qk_e ?_)
    refine q_if_ne (tgt := 26) dX8_alike_19 rfl (by exact zb_R _) (fun h19 => ?_) (fun h19 => ?_)
    ·
      refine q_iconst dX8_alike_26 ?_
      refine q_iconst dX8_alike_27 ?_
      have hgb : (if (0 : Int) = 1 then (2 : Int) else 0) = mLv M y := (if_pos (zb_1.1 (by omega))).symm
      refine q_V2 dX8_alike_28 ml_8_64 md_X8_refuse (m_refH (by omega) (gor_R (gor_R (mT_R M) mMp_R) mMp_R) (by (first | (unfold zR; omega) | (unfold zLR; omega) | omega | (simp only [zR, qup] at *; omega) | (simp [zR, qup]; omega) | (simp [zR, qup]; done))) hgb) rfl rfl rfl (by first | decide | omega) (Nat.le_of_ble_eq_true rfl) (Nat.le_of_ble_eq_true rfl) (qk_e ?_)
      refine q_if_eq (tgt := 36) dX8_alike_31 rfl (by exact zb_R _) (fun h31 => ?_) (fun h31 => ?_)
      ·
        have hg := zbz h31
        have hg1 := gor_00.1 hg
        have hg2 := gor_00.1 hg1.1
        have hgk := gG_0 hM hg2.1
        have hgo := mMp_0 hM hg2.2
        have hyl : 0 ≤ y ∧ y ≤ (L : Int) := by
          have := hg1.2
          unfold mLv at this
          rw [hL] at this
          exact Classical.byContradiction fun w => by rw [if_neg w] at this; omega
        have hpy := p4_in y
        have hpd := p4_in ((L : Int) - y)
        rw [hg]
        refine q_iconst dX8_alike_36 ?_
        refine q_istore dX8_alike_37 (Nat.le_of_ble_eq_true rfl) rfl ?_
        refine q_iconst dX8_alike_39 ?_
        refine q_istore dX8_alike_40 (Nat.le_of_ble_eq_true rfl) rfl ?_
        refine q_lp (fun x : Int => (p4 ((L : Int) - y) - x).toNat) (fun x => 0 ≤ x ∧ x ≤ p4 ((L : Int) - y)) (fun x => [some (.ref 37), some (.int (zI k)), some (.int (zI o)), some (.int (zI y)), some (.int (zI (zsum (fun x => zb (∀ j, 0 ≤ j → j < p4 y → scl M k (p4 y * x + j) = scl M o (p4 y * x + j))) 0 x.toNat))), some (.int (zI x)), none, none]) (fun _ => qup M 37 0 0) 0 rfl rfl ⟨by omega, by omega⟩ (fun x hx ih => ?_)
        have hzs := zsum_s (fun x => zb (∀ j, 0 ≤ j → j < p4 y → scl M k (p4 y * x + j) = scl M o (p4 y * x + j))) hx.1
        refine q_iload dX8_alike_42 rfl ?_
        refine q_iconst dX8_alike_44 ?_
        refine q_iconst dX8_alike_45 ?_
        refine q_aload_n dX8_alike_46 rfl ?_
        refine q_geti (j := 2) dX8_alike_47 fl_8_114 rfl rfl rfl ?_
        rw [e2, hL]
        refine q_iload_n dX8_alike_50 rfl ?_
        refine q_isub dX8_alike_51 ?_
        refine q_imul dX8_alike_52 ?_
        refine q_ishl dX8_alike_53 ?_
        rw [p4_shl (by omega)]
        refine q_icmp_ge (tgt := 139) dX8_alike_54 rfl (by (first | (unfold zR; omega) | (unfold zLR; omega) | omega | (simp only [zR, qup] at *; omega) | (simp [zR, qup]; omega) | (simp [zR, qup]; done))) (by (first | (unfold zR; omega) | (unfold zLR; omega) | omega | (simp only [zR, qup] at *; omega) | (simp [zR, qup]; omega) | (simp [zR, qup]; done))) (fun h54 => ?_) (fun h54 => ?_)
        rotate_left
        ·
          have hbi := blk_in hL4 hyl ⟨hx.1, h54⟩
          refine q_iconst dX8_alike_57 ?_
          refine q_istore dX8_alike_58 (Nat.le_of_ble_eq_true rfl) rfl ?_
          refine q_iconst dX8_alike_60 ?_
          refine q_istore dX8_alike_61 (Nat.le_of_ble_eq_true rfl) rfl ?_
          refine q_lp (fun j : Int => (p4 y - j).toNat) (fun j => 0 ≤ j ∧ j ≤ p4 y) (fun j => [some (.ref 37), some (.int (zI k)), some (.int (zI o)), some (.int (zI y)), some (.int (zI (zsum (fun x => zb (∀ j, 0 ≤ j → j < p4 y → scl M k (p4 y * x + j) = scl M o (p4 y * x + j))) 0 x.toNat))), some (.int (zI x)), some (.int (zI (zb (∀ i, 0 ≤ i → i < j → scl M k (p4 y * x + i) = scl M o (p4 y * x + i))))), some (.int (zI j))]) (fun _ => qup M 37 0 0) 0 (by rw [zb_t (p := ∀ i, 0 ≤ i → i < 0 → scl M k (p4 y * x + i) = scl M o (p4 y * x + i)) (fun i h0 h1 => by omega)]; rfl) rfl ⟨by omega, by omega⟩ (fun j hj ih2 => ?_)
          have hz01 := zb_01 (∀ i, 0 ≤ i → i < j → scl M k (p4 y * x + i) = scl M o (p4 y * x + i))
          refine q_iload dX8_alike_63 rfl ?_
          refine q_iload_n dX8_alike_65 rfl ?_
          refine q_S1 dX8_alike_66 ml_8_94 md_X8_span (m_span (by omega)) rfl (by first | decide | omega) (Nat.le_of_ble_eq_true rfl) (Nat.le_of_ble_eq_true rfl) (qk_e ?_)
          refine q_icmp_ge (tgt := 123) dX8_alike_69 rfl (by (first | (unfold zR; omega) | (unfold zLR; omega) | omega | (simp only [zR, qup] at *; omega) | (simp [zR, qup]; omega) | (simp [zR, qup]; done))) (by (first | (unfold zR; omega) | (unfold zLR; omega) | omega | (simp only [zR, qup] at *; omega) | (simp [zR, qup]; omega) | (simp [zR, qup]; done))) (fun h69 => ?_) (fun h69 => ?_)
          rotate_left
          ·
            refine q_iload dX8_alike_72 rfl ?_
            refine q_if_eq (tgt := 114) dX8_alike_74 rfl (by exact zb_R _) (fun h74 => ?_) (fun h74 => ?_)
            ·
              refine q_iconst dX8_alike_114 ?_
              refine q_istore dX8_alike_115 (Nat.le_of_ble_eq_true rfl) rfl ?_
              refine q_iinc dX8_alike_117 rfl (Nat.le_of_ble_eq_true rfl) rfl ?_
              refine q_goto (tgt := 63) dX8_alike_120 rfl ?_
              exact ih2 (j + 1) _ _ ⟨by omega, by omega⟩ (by omega) (by rw [zb_f (p := ∀ i, 0 ≤ i → i < j + 1 → scl M k (p4 y * x + i) = scl M o (p4 y * x + i)) (fun w => zb_0.1 h74 (fun i i0 i1 => w i i0 (by omega)))]; rfl) rfl
            ·
              refine q_aload_n dX8_alike_77 rfl ?_
              refine q_iload_n dX8_alike_78 rfl ?_
              refine q_iload_n dX8_alike_79 rfl ?_
              refine q_S1 dX8_alike_80 ml_8_94 md_X8_span (m_span (by omega)) rfl (by first | decide | omega) (Nat.le_of_ble_eq_true rfl) (Nat.le_of_ble_eq_true rfl) (qk_e ?_)
              refine q_iload dX8_alike_83 rfl ?_
              refine q_imul dX8_alike_85 ?_
              refine q_iload dX8_alike_86 rfl ?_
              refine q_iadd dX8_alike_88 ?_
              refine q_V2 dX8_alike_89 ml_8_344 md_X8_byteOf (m_byteOf (by omega) (by omega)) rfl rfl rfl (by first | decide | omega) (Nat.le_of_ble_eq_true rfl) (Nat.le_of_ble_eq_true rfl) (qk_e ?_)
              refine q_aload_n dX8_alike_92 rfl ?_
              refine q_iload_n dX8_alike_93 rfl ?_
              refine q_iload_n dX8_alike_94 rfl ?_
              refine q_S1 dX8_alike_95 ml_8_94 md_X8_span (m_span (by omega)) rfl (by first | decide | omega) (Nat.le_of_ble_eq_true rfl) (Nat.le_of_ble_eq_true rfl) (qk_e ?_)
              refine q_iload dX8_alike_98 rfl ?_
              refine q_imul dX8_alike_100 ?_
              refine q_iload dX8_alike_101 rfl ?_
              refine q_iadd dX8_alike_103 ?_
              refine q_V2 dX8_alike_104 ml_8_344 md_X8_byteOf (m_byteOf (by omega) (by omega)) rfl rfl rfl (by first | decide | omega) (Nat.le_of_ble_eq_true rfl) (Nat.le_of_ble_eq_true rfl) (qk_e ?_)
              rw [scl_g, scl_g]
              have hb1 := scl_b hM (k := k) (i := p4 y * x + j) (by omega) (by omega)
              have hb2 := scl_b hM (k := o) (i := p4 y * x + j) (by omega) (by omega)
              refine q_icmp_ne (tgt := 114) dX8_alike_107 rfl (by (first | (unfold zR; omega) | (unfold zLR; omega) | omega | (simp only [zR, qup] at *; omega) | (simp [zR, qup]; omega) | (simp [zR, qup]; done))) (by (first | (unfold zR; omega) | (unfold zLR; omega) | omega | (simp only [zR, qup] at *; omega) | (simp [zR, qup]; omega) | (simp [zR, qup]; done))) (fun h107 => ?_) (fun h107 => ?_)
              ·
                refine q_iconst dX8_alike_114 ?_
                refine q_istore dX8_alike_115 (Nat.le_of_ble_eq_true rfl) rfl ?_
                refine q_iinc dX8_alike_117 rfl (Nat.le_of_ble_eq_true rfl) rfl ?_
                refine q_goto (tgt := 63) dX8_alike_120 rfl ?_
                exact ih2 (j + 1) _ _ ⟨by omega, by omega⟩ (by omega) (by rw [zb_f (p := ∀ i, 0 ≤ i → i < j + 1 → scl M k (p4 y * x + i) = scl M o (p4 y * x + i)) (fun w => h107 (w j hj.1 (by omega)))]; rfl) rfl
              ·
                refine q_iconst dX8_alike_110 ?_
                refine q_goto (tgt := 115) dX8_alike_111 rfl ?_
                refine q_istore dX8_alike_115 (Nat.le_of_ble_eq_true rfl) rfl ?_
                refine q_iinc dX8_alike_117 rfl (Nat.le_of_ble_eq_true rfl) rfl ?_
                refine q_goto (tgt := 63) dX8_alike_120 rfl ?_
                have hall : ∀ i, 0 ≤ i → i < j + 1 → scl M k (p4 y * x + i) = scl M o (p4 y * x + i) := fun i i0 i1 => by
                  by_cases e : i = j
                  · subst e; exact Classical.byContradiction (fun w => by omega)
                  · exact zbp h74 i i0 (by omega)
                exact ih2 (j + 1) _ _ ⟨by omega, by omega⟩ (by omega) (by rw [zb_t hall]; rfl) rfl
          refine q_iload dX8_alike_123 rfl ?_
          refine q_iload dX8_alike_125 rfl ?_
          refine q_S1 dX8_alike_127 ml_8_314 md_X8_flag (m_flag hz01) rfl (by first | decide | omega) (Nat.le_of_ble_eq_true rfl) (Nat.le_of_ble_eq_true rfl) (qk_e ?_)
          refine q_iadd dX8_alike_130 ?_
          refine q_istore dX8_alike_131 (Nat.le_of_ble_eq_true rfl) rfl ?_
          refine q_iinc dX8_alike_133 rfl (Nat.le_of_ble_eq_true rfl) rfl ?_
          refine q_goto (tgt := 42) dX8_alike_136 rfl ?_
          have hje : j = p4 y := by omega
          subst hje
          refine q_wk _ ?_ (ih (x + 1) _ _ ⟨by omega, by omega⟩ (by omega) rfl rfl)
          simp only [wkB, hzs]
          (repeat (first | exact rfl | exact trivial | refine ⟨rfl, ?_⟩))
        refine q_iload dX8_alike_139 rfl ?_
        refine q_ireturn dX8_alike_141 ?_
        exact mpx_k hg ⟨by rw [show x = p4 ((L : Int) - y) by omega], MS_rf _⟩
      ·
        refine q_iconst dX8_alike_34 ?_
        refine q_ireturn dX8_alike_35 ?_
        exact mpx_g (zbn h31)
    ·
      refine q_iconst dX8_alike_22 ?_
      refine q_goto (tgt := 27) dX8_alike_23 rfl ?_
      refine q_iconst dX8_alike_27 ?_
      have hgb : (if (1 : Int) = 1 then (2 : Int) else 0) = mLv M y := (if_neg (zb_0.1 (by omega))).symm
      refine q_V2 dX8_alike_28 ml_8_64 md_X8_refuse (m_refH (by omega) (gor_R (gor_R (mT_R M) mMp_R) mMp_R) (by (first | (unfold zR; omega) | (unfold zLR; omega) | omega | (simp only [zR, qup] at *; omega) | (simp [zR, qup]; omega) | (simp [zR, qup]; done))) hgb) rfl rfl rfl (by first | decide | omega) (Nat.le_of_ble_eq_true rfl) (Nat.le_of_ble_eq_true rfl) (qk_e ?_)
      refine q_if_eq (tgt := 36) dX8_alike_31 rfl (by exact zb_R _) (fun h31 => ?_) (fun h31 => ?_)
      ·
        have hg := zbz h31
        have hg1 := gor_00.1 hg
        have hg2 := gor_00.1 hg1.1
        have hgk := gG_0 hM hg2.1
        have hgo := mMp_0 hM hg2.2
        have hyl : 0 ≤ y ∧ y ≤ (L : Int) := by
          have := hg1.2
          unfold mLv at this
          rw [hL] at this
          exact Classical.byContradiction fun w => by rw [if_neg w] at this; omega
        have hpy := p4_in y
        have hpd := p4_in ((L : Int) - y)
        rw [hg]
        refine q_iconst dX8_alike_36 ?_
        refine q_istore dX8_alike_37 (Nat.le_of_ble_eq_true rfl) rfl ?_
        refine q_iconst dX8_alike_39 ?_
        refine q_istore dX8_alike_40 (Nat.le_of_ble_eq_true rfl) rfl ?_
        refine q_lp (fun x : Int => (p4 ((L : Int) - y) - x).toNat) (fun x => 0 ≤ x ∧ x ≤ p4 ((L : Int) - y)) (fun x => [some (.ref 37), some (.int (zI k)), some (.int (zI o)), some (.int (zI y)), some (.int (zI (zsum (fun x => zb (∀ j, 0 ≤ j → j < p4 y → scl M k (p4 y * x + j) = scl M o (p4 y * x + j))) 0 x.toNat))), some (.int (zI x)), none, none]) (fun _ => qup M 37 0 0) 0 rfl rfl ⟨by omega, by omega⟩ (fun x hx ih => ?_)
        have hzs := zsum_s (fun x => zb (∀ j, 0 ≤ j → j < p4 y → scl M k (p4 y * x + j) = scl M o (p4 y * x + j))) hx.1
        refine q_iload dX8_alike_42 rfl ?_
        refine q_iconst dX8_alike_44 ?_
        refine q_iconst dX8_alike_45 ?_
        refine q_aload_n dX8_alike_46 rfl ?_
        refine q_geti (j := 2) dX8_alike_47 fl_8_114 rfl rfl rfl ?_
        rw [e2, hL]
        refine q_iload_n dX8_alike_50 rfl ?_
        refine q_isub dX8_alike_51 ?_
        refine q_imul dX8_alike_52 ?_
        refine q_ishl dX8_alike_53 ?_
        rw [p4_shl (by omega)]
        refine q_icmp_ge (tgt := 139) dX8_alike_54 rfl (by (first | (unfold zR; omega) | (unfold zLR; omega) | omega | (simp only [zR, qup] at *; omega) | (simp [zR, qup]; omega) | (simp [zR, qup]; done))) (by (first | (unfold zR; omega) | (unfold zLR; omega) | omega | (simp only [zR, qup] at *; omega) | (simp [zR, qup]; omega) | (simp [zR, qup]; done))) (fun h54 => ?_) (fun h54 => ?_)
        rotate_left
        ·
          have hbi := blk_in hL4 hyl ⟨hx.1, h54⟩
          refine q_iconst dX8_alike_57 ?_
          refine q_istore dX8_alike_58 (Nat.le_of_ble_eq_true rfl) rfl ?_
          refine q_iconst dX8_alike_60 ?_
          refine q_istore dX8_alike_61 (Nat.le_of_ble_eq_true rfl) rfl ?_
          refine q_lp (fun j : Int => (p4 y - j).toNat) (fun j => 0 ≤ j ∧ j ≤ p4 y) (fun j => [some (.ref 37), some (.int (zI k)), some (.int (zI o)), some (.int (zI y)), some (.int (zI (zsum (fun x => zb (∀ j, 0 ≤ j → j < p4 y → scl M k (p4 y * x + j) = scl M o (p4 y * x + j))) 0 x.toNat))), some (.int (zI x)), some (.int (zI (zb (∀ i, 0 ≤ i → i < j → scl M k (p4 y * x + i) = scl M o (p4 y * x + i))))), some (.int (zI j))]) (fun _ => qup M 37 0 0) 0 (by rw [zb_t (p := ∀ i, 0 ≤ i → i < 0 → scl M k (p4 y * x + i) = scl M o (p4 y * x + i)) (fun i h0 h1 => by omega)]; rfl) rfl ⟨by omega, by omega⟩ (fun j hj ih2 => ?_)
          have hz01 := zb_01 (∀ i, 0 ≤ i → i < j → scl M k (p4 y * x + i) = scl M o (p4 y * x + i))
          refine q_iload dX8_alike_63 rfl ?_
          refine q_iload_n dX8_alike_65 rfl ?_
          refine q_S1 dX8_alike_66 ml_8_94 md_X8_span (m_span (by omega)) rfl (by first | decide | omega) (Nat.le_of_ble_eq_true rfl) (Nat.le_of_ble_eq_true rfl) (qk_e ?_)
          refine q_icmp_ge (tgt := 123) dX8_alike_69 rfl (by (first | (unfold zR; omega) | (unfold zLR; omega) | omega | (simp only [zR, qup] at *; omega) | (simp [zR, qup]; omega) | (simp [zR, qup]; done))) (by (first | (unfold zR; omega) | (unfold zLR; omega) | omega | (simp only [zR, qup] at *; omega) | (simp [zR, qup]; omega) | (simp [zR, qup]; done))) (fun h69 => ?_) (fun h69 => ?_)
          rotate_left
          ·
            refine q_iload dX8_alike_72 rfl ?_
            refine q_if_eq (tgt := 114) dX8_alike_74 rfl (by exact zb_R _) (fun h74 => ?_) (fun h74 => ?_)
            ·
              refine q_iconst dX8_alike_114 ?_
              refine q_istore dX8_alike_115 (Nat.le_of_ble_eq_true rfl) rfl ?_
              refine q_iinc dX8_alike_117 rfl (Nat.le_of_ble_eq_true rfl) rfl ?_
              refine q_goto (tgt := 63) dX8_alike_120 rfl ?_
              exact ih2 (j + 1) _ _ ⟨by omega, by omega⟩ (by omega) (by rw [zb_f (p := ∀ i, 0 ≤ i → i < j + 1 → scl M k (p4 y * x + i) = scl M o (p4 y * x + i)) (fun w => zb_0.1 h74 (fun i i0 i1 => w i i0 (by omega)))]; rfl) rfl
            ·
              refine q_aload_n dX8_alike_77 rfl ?_
              refine q_iload_n dX8_alike_78 rfl ?_
              refine q_iload_n dX8_alike_79 rfl ?_
              refine q_S1 dX8_alike_80 ml_8_94 md_X8_span (m_span (by omega)) rfl (by first | decide | omega) (Nat.le_of_ble_eq_true rfl) (Nat.le_of_ble_eq_true rfl) (qk_e ?_)
              refine q_iload dX8_alike_83 rfl ?_
              refine q_imul dX8_alike_85 ?_
              refine q_iload dX8_alike_86 rfl ?_
              refine q_iadd dX8_alike_88 ?_
              refine q_V2 dX8_alike_89 ml_8_344 md_X8_byteOf (m_byteOf (by omega) (by omega)) rfl rfl rfl (by first | decide | omega) (Nat.le_of_ble_eq_true rfl) (Nat.le_of_ble_eq_true rfl) (qk_e ?_)
              refine q_aload_n dX8_alike_92 rfl ?_
              refine q_iload_n dX8_alike_93 rfl ?_
              refine q_iload_n dX8_alike_94 rfl ?_
              refine q_S1 dX8_alike_95 ml_8_94 md_X8_span (m_span (by omega)) rfl (by first | decide | omega) (Nat.le_of_ble_eq_true rfl) (Nat.le_of_ble_eq_true rfl) (qk_e ?_)
              refine q_iload dX8_alike_98 rfl ?_
              refine q_imul dX8_alike_100 ?_
              refine q_iload dX8_alike_101 rfl ?_
              refine q_iadd dX8_alike_103 ?_
              refine q_V2 dX8_alike_104 ml_8_344 md_X8_byteOf (m_byteOf (by omega) (by omega)) rfl rfl rfl (by first | decide | omega) (Nat.le_of_ble_eq_true rfl) (Nat.le_of_ble_eq_true rfl) (qk_e ?_)
              rw [scl_g, scl_g]
              have hb1 := scl_b hM (k := k) (i := p4 y * x + j) (by omega) (by omega)
              have hb2 := scl_b hM (k := o) (i := p4 y * x + j) (by omega) (by omega)
              refine q_icmp_ne (tgt := 114) dX8_alike_107 rfl (by (first | (unfold zR; omega) | (unfold zLR; omega) | omega | (simp only [zR, qup] at *; omega) | (simp [zR, qup]; omega) | (simp [zR, qup]; done))) (by (first | (unfold zR; omega) | (unfold zLR; omega) | omega | (simp only [zR, qup] at *; omega) | (simp [zR, qup]; omega) | (simp [zR, qup]; done))) (fun h107 => ?_) (fun h107 => ?_)
              ·
                refine q_iconst dX8_alike_114 ?_
                refine q_istore dX8_alike_115 (Nat.le_of_ble_eq_true rfl) rfl ?_
                refine q_iinc dX8_alike_117 rfl (Nat.le_of_ble_eq_true rfl) rfl ?_
                refine q_goto (tgt := 63) dX8_alike_120 rfl ?_
                exact ih2 (j + 1) _ _ ⟨by omega, by omega⟩ (by omega) (by rw [zb_f (p := ∀ i, 0 ≤ i → i < j + 1 → scl M k (p4 y * x + i) = scl M o (p4 y * x + i)) (fun w => h107 (w j hj.1 (by omega)))]; rfl) rfl
              ·
                refine q_iconst dX8_alike_110 ?_
                refine q_goto (tgt := 115) dX8_alike_111 rfl ?_
                refine q_istore dX8_alike_115 (Nat.le_of_ble_eq_true rfl) rfl ?_
                refine q_iinc dX8_alike_117 rfl (Nat.le_of_ble_eq_true rfl) rfl ?_
                refine q_goto (tgt := 63) dX8_alike_120 rfl ?_
                have hall : ∀ i, 0 ≤ i → i < j + 1 → scl M k (p4 y * x + i) = scl M o (p4 y * x + i) := fun i i0 i1 => by
                  by_cases e : i = j
                  · subst e; exact Classical.byContradiction (fun w => by omega)
                  · exact zbp h74 i i0 (by omega)
                exact ih2 (j + 1) _ _ ⟨by omega, by omega⟩ (by omega) (by rw [zb_t hall]; rfl) rfl
          refine q_iload dX8_alike_123 rfl ?_
          refine q_iload dX8_alike_125 rfl ?_
          refine q_S1 dX8_alike_127 ml_8_314 md_X8_flag (m_flag hz01) rfl (by first | decide | omega) (Nat.le_of_ble_eq_true rfl) (Nat.le_of_ble_eq_true rfl) (qk_e ?_)
          refine q_iadd dX8_alike_130 ?_
          refine q_istore dX8_alike_131 (Nat.le_of_ble_eq_true rfl) rfl ?_
          refine q_iinc dX8_alike_133 rfl (Nat.le_of_ble_eq_true rfl) rfl ?_
          refine q_goto (tgt := 42) dX8_alike_136 rfl ?_
          have hje : j = p4 y := by omega
          subst hje
          refine q_wk _ ?_ (ih (x + 1) _ _ ⟨by omega, by omega⟩ (by omega) rfl rfl)
          simp only [wkB, hzs]
          (repeat (first | exact rfl | exact trivial | refine ⟨rfl, ?_⟩))
        refine q_iload dX8_alike_139 rfl ?_
        refine q_ireturn dX8_alike_141 ?_
        exact mpx_k hg ⟨by rw [show x = p4 ((L : Int) - y) by omega], MS_rf _⟩
      ·
        refine q_iconst dX8_alike_34 ?_
        refine q_ireturn dX8_alike_35 ?_
        exact mpx_g (zbn h31)
end NA


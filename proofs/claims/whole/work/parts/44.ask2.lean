/-! The class: what is asked of the tree of a map. -/
theorem tw_lv {M : qM} {r l : Int} {K Y S C T N : Int → Int} : tw (qup (qup M 5 7 r) 5 8 l) K Y S C T N 0 10 = M 0 10 := by simp [tw, qup]
theorem tw_mp {M : qM} {r l : Int} {K Y S C T N : Int → Int} : tw (qup (qup M 5 7 r) 5 8 l) K Y S C T N 0 11 = M 0 11 := by simp [tw, qup]
theorem tw_rw {M : qM} {r l r' : Int} {K Y S C T N : Int → Int} : rowc (tw (qup (qup M 5 7 r) 5 8 l) K Y S C T N) r' = rowc M r' := by funext i; simp [rowc, tw, qup]
theorem h87 (M : qM) (r l : Int) : (qup (qup M 5 7 r) 5 8 l) 5 8 = l ∧ (qup (qup M 5 7 r) 5 8 l) 5 7 = r := ⟨qup_s _ _ _ _, by simp [qup]⟩
noncomputable def tcl (c : Int → Int) (L : Nat) : Int := zsum (fun x => zb (sr c L 0 L x ≠ -1)) 0 (p4 L).toNat
theorem tcl_in (c : Int → Int) (L : Nat) : 0 ≤ tcl c L ∧ tcl c L ≤ 256 := by
  have := zsum_in (f := fun x => zb (sr c L 0 L x ≠ -1)) (a := 0) (B := 1) (n := (p4 L).toNat) (fun j _ _ => by have := zb_01 (sr c L 0 L j ≠ -1); omega)
  have := p4_in (L : Int)
  unfold tcl
  omega
noncomputable def partF (c : Int → Int) (L : Nat) (q : Int) : Int := if q = 1 then tcl c L else if q = 0 then tsz c L 0 - tcl c L else cwith c L (q - 2) L
noncomputable def blkF (c : Int → Int) (L : Nat) (l x q : Int) : Int := if q = 0 then bcode c L (L - l.toNat) x else if q = 1 then onesI c (8 * p4 l * x) (8 * p4 l * x + 8 * p4 l - 1) else if q = 2 then sr c L 0 (L - l.toNat) x else if sr c L 0 (L - l.toNat) x ≠ -1 then tsz c l.toNat x else -1
theorem blk_in {L : Nat} {l x : Int} (hL : L ≤ 4) (h0 : 0 ≤ l ∧ l ≤ L) (hx : 0 ≤ x ∧ x < p4 ((L : Int) - l)) : 0 ≤ p4 l * x ∧ p4 l * x + p4 l ≤ p4 L := by
  have h := p4_mul (a := l) (b := (L : Int) - l) (by omega) (by omega)
  rw [show l + ((L : Int) - l) = L by omega] at h
  have h1 := p4_in l
  have h2 : p4 l * (x + 1) ≤ p4 l * p4 ((L : Int) - l) := Int.mul_le_mul_of_nonneg_left (by omega) (by omega)
  rw [Int.mul_add, Int.mul_one] at h2
  exact ⟨Int.mul_nonneg (by omega) hx.1, by omega⟩
theorem zdiv_8 {a : Int} (h0 : 0 ≤ a) (h1 : a < 2147483648) : zdiv a 8 = a / 8 := by
  obtain ⟨n, rfl⟩ := z_nat h0
  have := zdiv_nat (a := n) (b := 8) (by omega) (by decide) (by decide)
  rw [show ((8 : Nat) : Int) = 8 from rfl] at this
  rw [this]
  omega
theorem tell_in {c : Int → Int} {L : Nat} {cell : Int} (hL : L ≤ 4) (hc : 0 ≤ cell) : ∀ (l : Nat) (b : Int), l ≤ L → 0 ≤ b → b < p4 ((L : Int) - l) → -1 ≤ tellF c L cell l b ∧ tellF c L cell l b < 341 := by
  intro l
  induction l with
  | zero => intro b hl h0 h1; exact sr_in hL (Nat.le_refl L) ⟨h0, by rw [show ((0 : Nat) : Int) = 0 from rfl, Int.sub_zero] at h1; exact h1⟩
  | succ k ih =>
    intro b hl hb0 hb1
    rw [show ((k + 1 : Nat) : Int) = (k : Int) + 1 by omega] at hb1
    have hp := p4_in (k : Int)
    have hdv : 0 ≤ cell / p4 k := Int.ediv_nonneg hc (by omega)
    have hq : 0 ≤ cell / p4 k % 4 ∧ cell / p4 k % 4 < 4 := by omega
    have hu : tellF c L cell (k + 1) b = if qcode c k b (cell / p4 k % 4).toNat < 2 then sr c L 0 (L - k - 1) b else tellF c L cell k (if qcode c k b (cell / p4 k % 4).toNat = 2 then 4 * b + cell / p4 k % 4 else qlast c k b (cell / p4 k % 4).toNat) := rfl
    have hql := qlast_in c k b (cell / p4 k % 4).toNat
    rw [hu]
    generalize cell / p4 k % 4 = q at hq hql ⊢
    have hkid := p4_kid (l := k) (L := L) (x := b) (by omega) hL ⟨hb0, hb1⟩ (show q.toNat < 4 by omega)
    rw [show ((q.toNat : Nat) : Int) = q by omega] at hkid
    have hkid0 := p4_kid (l := k) (L := L) (x := b) (by omega) hL ⟨hb0, hb1⟩ (show 3 < 4 by omega)
    have hqc := qcode_in c k b q.toNat
    by_cases g1 : qcode c k b q.toNat < 2
    · rw [if_pos g1]
      exact sr_in hL (by omega) ⟨hb0, by rw [show ((L - k - 1 : Nat) : Int) = (L : Int) - (k + 1) by omega]; exact hb1⟩
    · rw [if_neg g1]
      by_cases g2 : qcode c k b q.toNat = 2
      · rw [if_pos g2]; exact ih _ (by omega) hkid.1 hkid.2
      · rw [if_neg g2]
        have g3 := qcode_3 (show qcode c k b q.toNat = 3 by omega)
        exact ih _ (by omega) (by omega) (by omega)
theorem bigP_in {c : Int → Int} {L : Nat} {v z : Int} (hL : L ≤ 4) (h : bigP c L v z) : -1 ≤ z ∧ z < 256 := by
  rcases h with ⟨h, _⟩ | ⟨d, b, h1, h2, h3, h4, -, h5, -⟩
  · omega
  · have := blk_in (L := L) (l := (L : Int) - d) (x := b) hL (by omega) ⟨h3, by rw [show (L : Int) - ((L : Int) - d) = d by omega]; exact h4⟩
    rw [Int.mul_comm] at this
    have := p4_in (L : Int)
    have := p4_in ((L : Int) - d)
    omega
section GF
variable {M : qM} {L : Nat} {k p q x l i : Int}
set_option maxHeartbeats 1000000 in
theorem k_bytes (hC : CI M) (hL : M 0 10 = (L : Int)) (hk : zR k) : qCt mX7_bytes 2 9 [.ref 0, .int (zI k)] M (qpx (gor (gText M) (gor (gMap M k) 0)) (fun z M' => z = tsz (rowc M k) L 0 ∧ Scr M M') (Scr M)) := by
  refine q_intro (own := 7) (L := [some (.ref 0), some (.int (zI k))]) md_X7_bytes rfl rfl rfl (Nat.le_of_ble_eq_true rfl) (fun X => ?_)
  refine q_aload_n dX7_bytes_0 rfl ?_
  refine q_V0 dX7_bytes_1 ml_7_141 md_X7_requireText (c_requireText hC) rfl rfl rfl (by first | decide | omega) (Nat.le_of_ble_eq_true rfl) (Nat.le_of_ble_eq_true rfl) (qk_G (fun hq1 => ?_) (Scr_rf hC))
  have hLv := CI_lv hC hL hq1
  refine q_aload_n dX7_bytes_4 rfl ?_
  refine q_iload_n dX7_bytes_5 rfl ?_
  refine q_V1 dX7_bytes_6 ml_7_172 md_X7_requireMap (c_requireMap hC hk) rfl rfl rfl (by first | decide | omega) (Nat.le_of_ble_eq_true rfl) (Nat.le_of_ble_eq_true rfl) (qk_G (fun hq6 => ?_) (Scr_rf hC))
  have hmk := CI_mp hC hq6
  refine q_aload_n dX7_bytes_9 rfl ?_
  refine q_iload_n dX7_bytes_10 rfl ?_
  refine q_V1 dX7_bytes_11 ml_7_202 md_X7_sizeOfRow (c_sizeR hC hL hLv (by omega)) rfl rfl rfl (by first | decide | omega) (Nat.le_of_ble_eq_true rfl) (Nat.le_of_ble_eq_true rfl) (qk_g (fun z11 N11 hq11 => ?_))
  refine q_ireturn dX7_bytes_14 ?_
  exact gxk rfl hq11
set_option maxHeartbeats 1000000 in
theorem k_byteAt (hC : CI M) (hL : M 0 10 = (L : Int)) (hk : zR k) (hi : zR i) : qCt mX7_byteAt 3 9 [.ref 0, .int (zI k), .int (zI i)] M (qpx (gor (gText M) (gor (gMap M k) (gor (gByte (tsz (rowc M k) L 0) i) 0))) (fun z M' => (∃ N, lay (rowc M k) L 0 N 0 ∧ z = N i) ∧ Scr M M') (Scr M)) := by
  refine q_intro (own := 7) (L := [some (.ref 0), some (.int (zI k)), some (.int (zI i))]) md_X7_byteAt rfl rfl rfl (Nat.le_of_ble_eq_true rfl) (fun X => ?_)
  refine q_aload_n dX7_byteAt_0 rfl ?_
  refine q_V0 dX7_byteAt_1 ml_7_141 md_X7_requireText (c_requireText hC) rfl rfl rfl (by first | decide | omega) (Nat.le_of_ble_eq_true rfl) (Nat.le_of_ble_eq_true rfl) (qk_G (fun hq1 => ?_) (Scr_rf hC))
  have hLv := CI_lv hC hL hq1
  refine q_aload_n dX7_byteAt_4 rfl ?_
  refine q_iload_n dX7_byteAt_5 rfl ?_
  refine q_V1 dX7_byteAt_6 ml_7_172 md_X7_requireMap (c_requireMap hC hk) rfl rfl rfl (by first | decide | omega) (Nat.le_of_ble_eq_true rfl) (Nat.le_of_ble_eq_true rfl) (qk_G (fun hq6 => ?_) (Scr_rf hC))
  have hmk := CI_mp hC hq6
  refine q_aload_n dX7_byteAt_9 rfl ?_
  refine q_iload_n dX7_byteAt_10 rfl ?_
  refine q_iload_n dX7_byteAt_11 rfl ?_
  refine q_V2 dX7_byteAt_12 ml_7_205 md_X7_requireByteOf (c_requireByteOf hC hL hLv hmk hi) rfl rfl rfl (by first | decide | omega) (Nat.le_of_ble_eq_true rfl) (Nat.le_of_ble_eq_true rfl) (qk_B (fun N12 hq12 hw12 => ?_))
  obtain ⟨Kq, Yq, Sq, Cq, Tq, Nq, rfl, hTq⟩ := hw12
  have hg := gByte_0.1 hq12
  have ht := tsz_in (rowc M k) L 0
  have ht2 := tmax_in L hLv.2
  refine q_aload_n dX7_byteAt_15 rfl ?_
  refine q_getr dX7_byteAt_16 fl_7_37 rfl rfl ?_
  refine q_iload_n dX7_byteAt_19 rfl ?_
  refine q_V1 dX7_byteAt_20 ml_7_208 md_X6_byteOf (c_byteOf (by omega)) rfl rfl rfl (by first | decide | omega) (Nat.le_of_ble_eq_true rfl) (Nat.le_of_ble_eq_true rfl) (qk_e ?_)
  refine q_ireturn dX7_byteAt_23 ?_
  exact gxk rfl ⟨⟨Nq, hTq.2.2.1, rfl⟩, Scr_tm hC hTq⟩
set_option maxHeartbeats 2000000 in
theorem k_parts (hC : CI M) (hL : M 0 10 = (L : Int)) (hk : zR k) (hq : zR q) : qCt mX7_parts 3 9 [.ref 0, .int (zI k), .int (zI q)] M (qpx (gor (gText M) (gor (gMap M k) (gor (if 0 ≤ q ∧ q ≤ 5 then 0 else 3) 0))) (fun z M' => z = partF (rowc M k) L q ∧ Scr M M') (Scr M)) := by
  have ht1 := tsz_in (rowc M k) L 0
  have htc := tcl_in (rowc M k) L
  refine q_intro (own := 7) (L := [some (.ref 0), some (.int (zI k)), some (.int (zI q)), none]) md_X7_parts rfl rfl rfl (Nat.le_of_ble_eq_true rfl) (fun X => ?_)
  refine q_aload_n dX7_parts_0 rfl ?_
  refine q_V0 dX7_parts_1 ml_7_141 md_X7_requireText (c_requireText hC) rfl rfl rfl (by first | decide | omega) (Nat.le_of_ble_eq_true rfl) (Nat.le_of_ble_eq_true rfl) (qk_G (fun hq1 => ?_) (Scr_rf hC))
  have hLv := CI_lv hC hL hq1
  refine q_aload_n dX7_parts_4 rfl ?_
  refine q_iload_n dX7_parts_5 rfl ?_
  refine q_V1 dX7_parts_6 ml_7_172 md_X7_requireMap (c_requireMap hC hk) rfl rfl rfl (by first | decide | omega) (Nat.le_of_ble_eq_true rfl) (Nat.le_of_ble_eq_true rfl) (qk_G (fun hq6 => ?_) (Scr_rf hC))
  have hmk := CI_mp hC hq6
  have ht2 := tmax_in L hLv.2
  refine q_iload_n dX7_parts_9 rfl ?_
  refine q_if_lt (tgt := 18) dX7_parts_10 rfl (by (first | (unfold zR; omega) | (unfold zLR; omega) | omega | (simp only [zR, qup] at *; omega) | (simp [zR, qup]; omega) | (simp [zR, qup]; done))) (fun h10 => ?_) (fun h10 => ?_)
  ·
    refine qt_X7_parts_18 (Nat.le_of_ble_eq_true rfl) ?_
    exact gxt3 (by rw [if_neg (by omega)]; rfl) (Scr_rf hC)
  ·
    refine q_iload_n dX7_parts_13 rfl ?_
    refine q_iconst dX7_parts_14 ?_
    refine q_icmp_le (tgt := 28) dX7_parts_15 rfl (by (first | (unfold zR; omega) | (unfold zLR; omega) | omega | (simp only [zR, qup] at *; omega) | (simp [zR, qup]; omega) | (simp [zR, qup]; done))) (by (first | (unfold zR; omega) | (unfold zLR; omega) | omega | (simp only [zR, qup] at *; omega) | (simp [zR, qup]; omega) | (simp [zR, qup]; done))) (fun h15 => ?_) (fun h15 => ?_)
    ·
      refine q_G0 (if_pos (by omega)) ?_
      refine q_aload_n dX7_parts_28 rfl ?_
      refine q_getr dX7_parts_29 fl_7_37 rfl rfl ?_
      refine q_iload_n dX7_parts_32 rfl ?_
      refine q_aload_n dX7_parts_33 rfl ?_
      refine q_geti (j := 10) dX7_parts_34 fl_7_121 rfl rfl rfl ?_
      rw [hL]
      refine q_V2 dX7_parts_37 ml_7_213 md_X6_measure (c_mea hC hLv (by omega)) rfl rfl rfl (by first | decide | omega) (Nat.le_of_ble_eq_true rfl) (Nat.le_of_ble_eq_true rfl) (qk_h (fun N37 hq37 => ?_))
      obtain ⟨Kq, Yq, Sq, Cq, Tq, Nq, rfl, hTq⟩ := hq37
      refine q_iload_n dX7_parts_40 rfl ?_
      refine q_iconst dX7_parts_41 ?_
      refine q_icmp_ne (tgt := 53) dX7_parts_42 rfl (by (first | (unfold zR; omega) | (unfold zLR; omega) | omega | (simp only [zR, qup] at *; omega) | (simp [zR, qup]; omega) | (simp [zR, qup]; done))) (by (first | (unfold zR; omega) | (unfold zLR; omega) | omega | (simp only [zR, qup] at *; omega) | (simp [zR, qup]; omega) | (simp [zR, qup]; done))) (fun h42 => ?_) (fun h42 => ?_)
      rotate_left
      ·
        refine q_aload_n dX7_parts_45 rfl ?_
        refine q_getr dX7_parts_46 fl_7_37 rfl rfl ?_
        refine q_V0 dX7_parts_49 ml_7_216 md_X6_toldCells (c_toldCells hLv (h87 M k L).1 hTq) rfl rfl rfl (by first | decide | omega) (Nat.le_of_ble_eq_true rfl) (Nat.le_of_ble_eq_true rfl) (qk_e ?_)
        refine q_ireturn dX7_parts_52 ?_
        exact gxk rfl ⟨by unfold partF; rw [if_pos (by omega)]; rfl, Scr_tm hC hTq⟩
      refine q_aload_n dX7_parts_53 rfl ?_
      refine q_getr dX7_parts_54 fl_7_37 rfl rfl ?_
      refine q_V0 dX7_parts_57 ml_7_219 md_X6_size (c_tsize hLv (h87 M k L).1 hTq) rfl rfl rfl (by first | decide | omega) (Nat.le_of_ble_eq_true rfl) (Nat.le_of_ble_eq_true rfl) (qk_e ?_)
      refine q_aload_n dX7_parts_60 rfl ?_
      refine q_getr dX7_parts_61 fl_7_37 rfl rfl ?_
      refine q_V0 dX7_parts_64 ml_7_216 md_X6_toldCells (c_toldCells hLv (h87 M k L).1 hTq) rfl rfl rfl (by first | decide | omega) (Nat.le_of_ble_eq_true rfl) (Nat.le_of_ble_eq_true rfl) (qk_e ?_)
      refine q_isub dX7_parts_67 ?_
      refine q_istore_n dX7_parts_68 (Nat.le_of_ble_eq_true rfl) rfl ?_
      refine q_iload_n dX7_parts_69 rfl ?_
      refine q_if_ne (tgt := 77) dX7_parts_70 rfl (by (first | (unfold zR; omega) | (unfold zLR; omega) | omega | (simp only [zR, qup] at *; omega) | (simp [zR, qup]; omega) | (simp [zR, qup]; done))) (fun h70 => ?_) (fun h70 => ?_)
      ·
        refine q_aload_n dX7_parts_77 rfl ?_
        refine q_getr dX7_parts_78 fl_7_37 rfl rfl ?_
        refine q_iload_n dX7_parts_81 rfl ?_
        refine q_iconst dX7_parts_82 ?_
        refine q_isub dX7_parts_83 ?_
        refine q_V1 dX7_parts_84 ml_7_222 md_X6_toldWithCode (c_toldWithCode hLv (h87 M k L).1 hTq (by (first | (unfold zR; omega) | (unfold zLR; omega) | omega | (simp only [zR, qup] at *; omega) | (simp [zR, qup]; omega) | (simp [zR, qup]; done)))) rfl rfl rfl (by first | decide | omega) (Nat.le_of_ble_eq_true rfl) (Nat.le_of_ble_eq_true rfl) (qk_e ?_)
        refine q_ireturn dX7_parts_87 ?_
        exact gxk rfl ⟨by unfold partF; rw [if_neg (by omega), if_neg (by omega)], Scr_tm hC hTq⟩
      ·
        refine q_iload_n dX7_parts_73 rfl ?_
        refine q_goto (tgt := 87) dX7_parts_74 rfl ?_
        refine q_ireturn dX7_parts_87 ?_
        exact gxk rfl ⟨by unfold partF; rw [if_neg (by omega), if_pos (by omega)]; rfl, Scr_tm hC hTq⟩
    ·
      refine qt_X7_parts_18 (Nat.le_of_ble_eq_true rfl) ?_
      exact gxt3 (by rw [if_neg (by omega)]; rfl) (Scr_rf hC)
set_option maxHeartbeats 4000000 in
theorem k_block (hC : CI M) (hL : M 0 10 = (L : Int)) (hk : zR k) (hl : zR l) (hxr : zR x) (hq : zR q) : qCt mX7_block 5 9 [.ref 0, .int (zI k), .int (zI l), .int (zI x), .int (zI q)] M (qpx (gor (gText M) (gor (gMap M k) (gor (gBlk M l x) (gor (if 0 ≤ q ∧ q ≤ 3 then 0 else 3) 0)))) (fun z M' => z = blkF (rowc M k) L l x q ∧ Scr M M') (Scr M)) := by
  refine q_intro (own := 7) (L := [some (.ref 0), some (.int (zI k)), some (.int (zI l)), some (.int (zI x)), some (.int (zI q)), none]) md_X7_block rfl rfl rfl (Nat.le_of_ble_eq_true rfl) (fun X => ?_)
  refine q_aload_n dX7_block_0 rfl ?_
  refine q_V0 dX7_block_1 ml_7_141 md_X7_requireText (c_requireText hC) rfl rfl rfl (by first | decide | omega) (Nat.le_of_ble_eq_true rfl) (Nat.le_of_ble_eq_true rfl) (qk_G (fun hq1 => ?_) (Scr_rf hC))
  have hLv := CI_lv hC hL hq1
  refine q_aload_n dX7_block_4 rfl ?_
  refine q_iload_n dX7_block_5 rfl ?_
  refine q_V1 dX7_block_6 ml_7_172 md_X7_requireMap (c_requireMap hC hk) rfl rfl rfl (by first | decide | omega) (Nat.le_of_ble_eq_true rfl) (Nat.le_of_ble_eq_true rfl) (qk_G (fun hq6 => ?_) (Scr_rf hC))
  have hmk := CI_mp hC hq6
  refine q_aload_n dX7_block_9 rfl ?_
  refine q_iload_n dX7_block_10 rfl ?_
  refine q_iload_n dX7_block_11 rfl ?_
  refine q_V2 dX7_block_12 ml_7_225 md_X7_requireBlock (c_requireBlock hL hLv hl hxr) rfl rfl rfl (by first | decide | omega) (Nat.le_of_ble_eq_true rfl) (Nat.le_of_ble_eq_true rfl) (qk_G (fun hq12 => ?_) (Scr_rf hC))
  have hbk := gBlk_0.1 hq12
  rw [hL] at hbk
  obtain ⟨ln, rfl⟩ := Int.eq_ofNat_of_zero_le hbk.1.1
  have hlL : ln ≤ L := by omega
  have hbi := blk_in hLv.2 hbk.1 hbk.2
  have hpin := p4_in (L : Int)
  have hpil := p4_in (ln : Int)
  have hmul : 8 * p4 (ln : Int) * x = 8 * (p4 (ln : Int) * x) := Int.mul_assoc _ _ _
  refine q_aload_n dX7_block_15 rfl ?_
  refine q_getr dX7_block_16 fl_7_37 rfl rfl ?_
  refine q_iload_n dX7_block_19 rfl ?_
  refine q_aload_n dX7_block_20 rfl ?_
  refine q_geti (j := 10) dX7_block_21 fl_7_121 rfl rfl rfl ?_
  rw [hL]
  refine q_V2 dX7_block_24 ml_7_213 md_X6_measure (c_mea hC hLv (by omega)) rfl rfl rfl (by first | decide | omega) (Nat.le_of_ble_eq_true rfl) (Nat.le_of_ble_eq_true rfl) (qk_h (fun N24 hq24 => ?_))
  obtain ⟨Kq, Yq, Sq, Cq, Tq, Nq, rfl, hTq⟩ := hq24
  refine q_iload dX7_block_27 rfl ?_
  by_cases hs29_0 : q = 0
  ·
    refine q_tableIn (tgt := 60) dX7_block_29 (by (first | (unfold zR; omega) | (unfold zLR; omega) | omega | (simp only [zR, qup] at *; omega) | (simp [zR, qup]; omega) | (simp [zR, qup]; done))) (by omega) (by omega) (by rw [hs29_0]; rfl) rfl ?_
    refine q_aload_n dX7_block_60 rfl ?_
    refine q_getr dX7_block_61 fl_7_37 rfl rfl ?_
    refine q_iload_n dX7_block_64 rfl ?_
    refine q_iload_n dX7_block_65 rfl ?_
    refine q_G0 (if_pos (by omega)) ?_
    refine q_V2 dX7_block_66 ml_7_228 md_X6_codeOf (c_codeOf hLv (h87 M k L).1 hTq hlL hbk.2) rfl rfl rfl (by first | decide | omega) (Nat.le_of_ble_eq_true rfl) (Nat.le_of_ble_eq_true rfl) (qk_e ?_)
    refine q_ireturn dX7_block_69 ?_
    exact gxk rfl ⟨by unfold blkF; rw [if_pos (by omega), Int.toNat_natCast], Scr_tm hC hTq⟩
  by_cases hs29_1 : q = 1
  ·
    refine q_tableIn (tgt := 70) dX7_block_29 (by (first | (unfold zR; omega) | (unfold zLR; omega) | omega | (simp only [zR, qup] at *; omega) | (simp [zR, qup]; omega) | (simp [zR, qup]; done))) (by omega) (by omega) (by rw [hs29_1]; rfl) rfl ?_
    refine q_bipush dX7_block_70 rfl ?_
    refine q_iload_n dX7_block_72 rfl ?_
    refine q_G0 (if_pos (by omega)) ?_
    refine q_S1 dX7_block_73 ml_7_164 md_X7_cellsIn (c_cellsIn (by omega)) rfl (by first | decide | omega) (Nat.le_of_ble_eq_true rfl) (Nat.le_of_ble_eq_true rfl) (qk_e ?_)
    refine q_imul dX7_block_76 ?_
    refine q_iload_n dX7_block_77 rfl ?_
    refine q_imul dX7_block_78 ?_
    refine q_istore dX7_block_79 (Nat.le_of_ble_eq_true rfl) rfl ?_
    refine q_aload_n dX7_block_81 rfl ?_
    refine q_getr dX7_block_82 fl_7_26 rfl rfl ?_
    refine q_iload_n dX7_block_85 rfl ?_
    refine q_iload dX7_block_86 rfl ?_
    refine q_iload dX7_block_88 rfl ?_
    refine q_bipush dX7_block_90 rfl ?_
    refine q_iload_n dX7_block_92 rfl ?_
    refine q_S1 dX7_block_93 ml_7_164 md_X7_cellsIn (c_cellsIn (by omega)) rfl (by first | decide | omega) (Nat.le_of_ble_eq_true rfl) (Nat.le_of_ble_eq_true rfl) (qk_e ?_)
    refine q_imul dX7_block_96 ?_
    refine q_iadd dX7_block_97 ?_
    refine q_iconst dX7_block_98 ?_
    refine q_isub dX7_block_99 ?_
    rw [show 8 * p4 (ln : Int) * x + 8 * p4 (ln : Int) - 1 = 8 * p4 (ln : Int) * x + 8 * p4 (ln : Int) - 1 from rfl]
    refine q_V3 dX7_block_100 ml_7_185 md_X0_onesIn (c_onesIn (by omega) (by omega) (by omega) (by omega) (CI_ok (Scr_CI hC (Scr_tm hC hTq)) (by omega))) rfl rfl rfl (by first | decide | omega) (Nat.le_of_ble_eq_true rfl) (Nat.le_of_ble_eq_true rfl) (qk_e ?_)
    refine q_ireturn dX7_block_103 ?_
    exact gxk rfl ⟨by unfold blkF; rw [tw_rw, if_neg (by omega), if_pos (by omega)], Scr_tm hC hTq⟩
  by_cases hs29_2 : q = 2
  ·
    refine q_tableIn (tgt := 104) dX7_block_29 (by (first | (unfold zR; omega) | (unfold zLR; omega) | omega | (simp only [zR, qup] at *; omega) | (simp [zR, qup]; omega) | (simp [zR, qup]; done))) (by omega) (by omega) (by rw [hs29_2]; rfl) rfl ?_
    refine q_aload_n dX7_block_104 rfl ?_
    refine q_getr dX7_block_105 fl_7_37 rfl rfl ?_
    refine q_iload_n dX7_block_108 rfl ?_
    refine q_iload_n dX7_block_109 rfl ?_
    refine q_G0 (if_pos (by omega)) ?_
    refine q_V2 dX7_block_110 ml_7_231 md_X6_startOf (c_startOf hLv hTq hlL hbk.2) rfl rfl rfl (by first | decide | omega) (Nat.le_of_ble_eq_true rfl) (Nat.le_of_ble_eq_true rfl) (qk_e ?_)
    refine q_ireturn dX7_block_113 ?_
    exact gxk rfl ⟨by unfold blkF; rw [if_neg (by omega), if_neg (by omega), if_pos (by omega), Int.toNat_natCast], Scr_tm hC hTq⟩
  by_cases hs29_3 : q = 3
  ·
    refine q_tableIn (tgt := 114) dX7_block_29 (by (first | (unfold zR; omega) | (unfold zLR; omega) | omega | (simp only [zR, qup] at *; omega) | (simp [zR, qup]; omega) | (simp [zR, qup]; done))) (by omega) (by omega) (by rw [hs29_3]; rfl) rfl ?_
    refine q_aload_n dX7_block_114 rfl ?_
    refine q_getr dX7_block_115 fl_7_37 rfl rfl ?_
    refine q_iload_n dX7_block_118 rfl ?_
    refine q_iload_n dX7_block_119 rfl ?_
    refine q_G0 (if_pos (by omega)) ?_
    have h01 := zb_01 (sr (rowc M k) L 0 (L - ln) x ≠ -1)
    refine q_V2 dX7_block_120 ml_7_234 md_X6_isTold (c_told hLv hTq hlL hbk.2) rfl rfl rfl (by first | decide | omega) (Nat.le_of_ble_eq_true rfl) (Nat.le_of_ble_eq_true rfl) (qk_e ?_)
    refine q_if_eq (tgt := 138) dX7_block_123 rfl (by (first | (unfold zR; omega) | (unfold zLR; omega) | omega | (simp only [zR, qup] at *; omega) | (simp [zR, qup]; omega) | (simp [zR, qup]; done))) (fun h123 => ?_) (fun h123 => ?_)
    ·
      refine q_iconst dX7_block_138 ?_
      refine q_ireturn dX7_block_139 ?_
      exact gxk rfl ⟨by unfold blkF; rw [if_neg (by omega), if_neg (by omega), if_neg (by omega), Int.toNat_natCast, if_neg (fun q1 => by rw [zb_t q1] at h123; omega)], Scr_tm hC hTq⟩
    ·
      refine q_aload_n dX7_block_126 rfl ?_
      refine q_getr dX7_block_127 fl_7_37 rfl rfl ?_
      refine q_iload_n dX7_block_130 rfl ?_
      refine q_iload_n dX7_block_131 rfl ?_
      refine q_V2 dX7_block_132 ml_7_238 md_X6_sizeOf (c_sizeOf hLv hTq hlL hbk.2) rfl rfl rfl (by first | decide | omega) (Nat.le_of_ble_eq_true rfl) (Nat.le_of_ble_eq_true rfl) (qk_e ?_)
      refine q_goto (tgt := 139) dX7_block_135 rfl ?_
      refine q_ireturn dX7_block_139 ?_
      exact gxk rfl ⟨by unfold blkF; rw [if_neg (by omega), if_neg (by omega), if_neg (by omega), Int.toNat_natCast, if_pos (zb_1.1 (by omega))], Scr_tm hC hTq⟩
  refine q_tableOut (tgt := 140) dX7_block_29 (by (first | (unfold zR; omega) | (unfold zLR; omega) | omega | (simp only [zR, qup] at *; omega) | (simp [zR, qup]; omega) | (simp [zR, qup]; done))) (by omega) rfl ?_
  refine qt_X7_block_140 (Nat.le_of_ble_eq_true rfl) ?_
  exact gxt3 (by rw [if_neg (by omega)]; rfl) (Scr_tm hC hTq)
set_option maxHeartbeats 2000000 in
theorem k_teller (hC : CI M) (hL : M 0 10 = (L : Int)) (hk : zR k) (hp : zR p) : qCt mX7_teller 3 9 [.ref 0, .int (zI k), .int (zI p)] M (qpx (gor (gText M) (gor (gMap M k) (gor (gPos M p) 0))) (fun z M' => z = tellF (rowc M k) L (p / 8) L 0 ∧ Scr M M') (Scr M)) := by
  refine q_intro (own := 7) (L := [some (.ref 0), some (.int (zI k)), some (.int (zI p))]) md_X7_teller rfl rfl rfl (Nat.le_of_ble_eq_true rfl) (fun X => ?_)
  refine q_aload_n dX7_teller_0 rfl ?_
  refine q_V0 dX7_teller_1 ml_7_141 md_X7_requireText (c_requireText hC) rfl rfl rfl (by first | decide | omega) (Nat.le_of_ble_eq_true rfl) (Nat.le_of_ble_eq_true rfl) (qk_G (fun hq1 => ?_) (Scr_rf hC))
  have hLv := CI_lv hC hL hq1
  refine q_aload_n dX7_teller_4 rfl ?_
  refine q_iload_n dX7_teller_5 rfl ?_
  refine q_V1 dX7_teller_6 ml_7_172 md_X7_requireMap (c_requireMap hC hk) rfl rfl rfl (by first | decide | omega) (Nat.le_of_ble_eq_true rfl) (Nat.le_of_ble_eq_true rfl) (qk_G (fun hq6 => ?_) (Scr_rf hC))
  refine q_aload_n dX7_teller_9 rfl ?_
  refine q_iload_n dX7_teller_10 rfl ?_
  refine q_V1 dX7_teller_11 ml_7_175 md_X7_requirePosition (c_requirePosition hL hLv hp) rfl rfl rfl (by first | decide | omega) (Nat.le_of_ble_eq_true rfl) (Nat.le_of_ble_eq_true rfl) (qk_G (fun hq11 => ?_) (Scr_rf hC))
  have hmk := CI_mp hC hq6
  have hps := CI_ps hL hq11
  refine q_aload_n dX7_teller_14 rfl ?_
  refine q_getr dX7_teller_15 fl_7_37 rfl rfl ?_
  refine q_iload_n dX7_teller_18 rfl ?_
  refine q_aload_n dX7_teller_19 rfl ?_
  refine q_geti (j := 10) dX7_teller_20 fl_7_121 rfl rfl rfl ?_
  rw [hL]
  refine q_V2 dX7_teller_23 ml_7_213 md_X6_measure (c_mea hC hLv (by omega)) rfl rfl rfl (by first | decide | omega) (Nat.le_of_ble_eq_true rfl) (Nat.le_of_ble_eq_true rfl) (qk_h (fun N23 hq23 => ?_))
  obtain ⟨Kq, Yq, Sq, Cq, Tq, Nq, rfl, hTq⟩ := hq23
  refine q_aload_n dX7_teller_26 rfl ?_
  refine q_getr dX7_teller_27 fl_7_37 rfl rfl ?_
  refine q_iload_n dX7_teller_30 rfl ?_
  refine q_bipush dX7_teller_31 rfl ?_
  refine q_idiv dX7_teller_33 (by (first | (unfold zR; omega) | (unfold zLR; omega) | omega | (simp only [zR, qup] at *; omega) | (simp [zR, qup]; omega) | (simp [zR, qup]; done))) (by (first | (unfold zR; omega) | (unfold zLR; omega) | omega | (simp only [zR, qup] at *; omega) | (simp [zR, qup]; omega) | (simp [zR, qup]; done))) ?_
  rw [zdiv_8 hps.1 (by omega)]
  refine q_V1 dX7_teller_34 ml_7_243 md_X6_tellerOfCell (c_tellerOfCell hLv (h87 M k L).1 hTq (by omega)) rfl rfl rfl (by first | decide | omega) (Nat.le_of_ble_eq_true rfl) (Nat.le_of_ble_eq_true rfl) (qk_e ?_)
  refine q_ireturn dX7_teller_37 ?_
  exact gxk rfl ⟨rfl, Scr_tm hC hTq⟩
set_option maxHeartbeats 2000000 in
theorem k_told (hC : CI M) (hL : M 0 10 = (L : Int)) (hk : zR k) (hi : zR i) : qCt mX7_told 3 9 [.ref 0, .int (zI k), .int (zI i)] M (qpx (gor (gText M) (gor (gMap M k) (gor (gByte (tsz (rowc M k) L 0) i) 0))) (fun z M' => z = zsum (fun x => 8 * zb (tellF (rowc M k) L x L 0 = i)) 0 (p4 L).toNat ∧ Scr M M') (Scr M)) := by
  refine q_intro (own := 7) (L := [some (.ref 0), some (.int (zI k)), some (.int (zI i)), none, none]) md_X7_told rfl rfl rfl (Nat.le_of_ble_eq_true rfl) (fun X => ?_)
  refine q_aload_n dX7_told_0 rfl ?_
  refine q_V0 dX7_told_1 ml_7_141 md_X7_requireText (c_requireText hC) rfl rfl rfl (by first | decide | omega) (Nat.le_of_ble_eq_true rfl) (Nat.le_of_ble_eq_true rfl) (qk_G (fun hq1 => ?_) (Scr_rf hC))
  have hLv := CI_lv hC hL hq1
  refine q_aload_n dX7_told_4 rfl ?_
  refine q_iload_n dX7_told_5 rfl ?_
  refine q_V1 dX7_told_6 ml_7_172 md_X7_requireMap (c_requireMap hC hk) rfl rfl rfl (by first | decide | omega) (Nat.le_of_ble_eq_true rfl) (Nat.le_of_ble_eq_true rfl) (qk_G (fun hq6 => ?_) (Scr_rf hC))
  have hmk := CI_mp hC hq6
  refine q_aload_n dX7_told_9 rfl ?_
  refine q_iload_n dX7_told_10 rfl ?_
  refine q_iload_n dX7_told_11 rfl ?_
  refine q_V2 dX7_told_12 ml_7_205 md_X7_requireByteOf (c_requireByteOf hC hL hLv hmk hi) rfl rfl rfl (by first | decide | omega) (Nat.le_of_ble_eq_true rfl) (Nat.le_of_ble_eq_true rfl) (qk_B (fun N12 hq12 hw12 => ?_))
  obtain ⟨Kq, Yq, Sq, Cq, Tq, Nq, rfl, hTq⟩ := hw12
  have hg := gByte_0.1 hq12
  have ht := tsz_in (rowc M k) L 0
  have ht2 := tmax_in L hLv.2
  refine q_iconst dX7_told_15 ?_
  refine q_istore_n dX7_told_16 (Nat.le_of_ble_eq_true rfl) rfl ?_
  refine q_iconst dX7_told_17 ?_
  refine q_istore dX7_told_18 (Nat.le_of_ble_eq_true rfl) rfl ?_
  refine q_lp (fun x : Int => (p4 L - x).toNat) (fun x => 0 ≤ x ∧ x ≤ p4 L) (fun x => [some (.ref 0), some (.int (zI k)), some (.int (zI i)), some (.int (zI (zsum (fun x => 8 * zb (tellF (rowc M k) L x L 0 = i)) 0 x.toNat))), some (.int (zI x))]) (fun _ => tw (qup (qup M 5 7 k) 5 8 (L : Int)) Kq Yq Sq Cq Tq Nq) 0 rfl rfl ⟨by omega, by have := p4_in (L : Int); omega⟩ (fun x hx ih => ?_)
  have hpin := p4_in (L : Int)
  have hzs := zsum_s (fun x => 8 * zb (tellF (rowc M k) L x L 0 = i)) hx.1
  have hzi := zsum_in (f := fun x => 8 * zb (tellF (rowc M k) L x L 0 = i)) (a := 0) (B := 8) (n := x.toNat) (fun j _ _ => by have := zb_01 (tellF (rowc M k) L j L 0 = i); omega)
  have htr := tell_in (c := rowc M k) (cell := x) hLv.2 hx.1 L 0 (Nat.le_refl L) (Int.le_refl 0) (by rw [show (L : Int) - L = 0 by omega]; decide)
  refine q_iload dX7_told_20 rfl ?_
  refine q_aload_n dX7_told_22 rfl ?_
  refine q_geti (j := 10) dX7_told_23 fl_7_121 rfl rfl rfl ?_
  rw [tw_lv, hL]
  refine q_S1 dX7_told_26 ml_7_164 md_X7_cellsIn (c_cellsIn (by omega)) rfl (by first | decide | omega) (Nat.le_of_ble_eq_true rfl) (Nat.le_of_ble_eq_true rfl) (qk_e ?_)
  refine q_icmp_ge (tgt := 54) dX7_told_29 rfl (by (first | (unfold zR; omega) | (unfold zLR; omega) | omega | (simp only [zR, qup] at *; omega) | (simp [zR, qup]; omega) | (simp [zR, qup]; done))) (by (first | (unfold zR; omega) | (unfold zLR; omega) | omega | (simp only [zR, qup] at *; omega) | (simp [zR, qup]; omega) | (simp [zR, qup]; done))) (fun h29 => ?_) (fun h29 => ?_)
  rotate_left
  ·
    refine q_aload_n dX7_told_32 rfl ?_
    refine q_getr dX7_told_33 fl_7_37 rfl rfl ?_
    refine q_iload dX7_told_36 rfl ?_
    refine q_V1 dX7_told_38 ml_7_243 md_X6_tellerOfCell (c_tellerOfCell hLv (h87 M k L).1 hTq (by omega)) rfl rfl rfl (by first | decide | omega) (Nat.le_of_ble_eq_true rfl) (Nat.le_of_ble_eq_true rfl) (qk_e ?_)
    refine q_iload_n dX7_told_41 rfl ?_
    refine q_icmp_ne (tgt := 48) dX7_told_42 rfl (by (first | (unfold zR; omega) | (unfold zLR; omega) | omega | (simp only [zR, qup] at *; omega) | (simp [zR, qup]; omega) | (simp [zR, qup]; done))) (by (first | (unfold zR; omega) | (unfold zLR; omega) | omega | (simp only [zR, qup] at *; omega) | (simp [zR, qup]; omega) | (simp [zR, qup]; done))) (fun h42 => ?_) (fun h42 => ?_)
    ·
      refine q_iinc dX7_told_48 rfl (Nat.le_of_ble_eq_true rfl) rfl ?_
      refine q_goto (tgt := 20) dX7_told_51 rfl ?_
      have ez : 8 * zb (tellF (rowc M k) L x L 0 = i) = 0 := by rw [zb_f h42]; rfl
      exact ih (x + 1) _ _ ⟨by omega, by omega⟩ (by omega) (by rw [hzs, ez, Int.add_zero]; rfl) rfl
    ·
      refine q_iinc dX7_told_45 rfl (Nat.le_of_ble_eq_true rfl) rfl ?_
      refine q_iinc dX7_told_48 rfl (Nat.le_of_ble_eq_true rfl) rfl ?_
      refine q_goto (tgt := 20) dX7_told_51 rfl ?_
      have ez : 8 * zb (tellF (rowc M k) L x L 0 = i) = 8 := by rw [zb_t h42]; rfl
      exact ih (x + 1) _ _ ⟨by omega, by omega⟩ (by omega) (by rw [hzs, ez]; rfl) rfl
  refine q_iload_n dX7_told_54 rfl ?_
  refine q_ireturn dX7_told_55 ?_
  exact gxk rfl ⟨by rw [show x = p4 L by omega], Scr_tm hC hTq⟩
def lowP (c : Int → Int) (L : Nat) (z : Int) : Prop := ∃ l : Nat, z = (l : Int) ∧ l ≤ L ∧ (∃ x, 0 ≤ x ∧ x < p4 ((L : Int) - l) ∧ sr c L 0 (L - l) x ≠ -1) ∧ ∀ k : Nat, k < l → ∀ x, 0 ≤ x → x < p4 ((L : Int) - k) → sr c L 0 (L - k) x = -1
set_option maxHeartbeats 2000000 in
theorem k_lowest (hC : CI M) (hL : M 0 10 = (L : Int)) (hk : zR k) : qCt mX7_lowest 2 9 [.ref 0, .int (zI k)] M (qpx (gor (gText M) (gor (gMap M k) 0)) (fun z M' => lowP (rowc M k) L z ∧ Scr M M') (Scr M)) := by
  refine q_intro (own := 7) (L := [some (.ref 0), some (.int (zI k))]) md_X7_lowest rfl rfl rfl (Nat.le_of_ble_eq_true rfl) (fun X => ?_)
  refine q_aload_n dX7_lowest_0 rfl ?_
  refine q_V0 dX7_lowest_1 ml_7_141 md_X7_requireText (c_requireText hC) rfl rfl rfl (by first | decide | omega) (Nat.le_of_ble_eq_true rfl) (Nat.le_of_ble_eq_true rfl) (qk_G (fun hq1 => ?_) (Scr_rf hC))
  have hLv := CI_lv hC hL hq1
  refine q_aload_n dX7_lowest_4 rfl ?_
  refine q_iload_n dX7_lowest_5 rfl ?_
  refine q_V1 dX7_lowest_6 ml_7_172 md_X7_requireMap (c_requireMap hC hk) rfl rfl rfl (by first | decide | omega) (Nat.le_of_ble_eq_true rfl) (Nat.le_of_ble_eq_true rfl) (qk_G (fun hq6 => ?_) (Scr_rf hC))
  have hmk := CI_mp hC hq6
  refine q_aload_n dX7_lowest_9 rfl ?_
  refine q_getr dX7_lowest_10 fl_7_37 rfl rfl ?_
  refine q_iload_n dX7_lowest_13 rfl ?_
  refine q_aload_n dX7_lowest_14 rfl ?_
  refine q_geti (j := 10) dX7_lowest_15 fl_7_121 rfl rfl rfl ?_
  rw [hL]
  refine q_V2 dX7_lowest_18 ml_7_213 md_X6_measure (c_mea hC hLv (by omega)) rfl rfl rfl (by first | decide | omega) (Nat.le_of_ble_eq_true rfl) (Nat.le_of_ble_eq_true rfl) (qk_h (fun N18 hq18 => ?_))
  obtain ⟨Kq, Yq, Sq, Cq, Tq, Nq, rfl, hTq⟩ := hq18
  refine q_aload_n dX7_lowest_21 rfl ?_
  refine q_getr dX7_lowest_22 fl_7_37 rfl rfl ?_
  refine q_V0 dX7_lowest_25 ml_7_246 md_X6_lowestTold (c_lowestTold hLv (h87 M k L).1 hTq) rfl rfl rfl (by first | decide | omega) (Nat.le_of_ble_eq_true rfl) (Nat.le_of_ble_eq_true rfl) (qk_g (fun z25 N25 hq25 => ?_))
  obtain ⟨rfl, hlw⟩ := hq25
  refine q_ireturn dX7_lowest_28 ?_
  exact gxk rfl ⟨hlw, Scr_tm hC hTq⟩
def bigF (c : Int → Int) (L : Nat) (v z : Int) : Prop := ∃ f, bigP c L v f ∧ z = if f = -1 then -1 else 8 * f
set_option maxHeartbeats 2000000 in
theorem k_biggest (hC : CI M) (hL : M 0 10 = (L : Int)) (hk : zR k) (hq : zR q) : qCt mX7_biggest 3 9 [.ref 0, .int (zI k), .int (zI q)] M (qpx (gor (gText M) (gor (gMap M k) (gor (if q = 0 ∨ q = 1 ∨ q = 3 then 0 else 3) 0))) (fun z M' => bigF (rowc M k) L q z ∧ Scr M M') (Scr M)) := by
  refine q_intro (own := 7) (L := [some (.ref 0), some (.int (zI k)), some (.int (zI q)), none]) md_X7_biggest rfl rfl rfl (Nat.le_of_ble_eq_true rfl) (fun X => ?_)
  refine q_aload_n dX7_biggest_0 rfl ?_
  refine q_V0 dX7_biggest_1 ml_7_141 md_X7_requireText (c_requireText hC) rfl rfl rfl (by first | decide | omega) (Nat.le_of_ble_eq_true rfl) (Nat.le_of_ble_eq_true rfl) (qk_G (fun hq1 => ?_) (Scr_rf hC))
  have hLv := CI_lv hC hL hq1
  refine q_aload_n dX7_biggest_4 rfl ?_
  refine q_iload_n dX7_biggest_5 rfl ?_
  refine q_V1 dX7_biggest_6 ml_7_172 md_X7_requireMap (c_requireMap hC hk) rfl rfl rfl (by first | decide | omega) (Nat.le_of_ble_eq_true rfl) (Nat.le_of_ble_eq_true rfl) (qk_G (fun hq6 => ?_) (Scr_rf hC))
  have hmk := CI_mp hC hq6
  refine q_iload_n dX7_biggest_9 rfl ?_
  refine q_if_eq (tgt := 33) dX7_biggest_10 rfl (by (first | (unfold zR; omega) | (unfold zLR; omega) | omega | (simp only [zR, qup] at *; omega) | (simp [zR, qup]; omega) | (simp [zR, qup]; done))) (fun h10 => ?_) (fun h10 => ?_)
  ·
    refine q_G0 (if_pos (by omega)) ?_
    refine q_aload_n dX7_biggest_33 rfl ?_
    refine q_getr dX7_biggest_34 fl_7_37 rfl rfl ?_
    refine q_iload_n dX7_biggest_37 rfl ?_
    refine q_aload_n dX7_biggest_38 rfl ?_
    refine q_geti (j := 10) dX7_biggest_39 fl_7_121 rfl rfl rfl ?_
    rw [hL]
    refine q_V2 dX7_biggest_42 ml_7_213 md_X6_measure (c_mea hC hLv (by omega)) rfl rfl rfl (by first | decide | omega) (Nat.le_of_ble_eq_true rfl) (Nat.le_of_ble_eq_true rfl) (qk_h (fun N42 hq42 => ?_))
    obtain ⟨Kq, Yq, Sq, Cq, Tq, Nq, rfl, hTq⟩ := hq42
    refine q_aload_n dX7_biggest_45 rfl ?_
    refine q_getr dX7_biggest_46 fl_7_37 rfl rfl ?_
    refine q_iload_n dX7_biggest_49 rfl ?_
    refine q_V1 dX7_biggest_50 ml_7_251 md_X6_firstCellOfBiggest (c_firstCellOfBiggest hLv (h87 M k L).1 hTq hq) rfl rfl rfl (by first | decide | omega) (Nat.le_of_ble_eq_true rfl) (Nat.le_of_ble_eq_true rfl) (qk_g (fun z50 N50 hq50 => ?_))
    obtain ⟨rfl, hbg⟩ := hq50
    have hbr := bigP_in hLv.2 hbg
    refine q_istore_n dX7_biggest_53 (Nat.le_of_ble_eq_true rfl) rfl ?_
    refine q_iload_n dX7_biggest_54 rfl ?_
    refine q_iconst dX7_biggest_55 ?_
    refine q_icmp_ne (tgt := 63) dX7_biggest_56 rfl (by (first | (unfold zR; omega) | (unfold zLR; omega) | omega | (simp only [zR, qup] at *; omega) | (simp [zR, qup]; omega) | (simp [zR, qup]; done))) (by (first | (unfold zR; omega) | (unfold zLR; omega) | omega | (simp only [zR, qup] at *; omega) | (simp [zR, qup]; omega) | (simp [zR, qup]; done))) (fun h56 => ?_) (fun h56 => ?_)
    ·
      refine q_bipush dX7_biggest_63 rfl ?_
      refine q_iload_n dX7_biggest_65 rfl ?_
      refine q_imul dX7_biggest_66 ?_
      refine q_ireturn dX7_biggest_67 ?_
      first | exact gxk rfl ⟨⟨z50, hbg, by rw [if_neg h56]⟩, Scr_tm hC hTq⟩ | exact gxk rfl ⟨⟨z50, hbg, by rw [if_pos h56]⟩, Scr_tm hC hTq⟩
    ·
      refine q_iconst dX7_biggest_59 ?_
      refine q_goto (tgt := 67) dX7_biggest_60 rfl ?_
      refine q_ireturn dX7_biggest_67 ?_
      first | exact gxk rfl ⟨⟨z50, hbg, by rw [if_neg h56]⟩, Scr_tm hC hTq⟩ | exact gxk rfl ⟨⟨z50, hbg, by rw [if_pos h56]⟩, Scr_tm hC hTq⟩
  ·
    refine q_iload_n dX7_biggest_13 rfl ?_
    refine q_iconst dX7_biggest_14 ?_
    refine q_icmp_eq (tgt := 33) dX7_biggest_15 rfl (by (first | (unfold zR; omega) | (unfold zLR; omega) | omega | (simp only [zR, qup] at *; omega) | (simp [zR, qup]; omega) | (simp [zR, qup]; done))) (by (first | (unfold zR; omega) | (unfold zLR; omega) | omega | (simp only [zR, qup] at *; omega) | (simp [zR, qup]; omega) | (simp [zR, qup]; done))) (fun h15 => ?_) (fun h15 => ?_)
    ·
      refine q_G0 (if_pos (by omega)) ?_
      refine q_aload_n dX7_biggest_33 rfl ?_
      refine q_getr dX7_biggest_34 fl_7_37 rfl rfl ?_
      refine q_iload_n dX7_biggest_37 rfl ?_
      refine q_aload_n dX7_biggest_38 rfl ?_
      refine q_geti (j := 10) dX7_biggest_39 fl_7_121 rfl rfl rfl ?_
      rw [hL]
      refine q_V2 dX7_biggest_42 ml_7_213 md_X6_measure (c_mea hC hLv (by omega)) rfl rfl rfl (by first | decide | omega) (Nat.le_of_ble_eq_true rfl) (Nat.le_of_ble_eq_true rfl) (qk_h (fun N42 hq42 => ?_))
      obtain ⟨Kq, Yq, Sq, Cq, Tq, Nq, rfl, hTq⟩ := hq42
      refine q_aload_n dX7_biggest_45 rfl ?_
      refine q_getr dX7_biggest_46 fl_7_37 rfl rfl ?_
      refine q_iload_n dX7_biggest_49 rfl ?_
      refine q_V1 dX7_biggest_50 ml_7_251 md_X6_firstCellOfBiggest (c_firstCellOfBiggest hLv (h87 M k L).1 hTq hq) rfl rfl rfl (by first | decide | omega) (Nat.le_of_ble_eq_true rfl) (Nat.le_of_ble_eq_true rfl) (qk_g (fun z50 N50 hq50 => ?_))
      obtain ⟨rfl, hbg⟩ := hq50
      have hbr := bigP_in hLv.2 hbg
      refine q_istore_n dX7_biggest_53 (Nat.le_of_ble_eq_true rfl) rfl ?_
      refine q_iload_n dX7_biggest_54 rfl ?_
      refine q_iconst dX7_biggest_55 ?_
      refine q_icmp_ne (tgt := 63) dX7_biggest_56 rfl (by (first | (unfold zR; omega) | (unfold zLR; omega) | omega | (simp only [zR, qup] at *; omega) | (simp [zR, qup]; omega) | (simp [zR, qup]; done))) (by (first | (unfold zR; omega) | (unfold zLR; omega) | omega | (simp only [zR, qup] at *; omega) | (simp [zR, qup]; omega) | (simp [zR, qup]; done))) (fun h56 => ?_) (fun h56 => ?_)
      ·
        refine q_bipush dX7_biggest_63 rfl ?_
        refine q_iload_n dX7_biggest_65 rfl ?_
        refine q_imul dX7_biggest_66 ?_
        refine q_ireturn dX7_biggest_67 ?_
        first | exact gxk rfl ⟨⟨z50, hbg, by rw [if_neg h56]⟩, Scr_tm hC hTq⟩ | exact gxk rfl ⟨⟨z50, hbg, by rw [if_pos h56]⟩, Scr_tm hC hTq⟩
      ·
        refine q_iconst dX7_biggest_59 ?_
        refine q_goto (tgt := 67) dX7_biggest_60 rfl ?_
        refine q_ireturn dX7_biggest_67 ?_
        first | exact gxk rfl ⟨⟨z50, hbg, by rw [if_neg h56]⟩, Scr_tm hC hTq⟩ | exact gxk rfl ⟨⟨z50, hbg, by rw [if_pos h56]⟩, Scr_tm hC hTq⟩
    ·
      refine q_iload_n dX7_biggest_18 rfl ?_
      refine q_iconst dX7_biggest_19 ?_
      refine q_icmp_eq (tgt := 33) dX7_biggest_20 rfl (by (first | (unfold zR; omega) | (unfold zLR; omega) | omega | (simp only [zR, qup] at *; omega) | (simp [zR, qup]; omega) | (simp [zR, qup]; done))) (by (first | (unfold zR; omega) | (unfold zLR; omega) | omega | (simp only [zR, qup] at *; omega) | (simp [zR, qup]; omega) | (simp [zR, qup]; done))) (fun h20 => ?_) (fun h20 => ?_)
      ·
        refine q_G0 (if_pos (by omega)) ?_
        refine q_aload_n dX7_biggest_33 rfl ?_
        refine q_getr dX7_biggest_34 fl_7_37 rfl rfl ?_
        refine q_iload_n dX7_biggest_37 rfl ?_
        refine q_aload_n dX7_biggest_38 rfl ?_
        refine q_geti (j := 10) dX7_biggest_39 fl_7_121 rfl rfl rfl ?_
        rw [hL]
        refine q_V2 dX7_biggest_42 ml_7_213 md_X6_measure (c_mea hC hLv (by omega)) rfl rfl rfl (by first | decide | omega) (Nat.le_of_ble_eq_true rfl) (Nat.le_of_ble_eq_true rfl) (qk_h (fun N42 hq42 => ?_))
        obtain ⟨Kq, Yq, Sq, Cq, Tq, Nq, rfl, hTq⟩ := hq42
        refine q_aload_n dX7_biggest_45 rfl ?_
        refine q_getr dX7_biggest_46 fl_7_37 rfl rfl ?_
        refine q_iload_n dX7_biggest_49 rfl ?_
        refine q_V1 dX7_biggest_50 ml_7_251 md_X6_firstCellOfBiggest (c_firstCellOfBiggest hLv (h87 M k L).1 hTq hq) rfl rfl rfl (by first | decide | omega) (Nat.le_of_ble_eq_true rfl) (Nat.le_of_ble_eq_true rfl) (qk_g (fun z50 N50 hq50 => ?_))
        obtain ⟨rfl, hbg⟩ := hq50
        have hbr := bigP_in hLv.2 hbg
        refine q_istore_n dX7_biggest_53 (Nat.le_of_ble_eq_true rfl) rfl ?_
        refine q_iload_n dX7_biggest_54 rfl ?_
        refine q_iconst dX7_biggest_55 ?_
        refine q_icmp_ne (tgt := 63) dX7_biggest_56 rfl (by (first | (unfold zR; omega) | (unfold zLR; omega) | omega | (simp only [zR, qup] at *; omega) | (simp [zR, qup]; omega) | (simp [zR, qup]; done))) (by (first | (unfold zR; omega) | (unfold zLR; omega) | omega | (simp only [zR, qup] at *; omega) | (simp [zR, qup]; omega) | (simp [zR, qup]; done))) (fun h56 => ?_) (fun h56 => ?_)
        ·
          refine q_bipush dX7_biggest_63 rfl ?_
          refine q_iload_n dX7_biggest_65 rfl ?_
          refine q_imul dX7_biggest_66 ?_
          refine q_ireturn dX7_biggest_67 ?_
          first | exact gxk rfl ⟨⟨z50, hbg, by rw [if_neg h56]⟩, Scr_tm hC hTq⟩ | exact gxk rfl ⟨⟨z50, hbg, by rw [if_pos h56]⟩, Scr_tm hC hTq⟩
        ·
          refine q_iconst dX7_biggest_59 ?_
          refine q_goto (tgt := 67) dX7_biggest_60 rfl ?_
          refine q_ireturn dX7_biggest_67 ?_
          first | exact gxk rfl ⟨⟨z50, hbg, by rw [if_neg h56]⟩, Scr_tm hC hTq⟩ | exact gxk rfl ⟨⟨z50, hbg, by rw [if_pos h56]⟩, Scr_tm hC hTq⟩
      ·
        refine qt_X7_biggest_23 (Nat.le_of_ble_eq_true rfl) ?_
        exact gxt3 (by rw [if_neg (by omega)]; rfl) (Scr_rf hC)
end GF


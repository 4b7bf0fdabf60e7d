/-! The class: what a change would do; blocks of two maps. -/
theorem unl_0 {c c' : Int → Int} {f g n : Int} (hn : 0 ≤ n) (hc : ∀ j, 0 ≤ j → j < n → 0 ≤ c (f + j) ∧ c (f + j) < 256) (hc' : ∀ j, 0 ≤ j → j < n → 0 ≤ c' (g + j) ∧ c' (g + j) < 256) : unl c c' f g n = 0 ↔ ∀ j, 0 ≤ j → j < n → c (f + j) = c' (g + j) := by
  unfold unl
  rw [zsum_00 (fun i _ _ => (zpop_in _).1)]
  constructor
  · intro h j h0 h1
    exact (zpop_x (hc j h0 h1) (hc' j h0 h1)).1 (h j h0 (by omega))
  · intro h j h0 h1
    exact (zpop_x (hc j h0 (by omega)) (hc' j h0 (by omega))).2 (h j h0 (by omega))
theorem blk_x {L : Nat} {l x : Int} (hL : L ≤ 4) (h0 : 0 ≤ l ∧ l ≤ L) (hx : 0 ≤ x) : p4 l * x < p4 L ↔ x < p4 ((L : Int) - l) := by
  have h := p4_mul (a := l) (b := (L : Int) - l) (by omega) (by omega)
  rw [show l + ((L : Int) - l) = L by omega] at h
  have h1 := p4_in l
  constructor
  · intro q
    apply Classical.byContradiction
    intro q2
    have h2 : p4 l * p4 ((L : Int) - l) ≤ p4 l * x := Int.mul_le_mul_of_nonneg_left (by omega) (by omega)
    omega
  · intro q
    have := blk_in hL h0 ⟨hx, q⟩
    omega
theorem cov_c {c c' : Int → Int} (h : ∀ i, 0 ≤ i → i < 256 → c i = c' i) (f t b : Int) : ∀ i, 0 ≤ i → i < 256 → covF c f t b i = covF c' f t b i := fun i h0 h1 => by unfold covF; rw [h i h0 h1]
theorem flp_c {c c' : Int → Int} (h : ∀ i, 0 ≤ i → i < 256 → c i = c' i) (f t : Int) : ∀ i, 0 ≤ i → i < 256 → flpF c f t i = flpF c' f t i := fun i h0 h1 => by unfold flpF; rw [h i h0 h1]
section GH
variable {M : qM} {L : Nat} {k o l x p f t b : Int}
set_option maxHeartbeats 2000000 in
theorem k_alike (hC : CI M) (hL : M 0 10 = (L : Int)) (hk : zR k) (ho : zR o) (hl : zR l) : qCt mX7_alike 4 9 [.ref 0, .int (zI k), .int (zI o), .int (zI l)] M (qpx (gor (gText M) (gor (gMap M k) (gor (gMap M o) (gor (gLev M l) 0)))) (fun z M' => z = zsum (fun x => zb (∀ j, 0 ≤ j → j < p4 l → rowc M k (p4 l * x + j) = rowc M o (p4 l * x + j))) 0 (p4 ((L : Int) - l)).toNat ∧ M' = M) (Scr M)) := by
  have hpin := p4_in (L : Int)
  have hpil := p4_in l
  have hpid := p4_in ((L : Int) - l)
  refine q_intro (own := 7) (L := [some (.ref 0), some (.int (zI k)), some (.int (zI o)), some (.int (zI l)), none, none, none, none]) md_X7_alike rfl rfl rfl (Nat.le_of_ble_eq_true rfl) (fun X => ?_)
  refine q_aload_n dX7_alike_0 rfl ?_
  refine q_V0 dX7_alike_1 ml_7_141 md_X7_requireText (c_requireText hC) rfl rfl rfl (by first | decide | omega) (Nat.le_of_ble_eq_true rfl) (Nat.le_of_ble_eq_true rfl) (qk_G (fun hq1 => ?_) (Scr_rf hC))
  have hLv := CI_lv hC hL hq1
  refine q_aload_n dX7_alike_4 rfl ?_
  refine q_iload_n dX7_alike_5 rfl ?_
  refine q_V1 dX7_alike_6 ml_7_172 md_X7_requireMap (c_requireMap hC hk) rfl rfl rfl (by first | decide | omega) (Nat.le_of_ble_eq_true rfl) (Nat.le_of_ble_eq_true rfl) (qk_G (fun hq6 => ?_) (Scr_rf hC))
  refine q_aload_n dX7_alike_9 rfl ?_
  refine q_iload_n dX7_alike_10 rfl ?_
  refine q_V1 dX7_alike_11 ml_7_172 md_X7_requireMap (c_requireMap hC ho) rfl rfl rfl (by first | decide | omega) (Nat.le_of_ble_eq_true rfl) (Nat.le_of_ble_eq_true rfl) (qk_G (fun hq11 => ?_) (Scr_rf hC))
  refine q_aload_n dX7_alike_14 rfl ?_
  refine q_iload_n dX7_alike_15 rfl ?_
  refine q_V1 dX7_alike_16 ml_7_265 md_X7_requireLevel (c_requireLevel hL hLv hl) rfl rfl rfl (by first | decide | omega) (Nat.le_of_ble_eq_true rfl) (Nat.le_of_ble_eq_true rfl) (qk_G (fun hq16 => ?_) (Scr_rf hC))
  have hmk := CI_mp hC hq6
  have hmo := CI_mp hC hq11
  have hlv := gLev_0.1 hq16
  rw [hL] at hlv
  refine q_iload_n dX7_alike_19 rfl ?_
  refine q_S1 dX7_alike_20 ml_7_164 md_X7_cellsIn (c_cellsIn (by omega)) rfl (by first | decide | omega) (Nat.le_of_ble_eq_true rfl) (Nat.le_of_ble_eq_true rfl) (qk_e ?_)
  refine q_istore dX7_alike_23 (Nat.le_of_ble_eq_true rfl) rfl ?_
  refine q_iconst dX7_alike_25 ?_
  refine q_istore dX7_alike_26 (Nat.le_of_ble_eq_true rfl) rfl ?_
  refine q_iconst dX7_alike_28 ?_
  refine q_istore dX7_alike_29 (Nat.le_of_ble_eq_true rfl) rfl ?_
  refine q_lp (fun x : Int => (p4 ((L : Int) - l) - x).toNat) (fun x => 0 ≤ x ∧ x ≤ p4 ((L : Int) - l)) (fun x => [some (.ref 0), some (.int (zI k)), some (.int (zI o)), some (.int (zI l)), some (.int (zI (p4 l))), some (.int (zI (zsum (fun x => zb (∀ j, 0 ≤ j → j < p4 l → rowc M k (p4 l * x + j) = rowc M o (p4 l * x + j))) 0 x.toNat))), some (.int (zI x)), none]) (fun _ => M) 0 rfl rfl ⟨by omega, by omega⟩ (fun x hx ih => ?_)
  have hzs := zsum_s (fun x => zb (∀ j, 0 ≤ j → j < p4 l → rowc M k (p4 l * x + j) = rowc M o (p4 l * x + j))) hx.1
  have hzi := zsum_in (f := fun x => zb (∀ j, 0 ≤ j → j < p4 l → rowc M k (p4 l * x + j) = rowc M o (p4 l * x + j))) (a := 0) (B := 1) (n := x.toNat) (fun y _ _ => by have := zb_01 (∀ j, 0 ≤ j → j < p4 l → rowc M k (p4 l * y + j) = rowc M o (p4 l * y + j)); omega)
  refine q_iload dX7_alike_31 rfl ?_
  refine q_iload_n dX7_alike_33 rfl ?_
  refine q_aload_n dX7_alike_34 rfl ?_
  refine q_geti (j := 10) dX7_alike_35 fl_7_121 rfl rfl rfl ?_
  rw [hL]
  refine q_S2 dX7_alike_38 ml_7_268 md_X7_blocksAt (c_blocksAt (by omega)) rfl (by first | decide | omega) (Nat.le_of_ble_eq_true rfl) (Nat.le_of_ble_eq_true rfl) (qk_e ?_)
  refine q_icmp_ge (tgt := 78) dX7_alike_41 rfl (by (first | (unfold zR; omega) | (unfold zLR; omega) | omega | (simp only [zR, qup] at *; omega) | (simp [zR, qup]; omega) | (simp [zR, qup]; done))) (by (first | (unfold zR; omega) | (unfold zLR; omega) | omega | (simp only [zR, qup] at *; omega) | (simp [zR, qup]; omega) | (simp [zR, qup]; done))) (fun h41 => ?_) (fun h41 => ?_)
  rotate_left
  ·
    have hbi := blk_in hLv.2 hlv ⟨hx.1, h41⟩
    have hu0 := unl_0 (c := rowc M k) (c' := rowc M o) (f := p4 l * x) (g := p4 l * x) (n := p4 l) (by omega) (fun j j0 j1 => CI_ok hC (by omega) _ (by omega) (by omega)) (fun j j0 j1 => CI_ok hC (by omega) _ (by omega) (by omega))
    have hui := unl_in (rowc M k) (rowc M o) (p4 l * x) (p4 l * x) (show 0 ≤ p4 l by omega)
    refine q_iload dX7_alike_44 rfl ?_
    refine q_iload dX7_alike_46 rfl ?_
    refine q_imul dX7_alike_48 ?_
    rw [Int.mul_comm x (p4 l)]
    refine q_istore dX7_alike_49 (Nat.le_of_ble_eq_true rfl) rfl ?_
    refine q_aload_n dX7_alike_51 rfl ?_
    refine q_getr dX7_alike_52 fl_7_26 rfl rfl ?_
    refine q_iload_n dX7_alike_55 rfl ?_
    refine q_iload dX7_alike_56 rfl ?_
    refine q_iload_n dX7_alike_58 rfl ?_
    refine q_iload dX7_alike_59 rfl ?_
    refine q_iload dX7_alike_61 rfl ?_
    refine q_V5 dX7_alike_63 ml_7_261 md_X0_unlikeBits (c_unl (by omega) (by omega) (by omega) (by omega) (by omega) hC) rfl rfl rfl (by first | decide | omega) (Nat.le_of_ble_eq_true rfl) (Nat.le_of_ble_eq_true rfl) (qk_e ?_)
    refine q_if_ne (tgt := 72) dX7_alike_66 rfl (by (first | (unfold zR; omega) | (unfold zLR; omega) | omega | (simp only [zR, qup] at *; omega) | (simp [zR, qup]; omega) | (simp [zR, qup]; done))) (fun h66 => ?_) (fun h66 => ?_)
    ·
      refine q_iinc dX7_alike_72 rfl (Nat.le_of_ble_eq_true rfl) rfl ?_
      refine q_goto (tgt := 31) dX7_alike_75 rfl ?_
      have e1 : zsum (fun x => zb (∀ j, 0 ≤ j → j < p4 l → rowc M k (p4 l * x + j) = rowc M o (p4 l * x + j))) 0 (x + 1).toNat = zsum (fun x => zb (∀ j, 0 ≤ j → j < p4 l → rowc M k (p4 l * x + j) = rowc M o (p4 l * x + j))) 0 x.toNat := by rw [hzs, zb_f (fun q => h66 (hu0.2 q)), Int.add_zero]
      refine q_wk _ ?_ (ih (x + 1) _ _ ⟨by omega, by omega⟩ (by omega) rfl rfl)
      simp only [wkB, e1]
      (repeat (first | exact rfl | exact trivial | refine ⟨rfl, ?_⟩))
    ·
      refine q_iinc dX7_alike_69 rfl (Nat.le_of_ble_eq_true rfl) rfl ?_
      refine q_iinc dX7_alike_72 rfl (Nat.le_of_ble_eq_true rfl) rfl ?_
      refine q_goto (tgt := 31) dX7_alike_75 rfl ?_
      have e1 : zsum (fun x => zb (∀ j, 0 ≤ j → j < p4 l → rowc M k (p4 l * x + j) = rowc M o (p4 l * x + j))) 0 (x + 1).toNat = zsum (fun x => zb (∀ j, 0 ≤ j → j < p4 l → rowc M k (p4 l * x + j) = rowc M o (p4 l * x + j))) 0 x.toNat + 1 := by rw [hzs, zb_t (hu0.1 (by omega))]
      refine q_wk _ ?_ (ih (x + 1) _ _ ⟨by omega, by omega⟩ (by omega) rfl rfl)
      simp only [wkB, e1]
      (repeat (first | exact rfl | exact trivial | refine ⟨rfl, ?_⟩))
  refine q_iload dX7_alike_78 rfl ?_
  refine q_ireturn dX7_alike_80 ?_
  have hxe : x = p4 ((L : Int) - l) := by omega
  exact gxk rfl ⟨by rw [hxe], rfl⟩
set_option maxHeartbeats 1000000 in
theorem k_bytesIf (hC : CI M) (hL : M 0 10 = (L : Int)) (hk : zR k) (hp : zR p) : qCt mX7_bytesIf 3 9 [.ref 0, .int (zI k), .int (zI p)] M (qpx (gor (gText M) (gor (gMap M k) (gor (gPos M p) 0))) (fun z M' => z = tsz (flc (rowc M k) p) L 0 ∧ Scr M M') (Scr M)) := by
  refine q_intro (own := 7) (L := [some (.ref 0), some (.int (zI k)), some (.int (zI p))]) md_X7_bytesIf rfl rfl rfl (Nat.le_of_ble_eq_true rfl) (fun X => ?_)
  refine q_aload_n dX7_bytesIf_0 rfl ?_
  refine q_V0 dX7_bytesIf_1 ml_7_141 md_X7_requireText (c_requireText hC) rfl rfl rfl (by first | decide | omega) (Nat.le_of_ble_eq_true rfl) (Nat.le_of_ble_eq_true rfl) (qk_G (fun hq1 => ?_) (Scr_rf hC))
  have hLv := CI_lv hC hL hq1
  refine q_aload_n dX7_bytesIf_4 rfl ?_
  refine q_iload_n dX7_bytesIf_5 rfl ?_
  refine q_V1 dX7_bytesIf_6 ml_7_172 md_X7_requireMap (c_requireMap hC hk) rfl rfl rfl (by first | decide | omega) (Nat.le_of_ble_eq_true rfl) (Nat.le_of_ble_eq_true rfl) (qk_G (fun hq6 => ?_) (Scr_rf hC))
  refine q_aload_n dX7_bytesIf_9 rfl ?_
  refine q_iload_n dX7_bytesIf_10 rfl ?_
  refine q_V1 dX7_bytesIf_11 ml_7_175 md_X7_requirePosition (c_requirePosition hL hLv hp) rfl rfl rfl (by first | decide | omega) (Nat.le_of_ble_eq_true rfl) (Nat.le_of_ble_eq_true rfl) (qk_G (fun hq11 => ?_) (Scr_rf hC))
  have hmk := CI_mp hC hq6
  have hps := CI_ps hL hq11
  refine q_aload_n dX7_bytesIf_14 rfl ?_
  refine q_getr dX7_bytesIf_15 fl_7_37 rfl rfl ?_
  refine q_iload_n dX7_bytesIf_18 rfl ?_
  refine q_aload_n dX7_bytesIf_19 rfl ?_
  refine q_geti (j := 10) dX7_bytesIf_20 fl_7_121 rfl rfl rfl ?_
  rw [hL]
  refine q_V2 dX7_bytesIf_23 ml_7_213 md_X6_measure (c_mea hC hLv (by omega)) rfl rfl rfl (by first | decide | omega) (Nat.le_of_ble_eq_true rfl) (Nat.le_of_ble_eq_true rfl) (qk_h (fun N23 hq23 => ?_))
  obtain ⟨Kq, Yq, Sq, Cq, Tq, Nq, rfl, hTq⟩ := hq23
  refine q_aload_n dX7_bytesIf_26 rfl ?_
  refine q_getr dX7_bytesIf_27 fl_7_37 rfl rfl ?_
  refine q_iload_n dX7_bytesIf_30 rfl ?_
  refine q_V1 dX7_bytesIf_31 ml_7_274 md_X6_sizeIfFlipped (c_sizeIfFlipped hLv (h87 M k L).1 (h87 M k L).2 (by omega) (fun j _ _ => by simp [qup, rowc]) (CI_ok2 hC (by omega)) hTq ⟨hps.1, hps.2.1⟩) rfl rfl rfl (by first | decide | omega) (Nat.le_of_ble_eq_true rfl) (Nat.le_of_ble_eq_true rfl) (qk_e ?_)
  refine q_ireturn dX7_bytesIf_34 ?_
  exact gxk rfl ⟨rfl, Scr_tm hC hTq⟩
set_option maxHeartbeats 2000000 in
theorem k_bestFlip (hC : CI M) (hL : M 0 10 = (L : Int)) (hk : zR k) (hf : zR f) (ht : zR t) : qCt mX7_bestFlip 5 9 [.ref 0, .int (zI k), .int (zI f), .int (zI t)] M (qpx (gor (gText M) (gor (gMap M k) (gor (gRng M f t) 0))) (fun z M' => z = bst (fun p => tsz (flc (rowc M k) p) L 0) (-1) f (t - f + 1).toNat ∧ Scr M M') (Scr M)) := by
  refine q_intro (own := 7) (L := [some (.ref 0), some (.int (zI k)), some (.int (zI f)), some (.int (zI t)), none, none, none, none]) md_X7_bestFlip rfl rfl rfl (Nat.le_of_ble_eq_true rfl) (fun X => ?_)
  refine q_aload_n dX7_bestFlip_0 rfl ?_
  refine q_V0 dX7_bestFlip_1 ml_7_141 md_X7_requireText (c_requireText hC) rfl rfl rfl (by first | decide | omega) (Nat.le_of_ble_eq_true rfl) (Nat.le_of_ble_eq_true rfl) (qk_G (fun hq1 => ?_) (Scr_rf hC))
  have hLv := CI_lv hC hL hq1
  have ht2 := tmax_in L hLv.2
  refine q_aload_n dX7_bestFlip_4 rfl ?_
  refine q_iload_n dX7_bestFlip_5 rfl ?_
  refine q_V1 dX7_bestFlip_6 ml_7_172 md_X7_requireMap (c_requireMap hC hk) rfl rfl rfl (by first | decide | omega) (Nat.le_of_ble_eq_true rfl) (Nat.le_of_ble_eq_true rfl) (qk_G (fun hq6 => ?_) (Scr_rf hC))
  refine q_aload_n dX7_bestFlip_9 rfl ?_
  refine q_iload_n dX7_bestFlip_10 rfl ?_
  refine q_iload_n dX7_bestFlip_11 rfl ?_
  refine q_V2 dX7_bestFlip_12 ml_7_182 md_X7_requireRange (c_requireRange hL hLv hf ht) rfl rfl rfl (by first | decide | omega) (Nat.le_of_ble_eq_true rfl) (Nat.le_of_ble_eq_true rfl) (qk_G (fun hq12 => ?_) (Scr_rf hC))
  have hmk := CI_mp hC hq6
  have hps := CI_rg hL hq12
  refine q_aload_n dX7_bestFlip_15 rfl ?_
  refine q_getr dX7_bestFlip_16 fl_7_37 rfl rfl ?_
  refine q_iload_n dX7_bestFlip_19 rfl ?_
  refine q_aload_n dX7_bestFlip_20 rfl ?_
  refine q_geti (j := 10) dX7_bestFlip_21 fl_7_121 rfl rfl rfl ?_
  rw [hL]
  refine q_V2 dX7_bestFlip_24 ml_7_213 md_X6_measure (c_mea hC hLv (by omega)) rfl rfl rfl (by first | decide | omega) (Nat.le_of_ble_eq_true rfl) (Nat.le_of_ble_eq_true rfl) (qk_h (fun N24 hq24 => ?_))
  obtain ⟨Kq, Yq, Sq, Cq, Tq, Nq, rfl, hTq⟩ := hq24
  have hfl : ∀ y, f ≤ y → y ≤ t → qCt mX6_sizeIfFlipped 0 3 [.ref 5, .int (zI y)] (tw (qup (qup M 5 7 k) 5 8 (L : Int)) Kq Yq Sq Cq Tq Nq) (qpe (tsz (flc (rowc M k) y) L 0) (tw (qup (qup M 5 7 k) 5 8 (L : Int)) Kq Yq Sq Cq Tq Nq)) := fun y y0 y1 => c_sizeIfFlipped hLv (h87 M k L).1 (h87 M k L).2 (by omega) (fun j _ _ => by simp [qup, rowc]) (CI_ok2 hC (by omega)) hTq ⟨by omega, by omega⟩
  refine q_iload_n dX7_bestFlip_27 rfl ?_
  refine q_istore dX7_bestFlip_28 (Nat.le_of_ble_eq_true rfl) rfl ?_
  refine q_aload_n dX7_bestFlip_30 rfl ?_
  refine q_getr dX7_bestFlip_31 fl_7_37 rfl rfl ?_
  refine q_iload_n dX7_bestFlip_34 rfl ?_
  refine q_V1 dX7_bestFlip_35 ml_7_274 md_X6_sizeIfFlipped (hfl f (by omega) (by omega)) rfl rfl rfl (by first | decide | omega) (Nat.le_of_ble_eq_true rfl) (Nat.le_of_ble_eq_true rfl) (qk_e ?_)
  refine q_istore dX7_bestFlip_38 (Nat.le_of_ble_eq_true rfl) rfl ?_
  refine q_iload_n dX7_bestFlip_40 rfl ?_
  refine q_iconst dX7_bestFlip_41 ?_
  refine q_iadd dX7_bestFlip_42 ?_
  refine q_istore dX7_bestFlip_43 (Nat.le_of_ble_eq_true rfl) rfl ?_
  refine q_lp (fun n : Nat => (t - f + 2).toNat - n) (fun n => 1 ≤ n ∧ (n : Int) ≤ t - f + 1) (fun n => [some (.ref 0), some (.int (zI k)), some (.int (zI f)), some (.int (zI t)), some (.int (zI (bst (fun p => tsz (flc (rowc M k) p) L 0) (-1) f n))), some (.int (zI (tsz (flc (rowc M k) (bst (fun p => tsz (flc (rowc M k) p) L 0) (-1) f n)) L 0))), some (.int (zI (f + n))), none]) (fun _ => tw (qup (qup M 5 7 k) 5 8 (L : Int)) Kq Yq Sq Cq Tq Nq) 1 (by
      have e0 : bst (fun p => tsz (flc (rowc M k) p) L 0) (-1) f 1 = f := by
        show (if f + ((0 : Nat) : Int) ≠ -1 ∧ _ then f + ((0 : Nat) : Int) else _) = f
        rw [if_pos ⟨by omega, Or.inl rfl⟩]
        omega
      rw [e0]
      rfl) rfl ⟨by omega, by omega⟩ (fun n hn ih => ?_)
  have hb := bst_in (fun p => tsz (flc (rowc M k) p) L 0) (-1) hps.1 n
  have hbs : bst (fun p => tsz (flc (rowc M k) p) L 0) (-1) f (n + 1) = if f + (n : Int) ≠ -1 ∧ (bst (fun p => tsz (flc (rowc M k) p) L 0) (-1) f n = -1 ∨ tsz (flc (rowc M k) (f + n)) L 0 < tsz (flc (rowc M k) (bst (fun p => tsz (flc (rowc M k) p) L 0) (-1) f n)) L 0) then f + (n : Int) else bst (fun p => tsz (flc (rowc M k) p) L 0) (-1) f n := rfl
  have hb1 : bst (fun p => tsz (flc (rowc M k) p) L 0) (-1) f n ≠ -1 := by
    obtain ⟨m, rfl⟩ : ∃ m, n = m + 1 := ⟨n - 1, by omega⟩
    have hbm : bst (fun p => tsz (flc (rowc M k) p) L 0) (-1) f (m + 1) = if f + (m : Int) ≠ -1 ∧ (bst (fun p => tsz (flc (rowc M k) p) L 0) (-1) f m = -1 ∨ tsz (flc (rowc M k) (f + m)) L 0 < tsz (flc (rowc M k) (bst (fun p => tsz (flc (rowc M k) p) L 0) (-1) f m)) L 0) then f + (m : Int) else bst (fun p => tsz (flc (rowc M k) p) L 0) (-1) f m := rfl
    rw [hbm]
    by_cases e : f + (m : Int) ≠ -1 ∧ (bst (fun p => tsz (flc (rowc M k) p) L 0) (-1) f m = -1 ∨ tsz (flc (rowc M k) (f + m)) L 0 < tsz (flc (rowc M k) (bst (fun p => tsz (flc (rowc M k) p) L 0) (-1) f m)) L 0)
    · rw [if_pos e]; omega
    · rw [if_neg e]; exact fun e2 => e ⟨by omega, Or.inl e2⟩
  generalize hg : bst (fun p => tsz (flc (rowc M k) p) L 0) (-1) f n = w at hb hbs hb1
  have hti := tsz_in (flc (rowc M k) (f + n)) L 0
  have htw := tsz_in (flc (rowc M k) w) L 0
  refine q_iload dX7_bestFlip_45 rfl ?_
  refine q_iload_n dX7_bestFlip_47 rfl ?_
  refine q_icmp_gt (tgt := 83) dX7_bestFlip_48 rfl (by (first | (unfold zR; omega) | (unfold zLR; omega) | omega | (simp only [zR, qup] at *; omega) | (simp [zR, qup]; omega) | (simp [zR, qup]; done))) (by (first | (unfold zR; omega) | (unfold zLR; omega) | omega | (simp only [zR, qup] at *; omega) | (simp [zR, qup]; omega) | (simp [zR, qup]; done))) (fun h48 => ?_) (fun h48 => ?_)
  rotate_left
  ·
    refine q_aload_n dX7_bestFlip_51 rfl ?_
    refine q_getr dX7_bestFlip_52 fl_7_37 rfl rfl ?_
    refine q_iload dX7_bestFlip_55 rfl ?_
    refine q_V1 dX7_bestFlip_57 ml_7_274 md_X6_sizeIfFlipped (hfl (f + n) (by omega) (by omega)) rfl rfl rfl (by first | decide | omega) (Nat.le_of_ble_eq_true rfl) (Nat.le_of_ble_eq_true rfl) (qk_e ?_)
    refine q_istore dX7_bestFlip_60 (Nat.le_of_ble_eq_true rfl) rfl ?_
    refine q_iload dX7_bestFlip_62 rfl ?_
    refine q_iload dX7_bestFlip_64 rfl ?_
    refine q_icmp_ge (tgt := 77) dX7_bestFlip_66 rfl (by (first | (unfold zR; omega) | (unfold zLR; omega) | omega | (simp only [zR, qup] at *; omega) | (simp [zR, qup]; omega) | (simp [zR, qup]; done))) (by (first | (unfold zR; omega) | (unfold zLR; omega) | omega | (simp only [zR, qup] at *; omega) | (simp [zR, qup]; omega) | (simp [zR, qup]; done))) (fun h66 => ?_) (fun h66 => ?_)
    ·
      refine q_iinc dX7_bestFlip_77 rfl (Nat.le_of_ble_eq_true rfl) rfl ?_
      refine q_goto (tgt := 45) dX7_bestFlip_80 rfl ?_
      have e1 : bst (fun p => tsz (flc (rowc M k) p) L 0) (-1) f (n + 1) = w := by rw [hbs, if_neg (fun q => q.2.elim (fun q => hb1 q) (fun q => by omega))]
      refine q_wk _ ?_ (ih (n + 1) _ _ ⟨by omega, by omega⟩ (by omega) rfl rfl)
      simp only [wkB, e1]
      rw [show f + ((n + 1 : Nat) : Int) = f + (n : Int) + 1 by omega]
      (repeat (first | exact rfl | exact trivial | refine ⟨rfl, ?_⟩))
    ·
      refine q_iload dX7_bestFlip_69 rfl ?_
      refine q_istore dX7_bestFlip_71 (Nat.le_of_ble_eq_true rfl) rfl ?_
      refine q_iload dX7_bestFlip_73 rfl ?_
      refine q_istore dX7_bestFlip_75 (Nat.le_of_ble_eq_true rfl) rfl ?_
      refine q_iinc dX7_bestFlip_77 rfl (Nat.le_of_ble_eq_true rfl) rfl ?_
      refine q_goto (tgt := 45) dX7_bestFlip_80 rfl ?_
      have e1 : bst (fun p => tsz (flc (rowc M k) p) L 0) (-1) f (n + 1) = f + n := by rw [hbs, if_pos ⟨by omega, Or.inr (by omega)⟩]
      refine q_wk _ ?_ (ih (n + 1) _ _ ⟨by omega, by omega⟩ (by omega) rfl rfl)
      simp only [wkB, e1]
      rw [show f + ((n + 1 : Nat) : Int) = f + (n : Int) + 1 by omega]
      (repeat (first | exact rfl | exact trivial | refine ⟨rfl, ?_⟩))
  refine q_iload dX7_bestFlip_83 rfl ?_
  refine q_ireturn dX7_bestFlip_85 ?_
  exact gxk rfl ⟨by rw [← hg, show (t - f + 1).toNat = n by omega], Scr_tm hC hTq⟩
set_option maxHeartbeats 2000000 in
theorem k_bytesFilled (hC : CI M) (hL : M 0 10 = (L : Int)) (hk : zR k) (hf : zR f) (ht : zR t) (hb : zR b) : qCt mX7_bytesFilled 6 9 [.ref 0, .int (zI k), .int (zI f), .int (zI t), .int (zI b)] M (qpx (gor (gText M) (gor (gMap M k) (gor (gRng M f t) (gor (gBit b) 0)))) (fun z M' => z = tsz (covF (rowc M k) f t b) L 0 ∧ Scr M M') (Scr M)) := by
  refine q_intro (own := 7) (L := [some (.ref 0), some (.int (zI k)), some (.int (zI f)), some (.int (zI t)), some (.int (zI b))]) md_X7_bytesFilled rfl rfl rfl (Nat.le_of_ble_eq_true rfl) (fun X => ?_)
  refine q_aload_n dX7_bytesFilled_0 rfl ?_
  refine q_V0 dX7_bytesFilled_1 ml_7_141 md_X7_requireText (c_requireText hC) rfl rfl rfl (by first | decide | omega) (Nat.le_of_ble_eq_true rfl) (Nat.le_of_ble_eq_true rfl) (qk_G (fun hq1 => ?_) (Scr_rf hC))
  have hLv := CI_lv hC hL hq1
  refine q_aload_n dX7_bytesFilled_4 rfl ?_
  refine q_iload_n dX7_bytesFilled_5 rfl ?_
  refine q_V1 dX7_bytesFilled_6 ml_7_172 md_X7_requireMap (c_requireMap hC hk) rfl rfl rfl (by first | decide | omega) (Nat.le_of_ble_eq_true rfl) (Nat.le_of_ble_eq_true rfl) (qk_G (fun hq6 => ?_) (Scr_rf hC))
  refine q_aload_n dX7_bytesFilled_9 rfl ?_
  refine q_iload_n dX7_bytesFilled_10 rfl ?_
  refine q_iload_n dX7_bytesFilled_11 rfl ?_
  refine q_V2 dX7_bytesFilled_12 ml_7_182 md_X7_requireRange (c_requireRange hL hLv hf ht) rfl rfl rfl (by first | decide | omega) (Nat.le_of_ble_eq_true rfl) (Nat.le_of_ble_eq_true rfl) (qk_G (fun hq12 => ?_) (Scr_rf hC))
  refine q_aload_n dX7_bytesFilled_15 rfl ?_
  refine q_iload dX7_bytesFilled_16 rfl ?_
  refine q_V1 dX7_bytesFilled_18 ml_7_189 md_X7_requireBit (c_requireBit hb) rfl rfl rfl (by first | decide | omega) (Nat.le_of_ble_eq_true rfl) (Nat.le_of_ble_eq_true rfl) (qk_G (fun hq18 => ?_) (Scr_rf hC))
  have hmk := CI_mp hC hq6
  have hps := CI_rg hL hq12
  have hbb := gBit_0.1 hq18
  have hS1 : Scr M (qrow M 32 (rowc M k)) := Scr_32 hC (CI_ok hC (by omega))
  have hS : Scr M (qrow M 32 (covF (rowc (qrow M 32 (rowc M k)) 32) f t b)) := Scr_32 hC (fun i h0 h1 => covF_in hbb)
  refine q_aload_n dX7_bytesFilled_21 rfl ?_
  refine q_getr dX7_bytesFilled_22 fl_7_26 rfl rfl ?_
  refine q_iload_n dX7_bytesFilled_25 rfl ?_
  refine q_bipush dX7_bytesFilled_26 rfl ?_
  refine q_V2 dX7_bytesFilled_28 ml_7_135 md_X0_copyRow (c_copyRow (by omega) (by omega)) rfl rfl rfl (by first | decide | omega) (Nat.le_of_ble_eq_true rfl) (Nat.le_of_ble_eq_true rfl) (qk_v ?_)
  refine q_aload_n dX7_bytesFilled_31 rfl ?_
  refine q_getr dX7_bytesFilled_32 fl_7_26 rfl rfl ?_
  refine q_bipush dX7_bytesFilled_35 rfl ?_
  refine q_iload_n dX7_bytesFilled_37 rfl ?_
  refine q_iload_n dX7_bytesFilled_38 rfl ?_
  refine q_iload dX7_bytesFilled_39 rfl ?_
  refine q_V4 dX7_bytesFilled_41 ml_7_277 md_X0_cover (c_cover (by omega) (by omega) (by omega) (by omega) hbb (CI_ok (Scr_CI hC hS1) (by omega))) rfl rfl rfl (by first | decide | omega) (Nat.le_of_ble_eq_true rfl) (Nat.le_of_ble_eq_true rfl) (qk_v ?_)
  rw [qrow_row]
  refine q_aload_n dX7_bytesFilled_44 rfl ?_
  refine q_bipush dX7_bytesFilled_45 rfl ?_
  refine q_V1 dX7_bytesFilled_47 ml_7_202 md_X7_sizeOfRow (c_sizeR (Scr_CI hC hS) (by rw [Scr_lv hS]; exact hL) hLv (by omega)) rfl rfl rfl (by first | decide | omega) (Nat.le_of_ble_eq_true rfl) (Nat.le_of_ble_eq_true rfl) (qk_g (fun z47 N47 hq47 => ?_))
  obtain ⟨hz, hS2⟩ := hq47
  rw [tsz_row hLv.2 row_at, tsz_row hLv.2 (cov_c row_at f t b)] at hz
  refine q_ireturn dX7_bytesFilled_50 ?_
  exact gxk rfl ⟨hz, Scr_tr hS hS2⟩
set_option maxHeartbeats 2000000 in
theorem k_bytesShifted (hC : CI M) (hL : M 0 10 = (L : Int)) (hk : zR k) (hb : zR b) : qCt mX7_bytesShifted 2 9 [.ref 0, .int (zI k), .int (zI b)] M (qpx (gor (gText M) (gor (gMap M k) 0)) (fun z M' => z = tsz (mkF (shS (rowc M k) b (8 * p4 L)) 0 (8 * p4 L)) L 0 ∧ Scr M M') (Scr M)) := by
  have hpin := p4_in (L : Int)
  refine q_intro (own := 7) (L := [some (.ref 0), some (.int (zI k)), some (.int (zI b))]) md_X7_bytesShifted rfl rfl rfl (Nat.le_of_ble_eq_true rfl) (fun X => ?_)
  refine q_aload_n dX7_bytesShifted_0 rfl ?_
  refine q_V0 dX7_bytesShifted_1 ml_7_141 md_X7_requireText (c_requireText hC) rfl rfl rfl (by first | decide | omega) (Nat.le_of_ble_eq_true rfl) (Nat.le_of_ble_eq_true rfl) (qk_G (fun hq1 => ?_) (Scr_rf hC))
  have hLv := CI_lv hC hL hq1
  refine q_aload_n dX7_bytesShifted_4 rfl ?_
  refine q_iload_n dX7_bytesShifted_5 rfl ?_
  refine q_V1 dX7_bytesShifted_6 ml_7_172 md_X7_requireMap (c_requireMap hC hk) rfl rfl rfl (by first | decide | omega) (Nat.le_of_ble_eq_true rfl) (Nat.le_of_ble_eq_true rfl) (qk_G (fun hq6 => ?_) (Scr_rf hC))
  have hmk := CI_mp hC hq6
  have hS : Scr M (qrow M 32 (mkF (shS (rowc M k) b (8 * p4 L)) 0 (8 * p4 L))) := Scr_32 hC (fun i h0 h1 => mkF_in (shS_01 _ _ _))
  refine q_aload_n dX7_bytesShifted_9 rfl ?_
  refine q_getr dX7_bytesShifted_10 fl_7_26 rfl rfl ?_
  refine q_iload_n dX7_bytesShifted_13 rfl ?_
  refine q_iload_n dX7_bytesShifted_14 rfl ?_
  refine q_bipush dX7_bytesShifted_15 rfl ?_
  refine q_aload_n dX7_bytesShifted_17 rfl ?_
  refine q_geti (j := 10) dX7_bytesShifted_18 fl_7_121 rfl rfl rfl ?_
  rw [hL]
  refine q_S1 dX7_bytesShifted_21 ml_7_164 md_X7_cellsIn (c_cellsIn (by omega)) rfl (by first | decide | omega) (Nat.le_of_ble_eq_true rfl) (Nat.le_of_ble_eq_true rfl) (qk_e ?_)
  refine q_imul dX7_bytesShifted_24 ?_
  refine q_bipush dX7_bytesShifted_25 rfl ?_
  refine q_V4 dX7_bytesShifted_27 ml_7_280 md_X0_slide (c_slide (by omega) (by omega) (by omega) (by omega) hb (CI_ok hC (by omega))) rfl rfl rfl (by first | decide | omega) (Nat.le_of_ble_eq_true rfl) (Nat.le_of_ble_eq_true rfl) (qk_v ?_)
  refine q_aload_n dX7_bytesShifted_30 rfl ?_
  refine q_bipush dX7_bytesShifted_31 rfl ?_
  refine q_V1 dX7_bytesShifted_33 ml_7_202 md_X7_sizeOfRow (c_sizeR (Scr_CI hC hS) (by rw [Scr_lv hS]; exact hL) hLv (by omega)) rfl rfl rfl (by first | decide | omega) (Nat.le_of_ble_eq_true rfl) (Nat.le_of_ble_eq_true rfl) (qk_g (fun z33 N33 hq33 => ?_))
  obtain ⟨hz, hS2⟩ := hq33
  rw [tsz_row hLv.2 row_at] at hz
  refine q_ireturn dX7_bytesShifted_36 ?_
  exact gxk rfl ⟨hz, Scr_tr hS hS2⟩
set_option maxHeartbeats 2000000 in
theorem k_mostLike (hC : CI M) (hL : M 0 10 = (L : Int)) (hk : zR k) (hl : zR l) (hxr : zR x) : qCt mX7_mostLike 4 9 [.ref 0, .int (zI k), .int (zI l), .int (zI x)] M (qpx (gor (gText M) (gor (gMap M k) (gor (gBlk M l x) 0))) (fun z M' => z = bst (fun y => unl (rowc M k) (rowc M k) (p4 l * x) (p4 l * y) (p4 l)) x 0 (p4 ((L : Int) - l)).toNat ∧ M' = M) (Scr M)) := by
  have hpin := p4_in (L : Int)
  have hpil := p4_in l
  have hpid := p4_in ((L : Int) - l)
  refine q_intro (own := 7) (L := [some (.ref 0), some (.int (zI k)), some (.int (zI l)), some (.int (zI x)), none, none, none, none, none]) md_X7_mostLike rfl rfl rfl (Nat.le_of_ble_eq_true rfl) (fun X => ?_)
  refine q_aload_n dX7_mostLike_0 rfl ?_
  refine q_V0 dX7_mostLike_1 ml_7_141 md_X7_requireText (c_requireText hC) rfl rfl rfl (by first | decide | omega) (Nat.le_of_ble_eq_true rfl) (Nat.le_of_ble_eq_true rfl) (qk_G (fun hq1 => ?_) (Scr_rf hC))
  have hLv := CI_lv hC hL hq1
  refine q_aload_n dX7_mostLike_4 rfl ?_
  refine q_iload_n dX7_mostLike_5 rfl ?_
  refine q_V1 dX7_mostLike_6 ml_7_172 md_X7_requireMap (c_requireMap hC hk) rfl rfl rfl (by first | decide | omega) (Nat.le_of_ble_eq_true rfl) (Nat.le_of_ble_eq_true rfl) (qk_G (fun hq6 => ?_) (Scr_rf hC))
  refine q_aload_n dX7_mostLike_9 rfl ?_
  refine q_iload_n dX7_mostLike_10 rfl ?_
  refine q_iload_n dX7_mostLike_11 rfl ?_
  refine q_V2 dX7_mostLike_12 ml_7_225 md_X7_requireBlock (c_requireBlock hL hLv hl hxr) rfl rfl rfl (by first | decide | omega) (Nat.le_of_ble_eq_true rfl) (Nat.le_of_ble_eq_true rfl) (qk_G (fun hq12 => ?_) (Scr_rf hC))
  have hmk := CI_mp hC hq6
  have hbk := gBlk_0.1 hq12
  rw [hL] at hbk
  have hbi := blk_in hLv.2 hbk.1 hbk.2
  refine q_iload_n dX7_mostLike_15 rfl ?_
  refine q_S1 dX7_mostLike_16 ml_7_164 md_X7_cellsIn (c_cellsIn (by omega)) rfl (by first | decide | omega) (Nat.le_of_ble_eq_true rfl) (Nat.le_of_ble_eq_true rfl) (qk_e ?_)
  refine q_istore dX7_mostLike_19 (Nat.le_of_ble_eq_true rfl) rfl ?_
  refine q_iconst dX7_mostLike_21 ?_
  refine q_istore dX7_mostLike_22 (Nat.le_of_ble_eq_true rfl) rfl ?_
  refine q_iconst dX7_mostLike_24 ?_
  refine q_istore dX7_mostLike_25 (Nat.le_of_ble_eq_true rfl) rfl ?_
  refine q_iconst dX7_mostLike_27 ?_
  refine q_istore dX7_mostLike_28 (Nat.le_of_ble_eq_true rfl) rfl ?_
  refine q_lp (fun i : Nat => (p4 ((L : Int) - l)).toNat - i) (fun i => (i : Int) ≤ p4 ((L : Int) - l)) (fun i => [some (.ref 0), some (.int (zI k)), some (.int (zI l)), some (.int (zI x)), some (.int (zI (p4 l))), some (.int (zI (bst (fun y => unl (rowc M k) (rowc M k) (p4 l * x) (p4 l * y) (p4 l)) x 0 i))), some (.int (zI (if bst (fun y => unl (rowc M k) (rowc M k) (p4 l * x) (p4 l * y) (p4 l)) x 0 i = -1 then 0 else unl (rowc M k) (rowc M k) (p4 l * x) (p4 l * bst (fun y => unl (rowc M k) (rowc M k) (p4 l * x) (p4 l * y) (p4 l)) x 0 i) (p4 l)))), some (.int (zI (i : Int))), none]) (fun _ => M) 0 rfl rfl (by omega) (fun i hi1 ih => ?_)
  have hb := bst_in (fun y => unl (rowc M k) (rowc M k) (p4 l * x) (p4 l * y) (p4 l)) x (Int.le_refl 0) i
  have hbs : bst (fun y => unl (rowc M k) (rowc M k) (p4 l * x) (p4 l * y) (p4 l)) x 0 (i + 1) = if (0 : Int) + i ≠ x ∧ (bst (fun y => unl (rowc M k) (rowc M k) (p4 l * x) (p4 l * y) (p4 l)) x 0 i = -1 ∨ unl (rowc M k) (rowc M k) (p4 l * x) (p4 l * (0 + i)) (p4 l) < unl (rowc M k) (rowc M k) (p4 l * x) (p4 l * bst (fun y => unl (rowc M k) (rowc M k) (p4 l * x) (p4 l * y) (p4 l)) x 0 i) (p4 l)) then 0 + (i : Int) else bst (fun y => unl (rowc M k) (rowc M k) (p4 l * x) (p4 l * y) (p4 l)) x 0 i := rfl
  rw [Int.zero_add] at hbs
  generalize hg : bst (fun y => unl (rowc M k) (rowc M k) (p4 l * x) (p4 l * y) (p4 l)) x 0 i = w at hb hbs
  have hti := unl_in (rowc M k) (rowc M k) (p4 l * x) (p4 l * i) (show 0 ≤ p4 l by omega)
  have htw := unl_in (rowc M k) (rowc M k) (p4 l * x) (p4 l * w) (show 0 ≤ p4 l by omega)
  have e2 : (if (i : Int) = -1 then 0 else unl (rowc M k) (rowc M k) (p4 l * x) (p4 l * i) (p4 l)) = unl (rowc M k) (rowc M k) (p4 l * x) (p4 l * i) (p4 l) := if_neg (by omega)
  have hiw : 0 ≤ (if w = -1 then 0 else unl (rowc M k) (rowc M k) (p4 l * x) (p4 l * w) (p4 l)) ∧ (if w = -1 then 0 else unl (rowc M k) (rowc M k) (p4 l * x) (p4 l * w) (p4 l)) ≤ 2048 := by
    by_cases e : w = -1
    · rw [if_pos e]; omega
    · rw [if_neg e]; omega
  refine q_iload dX7_mostLike_30 rfl ?_
  refine q_iload_n dX7_mostLike_32 rfl ?_
  refine q_aload_n dX7_mostLike_33 rfl ?_
  refine q_geti (j := 10) dX7_mostLike_34 fl_7_121 rfl rfl rfl ?_
  rw [hL]
  refine q_S2 dX7_mostLike_37 ml_7_268 md_X7_blocksAt (c_blocksAt (by omega)) rfl (by first | decide | omega) (Nat.le_of_ble_eq_true rfl) (Nat.le_of_ble_eq_true rfl) (qk_e ?_)
  refine q_icmp_ge (tgt := 98) dX7_mostLike_40 rfl (by (first | (unfold zR; omega) | (unfold zLR; omega) | omega | (simp only [zR, qup] at *; omega) | (simp [zR, qup]; omega) | (simp [zR, qup]; done))) (by (first | (unfold zR; omega) | (unfold zLR; omega) | omega | (simp only [zR, qup] at *; omega) | (simp [zR, qup]; omega) | (simp [zR, qup]; done))) (fun h40 => ?_) (fun h40 => ?_)
  rotate_left
  ·
    have hby := blk_in hLv.2 hbk.1 (x := (i : Int)) ⟨by omega, h40⟩
    refine q_aload_n dX7_mostLike_43 rfl ?_
    refine q_getr dX7_mostLike_44 fl_7_26 rfl rfl ?_
    refine q_iload_n dX7_mostLike_47 rfl ?_
    refine q_iload_n dX7_mostLike_48 rfl ?_
    refine q_iload dX7_mostLike_49 rfl ?_
    refine q_imul dX7_mostLike_51 ?_
    refine q_iload_n dX7_mostLike_52 rfl ?_
    refine q_iload dX7_mostLike_53 rfl ?_
    refine q_iload dX7_mostLike_55 rfl ?_
    refine q_imul dX7_mostLike_57 ?_
    refine q_iload dX7_mostLike_58 rfl ?_
    rw [Int.mul_comm x (p4 l), Int.mul_comm (i : Int) (p4 l)]
    refine q_V5 dX7_mostLike_60 ml_7_261 md_X0_unlikeBits (c_unl (by omega) (by omega) (by omega) (by omega) (by omega) hC) rfl rfl rfl (by first | decide | omega) (Nat.le_of_ble_eq_true rfl) (Nat.le_of_ble_eq_true rfl) (qk_e ?_)
    refine q_istore dX7_mostLike_63 (Nat.le_of_ble_eq_true rfl) rfl ?_
    refine q_iload dX7_mostLike_65 rfl ?_
    refine q_iload_n dX7_mostLike_67 rfl ?_
    refine q_icmp_eq (tgt := 92) dX7_mostLike_68 rfl (by (first | (unfold zR; omega) | (unfold zLR; omega) | omega | (simp only [zR, qup] at *; omega) | (simp [zR, qup]; omega) | (simp [zR, qup]; done))) (by (first | (unfold zR; omega) | (unfold zLR; omega) | omega | (simp only [zR, qup] at *; omega) | (simp [zR, qup]; omega) | (simp [zR, qup]; done))) (fun h68 => ?_) (fun h68 => ?_)
    ·
      refine q_iinc dX7_mostLike_92 rfl (Nat.le_of_ble_eq_true rfl) rfl ?_
      refine q_goto (tgt := 30) dX7_mostLike_95 rfl ?_
      have e1 : bst (fun y => unl (rowc M k) (rowc M k) (p4 l * x) (p4 l * y) (p4 l)) x 0 (i + 1) = w := by rw [hbs, if_neg (fun q => q.1 h68)]
      refine q_wk _ ?_ (ih (i + 1) _ _ (by omega) (by omega) rfl rfl)
      simp only [wkB, e1]
      (repeat (first | exact rfl | exact trivial | refine ⟨rfl, ?_⟩))
    ·
      refine q_iload dX7_mostLike_71 rfl ?_
      refine q_iconst dX7_mostLike_73 ?_
      refine q_icmp_eq (tgt := 84) dX7_mostLike_74 rfl (by (first | (unfold zR; omega) | (unfold zLR; omega) | omega | (simp only [zR, qup] at *; omega) | (simp [zR, qup]; omega) | (simp [zR, qup]; done))) (by (first | (unfold zR; omega) | (unfold zLR; omega) | omega | (simp only [zR, qup] at *; omega) | (simp [zR, qup]; omega) | (simp [zR, qup]; done))) (fun h74 => ?_) (fun h74 => ?_)
      ·
        refine q_iload dX7_mostLike_84 rfl ?_
        refine q_istore dX7_mostLike_86 (Nat.le_of_ble_eq_true rfl) rfl ?_
        refine q_iload dX7_mostLike_88 rfl ?_
        refine q_istore dX7_mostLike_90 (Nat.le_of_ble_eq_true rfl) rfl ?_
        refine q_iinc dX7_mostLike_92 rfl (Nat.le_of_ble_eq_true rfl) rfl ?_
        refine q_goto (tgt := 30) dX7_mostLike_95 rfl ?_
        have e1 : bst (fun y => unl (rowc M k) (rowc M k) (p4 l * x) (p4 l * y) (p4 l)) x 0 (i + 1) = i := by rw [hbs, if_pos ⟨h68, Or.inl h74⟩]
        refine q_wk _ ?_ (ih (i + 1) _ _ (by omega) (by omega) rfl rfl)
        simp only [wkB, e1, e2]
        (repeat (first | exact rfl | exact trivial | refine ⟨rfl, ?_⟩))
      ·
        refine q_iload dX7_mostLike_77 rfl ?_
        refine q_iload dX7_mostLike_79 rfl ?_
        refine q_icmp_ge (tgt := 92) dX7_mostLike_81 rfl (by (first | (unfold zR; omega) | (unfold zLR; omega) | omega | (simp only [zR, qup] at *; omega) | (simp [zR, qup]; omega) | (simp [zR, qup]; done))) (by (first | (unfold zR; omega) | (unfold zLR; omega) | omega | (simp only [zR, qup] at *; omega) | (simp [zR, qup]; omega) | (simp [zR, qup]; done))) (fun h81 => ?_) (fun h81 => ?_)
        ·
          refine q_iinc dX7_mostLike_92 rfl (Nat.le_of_ble_eq_true rfl) rfl ?_
          refine q_goto (tgt := 30) dX7_mostLike_95 rfl ?_
          have e1 : bst (fun y => unl (rowc M k) (rowc M k) (p4 l * x) (p4 l * y) (p4 l)) x 0 (i + 1) = w := by rw [hbs, if_neg (fun q => q.2.elim (fun q => h74 q) (fun q => by rw [if_neg h74] at h81; omega))]
          refine q_wk _ ?_ (ih (i + 1) _ _ (by omega) (by omega) rfl rfl)
          simp only [wkB, e1]
          (repeat (first | exact rfl | exact trivial | refine ⟨rfl, ?_⟩))
        ·
          refine q_iload dX7_mostLike_84 rfl ?_
          refine q_istore dX7_mostLike_86 (Nat.le_of_ble_eq_true rfl) rfl ?_
          refine q_iload dX7_mostLike_88 rfl ?_
          refine q_istore dX7_mostLike_90 (Nat.le_of_ble_eq_true rfl) rfl ?_
          refine q_iinc dX7_mostLike_92 rfl (Nat.le_of_ble_eq_true rfl) rfl ?_
          refine q_goto (tgt := 30) dX7_mostLike_95 rfl ?_
          have e1 : bst (fun y => unl (rowc M k) (rowc M k) (p4 l * x) (p4 l * y) (p4 l)) x 0 (i + 1) = i := by rw [hbs, if_pos ⟨h68, Or.inr (by rw [if_neg h74] at h81; omega)⟩]
          refine q_wk _ ?_ (ih (i + 1) _ _ (by omega) (by omega) rfl rfl)
          simp only [wkB, e1, e2]
          (repeat (first | exact rfl | exact trivial | refine ⟨rfl, ?_⟩))
  refine q_iload dX7_mostLike_98 rfl ?_
  refine q_ireturn dX7_mostLike_100 ?_
  exact gxk rfl ⟨by rw [← hg, show (p4 ((L : Int) - l)).toNat = i by omega], rfl⟩
end GH


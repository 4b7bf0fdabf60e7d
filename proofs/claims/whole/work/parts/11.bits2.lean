theorem qrow_step (M : qM) {r i v : Int} {F G : Int → Int} (h : 0 ≤ i ∧ i < 256) (hv : v = F i) : qup (qrow M r (fun k => if k < i then F k else G k)) 4 (r * 256 + i) v = qrow M r (fun k => if k < i + 1 then F k else G k) := by
  rw [qrow_put M _ h, hv]
  refine qrow_congr M (fun k h1 h2 => ?_)
  by_cases e1 : k = i
  · rw [if_pos e1, if_pos (by omega), e1]
  · rw [if_neg e1]
    by_cases e2 : k < i
    · rw [if_pos e2, if_pos (by omega)]
    · rw [if_neg e2, if_neg (by omega)]
theorem qrow_next (M : qM) {r i : Int} {F G : Int → Int} (h : 0 ≤ i ∧ i < 256) : qrow M r (fun k => if k < i then F k else G k) 4 (r * 256 + i) = G i := by
  rw [qrow_at M _ h]
  exact if_neg (by omega)
theorem ofB01 {f t b k : Int} {c : Int → Int} (hb : b = 0 ∨ b = 1) : ∀ j, 0 ≤ j → j < 8 → (fun j => if f ≤ 8 * k + j ∧ 8 * k + j ≤ t then b else zbit (c k) j) j = 0 ∨ (fun j => if f ≤ 8 * k + j ∧ 8 * k + j ≤ t then b else zbit (c k) j) j = 1 := fun j _ _ => ite_in hb (zbit_01 _ _)
theorem covF_in {c : Int → Int} {f t b k : Int} (hb : b = 0 ∨ b = 1) : 0 ≤ covF c f t b k ∧ covF c f t b k < 256 := ofBits_in (ofB01 hb)
theorem flpF_in {c : Int → Int} {f t k : Int} : 0 ≤ flpF c f t k ∧ flpF c f t k < 256 := ofBits_in (fun j _ _ => ite_in (by have := zbit_01 (c k) j; omega) (zbit_01 _ _))
theorem ones_step {c : Int → Int} {f t i : Int} (h0 : 0 ≤ i) (hv : 0 ≤ c i ∧ c i < 256) : zsum (ind c f t) 0 (8 * i).toNat + zpop (zand (c i) (maskv i f t)) = zsum (ind c f t) 0 (8 * (i + 1)).toNat := by
  rw [cell_ones h0 hv, show (8 * (i + 1)).toNat = (8 * i).toNat + 8 by omega, zsum_add]
  congr 2
  omega
theorem ones_lo {c : Int → Int} {f t : Int} {n : Nat} (h : (n : Int) ≤ f) : zsum (ind c f t) 0 n = 0 := zsum_0 (fun i h1 h2 => if_neg (by omega))
theorem ones_hi {c : Int → Int} {f t i : Int} (h0 : 0 ≤ i) (h1 : i ≤ 256) (h : t < 8 * i) : zsum (ind c f t) 0 (8 * i).toNat = onesI c f t := by
  unfold onesI
  rw [show 2048 = (8 * i).toNat + (2048 - 8 * i).toNat by omega, zsum_add, zsum_0 (f := ind c f t) (a := 0 + ((8 * i).toNat : Int)) (fun p h2 h3 => if_neg (by omega)), Int.add_zero]
theorem ones_R {c : Int → Int} {f t : Int} {n : Nat} (h : n ≤ 2048) : 0 ≤ zsum (ind c f t) 0 n ∧ zsum (ind c f t) 0 n ≤ 2048 := by
  have := zsum_in (f := ind c f t) (a := 0) (B := 1) (n := n) (fun i _ _ => by have := ind_01 c f t i; omega)
  omega
set_option maxHeartbeats 1000000 in
theorem c_onesIn {r f t : Int} {M : qM} (hr : 0 ≤ r ∧ r < 33) (hf : 0 ≤ f ∧ f < 2048) (ht : 0 ≤ t ∧ t < 2048) (hft : f ≤ t) (ok : rowOk M r) : qCt mX0_onesIn 0 1 [.ref 3, .int (zI r), .int (zI f), .int (zI t)] M (qpe (onesI (rowc M r) f t) M) := by
  refine q_intro (own := 0) (L := [some (.ref 3), some (.int (zI r)), some (.int (zI f)), some (.int (zI t)), none, none]) md_X0_onesIn rfl rfl rfl (Nat.le_of_ble_eq_true rfl) (fun X => ?_)
  refine q_iconst dX0_onesIn_0 ?_
  refine q_istore dX0_onesIn_1 (Nat.le_of_ble_eq_true rfl) rfl ?_
  refine q_iload_n dX0_onesIn_3 rfl ?_
  refine q_iconst dX0_onesIn_4 ?_
  refine q_ishr dX0_onesIn_5 ?_
  rw [zshr_3 (by omega) (by omega)]
  refine q_istore dX0_onesIn_6 (Nat.le_of_ble_eq_true rfl) rfl ?_
  refine q_lp (fun i : Int => (257 - i).toNat) (fun i => f / 8 ≤ i ∧ i ≤ t / 8 + 1) (fun i => [some (.ref 3), some (.int (zI r)), some (.int (zI f)), some (.int (zI t)), some (.int (zI (zsum (ind (rowc M r) f t) 0 (8 * i).toNat))), some (.int (zI i))]) (fun _ => M) (f / 8) (by rw [ones_lo (by omega)]; rfl) rfl ⟨by omega, by omega⟩ (fun i hi ih => ?_)
  have hR := @ones_R (rowc M r) f t (8 * i).toNat (by omega)
  refine q_iload dX0_onesIn_8 rfl ?_
  refine q_iload_n dX0_onesIn_10 rfl ?_
  refine q_iconst dX0_onesIn_11 ?_
  refine q_ishr dX0_onesIn_12 ?_
  rw [zshr_3 (by omega) (by omega)]
  refine q_icmp_gt (tgt := 45) dX0_onesIn_13 rfl (by (first | (unfold zR; omega) | (unfold zLR; omega) | omega | (simp only [zR, qup] at *; omega) | (simp [zR, qup]; omega) | (simp [zR, qup]; done))) (by (first | (unfold zR; omega) | (unfold zLR; omega) | omega | (simp only [zR, qup] at *; omega) | (simp [zR, qup]; omega) | (simp [zR, qup]; done))) (fun h13 => ?_) (fun h13 => ?_)
  ·
    refine q_iload dX0_onesIn_45 rfl ?_
    refine q_ireturn dX0_onesIn_47 ?_
    exact ⟨by rw [ones_hi (by omega) (by omega) (by omega)], rfl⟩
  ·
    refine q_iload dX0_onesIn_16 rfl ?_
    refine q_aload_n dX0_onesIn_18 rfl ?_
    refine q_iload_n dX0_onesIn_19 rfl ?_
    refine q_iload dX0_onesIn_20 rfl ?_
    refine q_V2 dX0_onesIn_22 ml_0_29 md_X0_cell (c_cell (by omega) (by omega)) rfl rfl rfl (by first | decide | omega) (Nat.le_of_ble_eq_true rfl) (Nat.le_of_ble_eq_true rfl) (qk_e ?_)
    refine q_iload dX0_onesIn_25 rfl ?_
    refine q_iload_n dX0_onesIn_27 rfl ?_
    refine q_iload_n dX0_onesIn_28 rfl ?_
    refine q_S3 dX0_onesIn_29 ml_0_41 md_X0_mask (c_mask (by omega) (by omega) (by omega)) rfl (by first | decide | omega) (Nat.le_of_ble_eq_true rfl) (Nat.le_of_ble_eq_true rfl) (qk_e ?_)
    refine q_iand dX0_onesIn_32 ?_
    have hv := ok i (by omega) (by omega)
    have hz : 0 ≤ zand (M 4 (r * 256 + i)) (maskv i f t) ∧ zand (M 4 (r * 256 + i)) (maskv i f t) < 256 := by rw [zand_byte hv (maskv_in i f t)]; exact ofBits_in (fun j _ _ => by have := zbit_01 (M 4 (r * 256 + i)) j; have := zbit_01 (maskv i f t) j; rcases this with h | h <;> rw [h] <;> omega)
    refine q_S1 dX0_onesIn_33 ml_0_45 md_J6_bitCount_0f7a4 (c_bitCount hz) rfl (by first | decide | omega) (Nat.le_of_ble_eq_true rfl) (Nat.le_of_ble_eq_true rfl) (qk_e ?_)
    refine q_iadd dX0_onesIn_36 ?_
    refine q_istore dX0_onesIn_37 (Nat.le_of_ble_eq_true rfl) rfl ?_
    refine q_iinc dX0_onesIn_39 rfl (Nat.le_of_ble_eq_true rfl) rfl ?_
    refine q_goto (tgt := 8) dX0_onesIn_42 rfl ?_
    exact ih (i + 1) _ _ ⟨by omega, by omega⟩ (by omega) (by rw [← ones_step (c := rowc M r) (by omega) (ok i (by omega) (by omega))]; rfl) rfl
set_option maxHeartbeats 1000000 in
theorem c_cover {r f t b : Int} {M : qM} (hr : 0 ≤ r ∧ r < 33) (hf : 0 ≤ f ∧ f < 2048) (ht : 0 ≤ t ∧ t < 2048) (hft : f ≤ t) (hb : b = 0 ∨ b = 1) (ok : rowOk M r) : qCt mX0_cover 0 1 [.ref 3, .int (zI r), .int (zI f), .int (zI t), .int (zI b)] M (qpv (qrow M r (covF (rowc M r) f t b))) := by
  refine q_intro (own := 0) (L := [some (.ref 3), some (.int (zI r)), some (.int (zI f)), some (.int (zI t)), some (.int (zI b)), none, none]) md_X0_cover rfl rfl rfl (Nat.le_of_ble_eq_true rfl) (fun X => ?_)
  refine q_iload_n dX0_cover_0 rfl ?_
  refine q_iconst dX0_cover_1 ?_
  refine q_ishr dX0_cover_2 ?_
  rw [zshr_3 (by omega) (by omega)]
  refine q_istore dX0_cover_3 (Nat.le_of_ble_eq_true rfl) rfl ?_
  refine q_wk [some (.ref 3), some (.int (zI r)), some (.int (zI f)), some (.int (zI t)), some (.int (zI b)), some (.int (zI (f / 8))), none] (by (simp only [wkB]; repeat (first | exact rfl | exact trivial | refine ⟨rfl, ?_⟩))) ?_
  refine q_lp (fun i : Int => (257 - i).toNat) (fun i => f / 8 ≤ i ∧ i ≤ t / 8 + 1) (fun i => [some (.ref 3), some (.int (zI r)), some (.int (zI f)), some (.int (zI t)), some (.int (zI b)), some (.int (zI i)), none]) (fun i => qrow M r (fun k => if k < i then covF (rowc M r) f t b k else rowc M r k)) (f / 8) rfl (qrow_id M (fun k h1 h2 => by
    by_cases h : k < f / 8
    · rw [if_pos h]; exact covF_out (c := rowc M r) (ok k h1 h2) (fun j _ _ => by omega)
    · rw [if_neg h]; rfl)) ⟨by omega, by omega⟩ (fun i hi ih => ?_)
  have hv : i ≤ t / 8 → 0 ≤ rowc M r i ∧ rowc M r i < 256 := fun h => ok i (by omega) (by omega)
  refine q_iload dX0_cover_5 rfl ?_
  refine q_iload_n dX0_cover_7 rfl ?_
  refine q_iconst dX0_cover_8 ?_
  refine q_ishr dX0_cover_9 ?_
  rw [zshr_3 (by omega) (by omega)]
  refine q_icmp_gt (tgt := 66) dX0_cover_10 rfl (by (first | (unfold zR; omega) | (unfold zLR; omega) | omega | (simp only [zR, qup] at *; omega) | (simp [zR, qup]; omega) | (simp [zR, qup]; done))) (by (first | (unfold zR; omega) | (unfold zLR; omega) | omega | (simp only [zR, qup] at *; omega) | (simp [zR, qup]; omega) | (simp [zR, qup]; done))) (fun h10 => ?_) (fun h10 => ?_)
  ·
    refine q_return dX0_cover_66 ?_
    exact ⟨rfl, qrow_congr M (fun k h1 h2 => by
      by_cases e : k < i
      · rw [if_pos e]
      · rw [if_neg e]; exact (covF_out (c := rowc M r) (ok k h1 h2) (fun j _ _ => by omega)).symm)⟩
  ·
    refine q_iload dX0_cover_13 rfl ?_
    refine q_iload_n dX0_cover_15 rfl ?_
    refine q_iload_n dX0_cover_16 rfl ?_
    refine q_S3 dX0_cover_17 ml_0_41 md_X0_mask (c_mask (by omega) (by omega) (by omega)) rfl (by first | decide | omega) (Nat.le_of_ble_eq_true rfl) (Nat.le_of_ble_eq_true rfl) (qk_e ?_)
    refine q_istore dX0_cover_20 (Nat.le_of_ble_eq_true rfl) rfl ?_
    refine q_aload_n dX0_cover_22 rfl ?_
    refine q_iload_n dX0_cover_23 rfl ?_
    refine q_iload dX0_cover_24 rfl ?_
    refine q_iload dX0_cover_26 rfl ?_
    refine q_iconst dX0_cover_28 ?_
    refine q_icmp_ne (tgt := 45) dX0_cover_29 rfl (by (first | (unfold zR; omega) | (unfold zLR; omega) | omega | (simp only [zR, qup] at *; omega) | (simp [zR, qup]; omega) | (simp [zR, qup]; done))) (by (first | (unfold zR; omega) | (unfold zLR; omega) | omega | (simp only [zR, qup] at *; omega) | (simp [zR, qup]; omega) | (simp [zR, qup]; done))) (fun h29 => ?_) (fun h29 => ?_)
    ·
      refine q_aload_n dX0_cover_45 rfl ?_
      refine q_iload_n dX0_cover_46 rfl ?_
      refine q_iload dX0_cover_47 rfl ?_
      refine q_V2 dX0_cover_49 ml_0_29 md_X0_cell (c_cell (by omega) (by omega)) rfl rfl rfl (by first | decide | omega) (Nat.le_of_ble_eq_true rfl) (Nat.le_of_ble_eq_true rfl) (qk_e ?_)
      rw [qrow_next M (by omega)]
      refine q_iload dX0_cover_52 rfl ?_
      refine q_iconst dX0_cover_54 ?_
      refine q_ixor dX0_cover_55 ?_
      refine q_iand dX0_cover_56 ?_
      refine q_V3 dX0_cover_57 ml_0_25 md_X0_put (c_put (by omega) (by omega)) rfl rfl rfl (by first | decide | omega) (Nat.le_of_ble_eq_true rfl) (Nat.le_of_ble_eq_true rfl) (qk_v ?_)
      rw [qrow_step M (by omega) (by rcases hb with h | h; (rw [h]; exact cov_0 (c := rowc M r) rfl (hv (by omega))); exact absurd h h29)]
      refine q_iinc dX0_cover_60 rfl (Nat.le_of_ble_eq_true rfl) rfl ?_
      refine q_goto (tgt := 5) dX0_cover_63 rfl ?_
      refine q_wk [some (.ref 3), some (.int (zI r)), some (.int (zI f)), some (.int (zI t)), some (.int (zI b)), some (.int (zI (i + 1))), none] (by (simp only [wkB]; repeat (first | exact rfl | exact trivial | refine ⟨rfl, ?_⟩))) ?_
      exact ih (i + 1) _ _ ⟨by omega, by omega⟩ (by omega) rfl rfl
    ·
      refine q_aload_n dX0_cover_32 rfl ?_
      refine q_iload_n dX0_cover_33 rfl ?_
      refine q_iload dX0_cover_34 rfl ?_
      refine q_V2 dX0_cover_36 ml_0_29 md_X0_cell (c_cell (by omega) (by omega)) rfl rfl rfl (by first | decide | omega) (Nat.le_of_ble_eq_true rfl) (Nat.le_of_ble_eq_true rfl) (qk_e ?_)
      rw [qrow_next M (by omega)]
      refine q_iload dX0_cover_39 rfl ?_
      refine q_ior dX0_cover_41 ?_
      refine q_goto (tgt := 57) dX0_cover_42 rfl ?_
      refine q_V3 dX0_cover_57 ml_0_25 md_X0_put (c_put (by omega) (by omega)) rfl rfl rfl (by first | decide | omega) (Nat.le_of_ble_eq_true rfl) (Nat.le_of_ble_eq_true rfl) (qk_v ?_)
      rw [qrow_step M (by omega) (by rw [h29]; exact cov_1 (c := rowc M r) rfl (hv (by omega)))]
      refine q_iinc dX0_cover_60 rfl (Nat.le_of_ble_eq_true rfl) rfl ?_
      refine q_goto (tgt := 5) dX0_cover_63 rfl ?_
      refine q_wk [some (.ref 3), some (.int (zI r)), some (.int (zI f)), some (.int (zI t)), some (.int (zI b)), some (.int (zI (i + 1))), none] (by (simp only [wkB]; repeat (first | exact rfl | exact trivial | refine ⟨rfl, ?_⟩))) ?_
      exact ih (i + 1) _ _ ⟨by omega, by omega⟩ (by omega) rfl rfl
set_option maxHeartbeats 1000000 in
theorem c_invert {r f t : Int} {M : qM} (hr : 0 ≤ r ∧ r < 33) (hf : 0 ≤ f ∧ f < 2048) (ht : 0 ≤ t ∧ t < 2048) (hft : f ≤ t) (ok : rowOk M r) : qCt mX0_invert 0 1 [.ref 3, .int (zI r), .int (zI f), .int (zI t)] M (qpv (qrow M r (flpF (rowc M r) f t))) := by
  refine q_intro (own := 0) (L := [some (.ref 3), some (.int (zI r)), some (.int (zI f)), some (.int (zI t)), none]) md_X0_invert rfl rfl rfl (Nat.le_of_ble_eq_true rfl) (fun X => ?_)
  refine q_iload_n dX0_invert_0 rfl ?_
  refine q_iconst dX0_invert_1 ?_
  refine q_ishr dX0_invert_2 ?_
  rw [zshr_3 (by omega) (by omega)]
  refine q_istore dX0_invert_3 (Nat.le_of_ble_eq_true rfl) rfl ?_
  refine q_lp (fun i : Int => (257 - i).toNat) (fun i => f / 8 ≤ i ∧ i ≤ t / 8 + 1) (fun i => [some (.ref 3), some (.int (zI r)), some (.int (zI f)), some (.int (zI t)), some (.int (zI i))]) (fun i => qrow M r (fun k => if k < i then flpF (rowc M r) f t k else rowc M r k)) (f / 8) rfl (qrow_id M (fun k h1 h2 => by
    by_cases h : k < f / 8
    · rw [if_pos h]; exact flpF_out (c := rowc M r) (ok k h1 h2) (fun j _ _ => by omega)
    · rw [if_neg h]; rfl)) ⟨by omega, by omega⟩ (fun i hi ih => ?_)
  have hv : i ≤ t / 8 → 0 ≤ rowc M r i ∧ rowc M r i < 256 := fun h => ok i (by omega) (by omega)
  refine q_iload dX0_invert_5 rfl ?_
  refine q_iload_n dX0_invert_7 rfl ?_
  refine q_iconst dX0_invert_8 ?_
  refine q_ishr dX0_invert_9 ?_
  rw [zshr_3 (by omega) (by omega)]
  refine q_icmp_gt (tgt := 41) dX0_invert_10 rfl (by (first | (unfold zR; omega) | (unfold zLR; omega) | omega | (simp only [zR, qup] at *; omega) | (simp [zR, qup]; omega) | (simp [zR, qup]; done))) (by (first | (unfold zR; omega) | (unfold zLR; omega) | omega | (simp only [zR, qup] at *; omega) | (simp [zR, qup]; omega) | (simp [zR, qup]; done))) (fun h10 => ?_) (fun h10 => ?_)
  ·
    refine q_return dX0_invert_41 ?_
    exact ⟨rfl, qrow_congr M (fun k h1 h2 => by
      by_cases e : k < i
      · rw [if_pos e]
      · rw [if_neg e]; exact (flpF_out (c := rowc M r) (ok k h1 h2) (fun j _ _ => by omega)).symm)⟩
  ·
    refine q_aload_n dX0_invert_13 rfl ?_
    refine q_iload_n dX0_invert_14 rfl ?_
    refine q_iload dX0_invert_15 rfl ?_
    refine q_aload_n dX0_invert_17 rfl ?_
    refine q_iload_n dX0_invert_18 rfl ?_
    refine q_iload dX0_invert_19 rfl ?_
    refine q_V2 dX0_invert_21 ml_0_29 md_X0_cell (c_cell (by omega) (by omega)) rfl rfl rfl (by first | decide | omega) (Nat.le_of_ble_eq_true rfl) (Nat.le_of_ble_eq_true rfl) (qk_e ?_)
    rw [qrow_next M (by omega)]
    refine q_iload dX0_invert_24 rfl ?_
    refine q_iload_n dX0_invert_26 rfl ?_
    refine q_iload_n dX0_invert_27 rfl ?_
    refine q_S3 dX0_invert_28 ml_0_41 md_X0_mask (c_mask (by omega) (by omega) (by omega)) rfl (by first | decide | omega) (Nat.le_of_ble_eq_true rfl) (Nat.le_of_ble_eq_true rfl) (qk_e ?_)
    refine q_ixor dX0_invert_31 ?_
    refine q_V3 dX0_invert_32 ml_0_25 md_X0_put (c_put (by omega) (by omega)) rfl rfl rfl (by first | decide | omega) (Nat.le_of_ble_eq_true rfl) (Nat.le_of_ble_eq_true rfl) (qk_v ?_)
    rw [qrow_step M (by omega) (flp_x (c := rowc M r) rfl (hv (by omega)))]
    refine q_iinc dX0_invert_35 rfl (Nat.le_of_ble_eq_true rfl) rfl ?_
    refine q_goto (tgt := 5) dX0_invert_38 rfl ?_
    exact ih (i + 1) _ _ ⟨by omega, by omega⟩ (by omega) rfl rfl
set_option maxHeartbeats 1000000 in
theorem c_mergedCell {k x y : Int} {M : qM} (hk : 0 ≤ k ∧ k < 4) : qCt mX0_mergedCell 0 0 [.int (zI k), .int (zI x), .int (zI y)] M (qpe (mgF k x y) M) := by
  refine q_intro (own := 0) (L := [some (.int (zI k)), some (.int (zI x)), some (.int (zI y))]) md_X0_mergedCell rfl rfl rfl (Nat.le_of_ble_eq_true rfl) (fun X => ?_)
  refine q_iload_n dX0_mergedCell_0 rfl ?_
  by_cases hs1_0 : k = 0
  ·
    refine q_tableIn (tgt := 28) dX0_mergedCell_1 (by (first | (unfold zR; omega) | (unfold zLR; omega) | omega | (simp only [zR, qup] at *; omega) | (simp [zR, qup]; omega) | (simp [zR, qup]; done))) (by omega) (by omega) (by rw [hs1_0]; rfl) rfl ?_
    refine q_iload_n dX0_mergedCell_28 rfl ?_
    refine q_iload_n dX0_mergedCell_29 rfl ?_
    refine q_ior dX0_mergedCell_30 ?_
    refine q_ireturn dX0_mergedCell_31 ?_
    exact ⟨by unfold mgF; rw [if_pos hs1_0], rfl⟩
  by_cases hs1_1 : k = 1
  ·
    refine q_tableIn (tgt := 32) dX0_mergedCell_1 (by (first | (unfold zR; omega) | (unfold zLR; omega) | omega | (simp only [zR, qup] at *; omega) | (simp [zR, qup]; omega) | (simp [zR, qup]; done))) (by omega) (by omega) (by rw [hs1_1]; rfl) rfl ?_
    refine q_iload_n dX0_mergedCell_32 rfl ?_
    refine q_iload_n dX0_mergedCell_33 rfl ?_
    refine q_iand dX0_mergedCell_34 ?_
    refine q_ireturn dX0_mergedCell_35 ?_
    exact ⟨by unfold mgF; rw [if_neg hs1_0, if_pos hs1_1], rfl⟩
  by_cases hs1_2 : k = 2
  ·
    refine q_tableIn (tgt := 36) dX0_mergedCell_1 (by (first | (unfold zR; omega) | (unfold zLR; omega) | omega | (simp only [zR, qup] at *; omega) | (simp [zR, qup]; omega) | (simp [zR, qup]; done))) (by omega) (by omega) (by rw [hs1_2]; rfl) rfl ?_
    refine q_iload_n dX0_mergedCell_36 rfl ?_
    refine q_iload_n dX0_mergedCell_37 rfl ?_
    refine q_iconst dX0_mergedCell_38 ?_
    refine q_ixor dX0_mergedCell_39 ?_
    refine q_iand dX0_mergedCell_40 ?_
    refine q_ireturn dX0_mergedCell_41 ?_
    exact ⟨by unfold mgF; rw [if_neg hs1_0, if_neg hs1_1, if_pos hs1_2], rfl⟩
  refine q_tableOut (tgt := 42) dX0_mergedCell_1 (by (first | (unfold zR; omega) | (unfold zLR; omega) | omega | (simp only [zR, qup] at *; omega) | (simp [zR, qup]; omega) | (simp [zR, qup]; done))) (by omega) rfl ?_
  refine q_iload_n dX0_mergedCell_42 rfl ?_
  refine q_iload_n dX0_mergedCell_43 rfl ?_
  refine q_ixor dX0_mergedCell_44 ?_
  refine q_ireturn dX0_mergedCell_45 ?_
  exact ⟨by unfold mgF; rw [if_neg hs1_0, if_neg hs1_1, if_neg hs1_2], rfl⟩
set_option maxHeartbeats 1000000 in
theorem c_merge {k a b r : Int} {M : qM} (hk : 0 ≤ k ∧ k < 4) (ha : 0 ≤ a ∧ a < 33) (hb : 0 ≤ b ∧ b < 33) (hr : 0 ≤ r ∧ r < 33) : qCt mX0_merge 0 1 [.ref 3, .int (zI k), .int (zI a), .int (zI b), .int (zI r)] M (qpv (qrow M r (fun i => mgF k (rowc M a i) (rowc M b i)))) := by
  refine q_intro (own := 0) (L := [some (.ref 3), some (.int (zI k)), some (.int (zI a)), some (.int (zI b)), some (.int (zI r)), none]) md_X0_merge rfl rfl rfl (Nat.le_of_ble_eq_true rfl) (fun X => ?_)
  refine q_iconst dX0_merge_0 ?_
  refine q_istore dX0_merge_1 (Nat.le_of_ble_eq_true rfl) rfl ?_
  refine q_lp (fun i : Int => (256 - i).toNat) (fun i => 0 ≤ i ∧ i ≤ 256) (fun i => [some (.ref 3), some (.int (zI k)), some (.int (zI a)), some (.int (zI b)), some (.int (zI r)), some (.int (zI i))]) (fun i => qrow M r (fun q => if q < i then mgF k (rowc M a q) (rowc M b q) else rowc M r q)) 0 rfl (qrow_id M (fun q h1 h2 => by rw [if_neg (by omega)]; rfl)) ⟨by omega, by omega⟩ (fun i hi ih => ?_)
  have rd : ∀ {q : Int}, i < 256 → qrow M r (fun q => if q < i then mgF k (rowc M a q) (rowc M b q) else rowc M r q) 4 (q * 256 + i) = rowc M q i := by
    intro q h
    by_cases e : q = r
    · subst e; exact qrow_next M (by omega)
    · exact qrow_ne M _ (by omega) e
  refine q_iload dX0_merge_3 rfl ?_
  refine q_sipush dX0_merge_5 rfl ?_
  refine q_icmp_ge (tgt := 43) dX0_merge_8 rfl (by (first | (unfold zR; omega) | (unfold zLR; omega) | omega | (simp only [zR, qup] at *; omega) | (simp [zR, qup]; omega) | (simp [zR, qup]; done))) (by (first | (unfold zR; omega) | (unfold zLR; omega) | omega | (simp only [zR, qup] at *; omega) | (simp [zR, qup]; omega) | (simp [zR, qup]; done))) (fun h8 => ?_) (fun h8 => ?_)
  ·
    refine q_return dX0_merge_43 ?_
    exact ⟨rfl, qrow_congr M (fun q h1 h2 => if_pos (by omega))⟩
  ·
    refine q_aload_n dX0_merge_11 rfl ?_
    refine q_iload dX0_merge_12 rfl ?_
    refine q_iload dX0_merge_14 rfl ?_
    refine q_iload_n dX0_merge_16 rfl ?_
    refine q_aload_n dX0_merge_17 rfl ?_
    refine q_iload_n dX0_merge_18 rfl ?_
    refine q_iload dX0_merge_19 rfl ?_
    refine q_V2 dX0_merge_21 ml_0_29 md_X0_cell (c_cell (by omega) (by omega)) rfl rfl rfl (by first | decide | omega) (Nat.le_of_ble_eq_true rfl) (Nat.le_of_ble_eq_true rfl) (qk_e ?_)
    refine q_aload_n dX0_merge_24 rfl ?_
    refine q_iload_n dX0_merge_25 rfl ?_
    refine q_iload dX0_merge_26 rfl ?_
    refine q_V2 dX0_merge_28 ml_0_29 md_X0_cell (c_cell (by omega) (by omega)) rfl rfl rfl (by first | decide | omega) (Nat.le_of_ble_eq_true rfl) (Nat.le_of_ble_eq_true rfl) (qk_e ?_)
    rw [rd (by omega), rd (by omega)]
    refine q_S3 dX0_merge_31 ml_0_51 md_X0_mergedCell (c_mergedCell (by omega)) rfl (by first | decide | omega) (Nat.le_of_ble_eq_true rfl) (Nat.le_of_ble_eq_true rfl) (qk_e ?_)
    refine q_V3 dX0_merge_34 ml_0_25 md_X0_put (c_put (by omega) (by omega)) rfl rfl rfl (by first | decide | omega) (Nat.le_of_ble_eq_true rfl) (Nat.le_of_ble_eq_true rfl) (qk_v ?_)
    refine q_iinc dX0_merge_37 rfl (Nat.le_of_ble_eq_true rfl) rfl ?_
    refine q_goto (tgt := 3) dX0_merge_40 rfl ?_
    exact ih (i + 1) _ _ ⟨by omega, by omega⟩ (by omega) rfl (qrow_step M (by omega) rfl)
set_option maxHeartbeats 1000000 in
theorem c_setBit {r p : Int} {M : qM} (hr : 0 ≤ r ∧ r < 33) (hp : 0 ≤ p ∧ p < 2048) (ok : rowOk M r) : qCt mX0_setBit 0 1 [.ref 3, .int (zI r), .int (zI p)] M (qpv (qup M 4 (r * 256 + p / 8) (ofBits (fun i => if i = p % 8 then 1 else zbit (M 4 (r * 256 + p / 8)) i)))) := by
  refine q_intro (own := 0) (L := [some (.ref 3), some (.int (zI r)), some (.int (zI p))]) md_X0_setBit rfl rfl rfl (Nat.le_of_ble_eq_true rfl) (fun X => ?_)
  refine q_aload_n dX0_setBit_0 rfl ?_
  refine q_iload_n dX0_setBit_1 rfl ?_
  refine q_iload_n dX0_setBit_2 rfl ?_
  refine q_iconst dX0_setBit_3 ?_
  refine q_ishr dX0_setBit_4 ?_
  rw [zshr_3 (by omega) (by omega)]
  refine q_aload_n dX0_setBit_5 rfl ?_
  refine q_iload_n dX0_setBit_6 rfl ?_
  refine q_iload_n dX0_setBit_7 rfl ?_
  refine q_iconst dX0_setBit_8 ?_
  refine q_ishr dX0_setBit_9 ?_
  rw [zshr_3 (by omega) (by omega)]
  refine q_V2 dX0_setBit_10 ml_0_29 md_X0_cell (c_cell (by omega) (by omega)) rfl rfl rfl (by first | decide | omega) (Nat.le_of_ble_eq_true rfl) (Nat.le_of_ble_eq_true rfl) (qk_e ?_)
  refine q_iconst dX0_setBit_13 ?_
  refine q_iload_n dX0_setBit_14 rfl ?_
  refine q_bipush dX0_setBit_15 rfl ?_
  refine q_iand dX0_setBit_17 ?_
  rw [zand_7 (by omega) (by omega)]
  refine q_ishl dX0_setBit_18 ?_
  refine q_ior dX0_setBit_19 ?_
  rw [setb (ok (p / 8) (by omega) (by omega)) (by omega) (by omega)]
  refine q_V3 dX0_setBit_20 ml_0_25 md_X0_put (c_put (by omega) (by omega)) rfl rfl rfl (by first | decide | omega) (Nat.le_of_ble_eq_true rfl) (Nat.le_of_ble_eq_true rfl) (qk_v ?_)
  refine q_return dX0_setBit_23 ?_
  exact ⟨rfl, rfl⟩
set_option maxHeartbeats 1000000 in
theorem c_unlikeBits {a f b g n : Int} {M : qM} (ha : 0 ≤ a ∧ a < 33) (hf : 0 ≤ f ∧ f + n ≤ 256) (hb : 0 ≤ b ∧ b < 33) (hg : 0 ≤ g ∧ g + n ≤ 256) (hn : 0 ≤ n) (oka : rowOk M a) (okb : rowOk M b) : qCt mX0_unlikeBits 0 1 [.ref 3, .int (zI a), .int (zI f), .int (zI b), .int (zI g), .int (zI n)] M (qpe (zsum (fun i => zpop (zxor (M 4 (a * 256 + (f + i))) (M 4 (b * 256 + (g + i))))) 0 n.toNat) M) := by
  refine q_intro (own := 0) (L := [some (.ref 3), some (.int (zI a)), some (.int (zI f)), some (.int (zI b)), some (.int (zI g)), some (.int (zI n)), none, none]) md_X0_unlikeBits rfl rfl rfl (Nat.le_of_ble_eq_true rfl) (fun X => ?_)
  refine q_iconst dX0_unlikeBits_0 ?_
  refine q_istore dX0_unlikeBits_1 (Nat.le_of_ble_eq_true rfl) rfl ?_
  refine q_iconst dX0_unlikeBits_3 ?_
  refine q_istore dX0_unlikeBits_4 (Nat.le_of_ble_eq_true rfl) rfl ?_
  refine q_lp (fun i : Int => (n - i).toNat) (fun i => 0 ≤ i ∧ i ≤ n) (fun i => [some (.ref 3), some (.int (zI a)), some (.int (zI f)), some (.int (zI b)), some (.int (zI g)), some (.int (zI n)), some (.int (zI (zsum (fun i => zpop (zxor (M 4 (a * 256 + (f + i))) (M 4 (b * 256 + (g + i))))) 0 i.toNat))), some (.int (zI i))]) (fun _ => M) 0 rfl rfl ⟨by omega, by omega⟩ (fun i hi ih => ?_)
  refine q_iload dX0_unlikeBits_6 rfl ?_
  refine q_iload dX0_unlikeBits_8 rfl ?_
  refine q_icmp_ge (tgt := 47) dX0_unlikeBits_10 rfl (by (first | (unfold zR; omega) | (unfold zLR; omega) | omega | (simp only [zR, qup] at *; omega) | (simp [zR, qup]; omega) | (simp [zR, qup]; done))) (by (first | (unfold zR; omega) | (unfold zLR; omega) | omega | (simp only [zR, qup] at *; omega) | (simp [zR, qup]; omega) | (simp [zR, qup]; done))) (fun h10 => ?_) (fun h10 => ?_)
  ·
    refine q_iload dX0_unlikeBits_47 rfl ?_
    refine q_ireturn dX0_unlikeBits_49 ?_
    exact ⟨by rw [show i = n by omega], rfl⟩
  ·
    refine q_iload dX0_unlikeBits_13 rfl ?_
    refine q_aload_n dX0_unlikeBits_15 rfl ?_
    refine q_iload_n dX0_unlikeBits_16 rfl ?_
    refine q_iload_n dX0_unlikeBits_17 rfl ?_
    refine q_iload dX0_unlikeBits_18 rfl ?_
    refine q_iadd dX0_unlikeBits_20 ?_
    refine q_V2 dX0_unlikeBits_21 ml_0_29 md_X0_cell (c_cell (by omega) (by omega)) rfl rfl rfl (by first | decide | omega) (Nat.le_of_ble_eq_true rfl) (Nat.le_of_ble_eq_true rfl) (qk_e ?_)
    refine q_aload_n dX0_unlikeBits_24 rfl ?_
    refine q_iload_n dX0_unlikeBits_25 rfl ?_
    refine q_iload dX0_unlikeBits_26 rfl ?_
    refine q_iload dX0_unlikeBits_28 rfl ?_
    refine q_iadd dX0_unlikeBits_30 ?_
    refine q_V2 dX0_unlikeBits_31 ml_0_29 md_X0_cell (c_cell (by omega) (by omega)) rfl rfl rfl (by first | decide | omega) (Nat.le_of_ble_eq_true rfl) (Nat.le_of_ble_eq_true rfl) (qk_e ?_)
    refine q_ixor dX0_unlikeBits_34 ?_
    have h1 := oka (f + i) (by omega) (by omega)
    have h2 := okb (g + i) (by omega) (by omega)
    have hz : 0 ≤ zxor (M 4 (a * 256 + (f + i))) (M 4 (b * 256 + (g + i))) ∧ zxor (M 4 (a * 256 + (f + i))) (M 4 (b * 256 + (g + i))) < 256 := by rw [zxor_byte h1 h2]; exact ofBits_in (fun j _ _ => by have := zbit_01 (M 4 (a * 256 + (f + i))) j; have := zbit_01 (M 4 (b * 256 + (g + i))) j; rcases this with h | h <;> rw [h] <;> omega)
    refine q_S1 dX0_unlikeBits_35 ml_0_45 md_J6_bitCount_0f7a4 (c_bitCount hz) rfl (by first | decide | omega) (Nat.le_of_ble_eq_true rfl) (Nat.le_of_ble_eq_true rfl) (qk_e ?_)
    refine q_iadd dX0_unlikeBits_38 ?_
    refine q_istore dX0_unlikeBits_39 (Nat.le_of_ble_eq_true rfl) rfl ?_
    refine q_iinc dX0_unlikeBits_41 rfl (Nat.le_of_ble_eq_true rfl) rfl ?_
    refine q_goto (tgt := 6) dX0_unlikeBits_44 rfl ?_
    exact ih (i + 1) _ _ ⟨by omega, by omega⟩ (by omega) (by rw [show (i + 1).toNat = i.toNat + 1 by omega, zsum, Int.toNat_of_nonneg hi.1, Int.zero_add]; rfl) rfl


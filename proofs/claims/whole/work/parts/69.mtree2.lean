/-! The model: what is asked of the tree of a map. -/
theorem MS_up0 {M N : qM} {g : Int} (h : MS (qup M 37 0 0) N) : MS (qup M 37 0 g) (qup N 37 0 g) := by
  refine ⟨fun o h37 h42 h43 h44 h45 h46 h47 h49 h50 => ?_, fun k hk => ?_⟩
  · have := h.1 o h37 h42 h43 h44 h45 h46 h47 h49 h50
    funext j
    have e := congrFun this j
    rw [qup_o _ _ _ _ h37] at e
    rw [qup_o _ _ _ _ h37, qup_o _ _ _ _ h37, e]
  · by_cases e : k = 0
    · subst e; rw [qup_s, qup_s]
    · have := h.2 k hk
      rw [qup_k _ _ _ e] at this
      rw [qup_k _ _ _ e, qup_k _ _ _ e, this]
section MS
variable {M : qM} {L l : Nat} {c T K F S : Int → Int} {k o x y a b v p q f t n g i : Int}
def nbP (M : qM) (L : Nat) (k i : Int) : Int → qM → Prop := fun z M' => (gG M k ≠ 0 ∧ z = 1 ∧ M' = qup M 37 0 (gG M k)) ∨ (gG M k = 0 ∧ ∃ T K F S, Mt (scl M k) L T K F S ∧ ((gByte (tsz (scl M k) L 0) i = 0 ∧ z = 0 ∧ M' = mtw (fW M 0 L k) T K F S (tsz (scl M k) L 0)) ∨ (gByte (tsz (scl M k) L 0) i = 2 ∧ z = 1 ∧ M' = qup (mtw (fW M 0 L k) T K F S (tsz (scl M k) L 0)) 37 0 2)))
theorem fW_0 {M : qM} {g : Int} {L : Nat} {k : Int} : fW M g L k 37 0 = g := by
  unfold fW rowW
  rw [if_neg (fun w => by have := w.1; omega), qup_k _ _ _ (by decide), qup_s]
set_option maxHeartbeats 2000000 in
theorem m_noByte (hM : MI M) (hL : M 37 2 = (L : Int)) (hk : zR k) (hi : zR i) : qCt mX8_noByte 0 9 [.ref 37, .int (zI k), .int (zI i)] M (qpg (nbP M L k i)) := by
  have hL4 : L ≤ 4 := by have := hM.2.1; omega
  have ht1 := tsz_in (scl M k) L 0
  have ht2 := tmax_in L hL4
  have z01 := zb_01 (0 ≤ i ∧ i ≤ tsz (scl M k) L 0 - 1)
  refine q_intro (own := 8) (L := [some (.ref 37), some (.int (zI k)), some (.int (zI i))]) md_X8_noByte rfl rfl rfl (Nat.le_of_ble_eq_true rfl) (fun X => ?_)
  refine q_aload_n dX8_noByte_0 rfl ?_
  refine q_iload_n dX8_noByte_1 rfl ?_
  refine q_V1 dX8_noByte_2 ml_8_292 md_X8_noMap (m_noMap hM.1 hM.2.2.2.1 hk) rfl rfl rfl (by first | decide | omega) (Nat.le_of_ble_eq_true rfl) (Nat.le_of_ble_eq_true rfl) (qk_e ?_)
  refine q_if_eq (tgt := 10) dX8_noByte_5 rfl (by exact zb_R _) (fun h5 => ?_) (fun h5 => ?_)
  ·
    have hg := zbz h5
    have hgk := gG_0 hM hg
    rw [hg]
    refine q_aload_n dX8_noByte_10 rfl ?_
    refine q_iload_n dX8_noByte_11 rfl ?_
    refine q_V1 dX8_noByte_12 ml_8_286 md_X8_fetchesTree (m_fetchesTree hM hL (by omega)) rfl rfl rfl (by first | decide | omega) (Nat.le_of_ble_eq_true rfl) (Nat.le_of_ble_eq_true rfl) (qk_h (fun N12 hq12 => ?_))
    obtain ⟨Tq, Kq, Fq, Sq, rfl, hm⟩ := hq12
    have hm0 : mtw (fW M 0 L k) Tq Kq Fq Sq (tsz (scl M k) L 0) 37 0 = 0 := by rw [show mtw (fW M 0 L k) Tq Kq Fq Sq (tsz (scl M k) L 0) 37 0 = fW M 0 L k 37 0 by simp [mtw], fW_0]
    refine q_aload_n dX8_noByte_15 rfl ?_
    refine q_iload_n dX8_noByte_16 rfl ?_
    refine q_iconst dX8_noByte_17 ?_
    refine q_aload_n dX8_noByte_18 rfl ?_
    refine q_geti (j := 12) dX8_noByte_19 fl_8_101 rfl rfl rfl ?_
    rw [mtw_12]
    refine q_iconst dX8_noByte_22 ?_
    refine q_isub dX8_noByte_23 ?_
    refine q_S3 dX8_noByte_24 ml_8_71 md_X8_in (m_in hi (by (first | (unfold zR; omega) | (unfold zLR; omega) | omega | (simp only [zR, qup] at *; omega) | (simp [zR, qup]; omega) | (simp [zR, qup]; done))) (by (first | (unfold zR; omega) | (unfold zLR; omega) | omega | (simp only [zR, qup] at *; omega) | (simp [zR, qup]; omega) | (simp [zR, qup]; done)))) rfl (by first | decide | omega) (Nat.le_of_ble_eq_true rfl) (Nat.le_of_ble_eq_true rfl) (qk_e ?_)
    refine q_if_ne (tgt := 34) dX8_noByte_27 rfl (by exact zb_R _) (fun h27 => ?_) (fun h27 => ?_)
    ·
      refine q_iconst dX8_noByte_34 ?_
      refine q_iconst dX8_noByte_35 ?_
      refine q_V2 dX8_noByte_36 ml_8_64 md_X8_refuse (m_refuse (by omega) (by rw [hm0]; unfold zR; omega) (by (first | (unfold zR; omega) | (unfold zLR; omega) | omega | (simp only [zR, qup] at *; omega) | (simp [zR, qup]; omega) | (simp [zR, qup]; done)))) rfl rfl rfl (by first | decide | omega) (Nat.le_of_ble_eq_true rfl) (Nat.le_of_ble_eq_true rfl) (qk_e ?_)
      refine q_zreturn (by exact zb_01 _) dX8_noByte_39 ?_
      have e1 : rfW (mtw (fW M 0 L k) Tq Kq Fq Sq (tsz (scl M k) L 0)) 0 2 = mtw (fW M 0 L k) Tq Kq Fq Sq (tsz (scl M k) L 0) := if_neg (fun w => by have := w.2; omega)
      have hin := zb_1.1 (show zb (0 ≤ i ∧ i ≤ tsz (scl M k) L 0 - 1) = 1 by omega)
      rw [e1]
      exact ⟨0, by rw [hm0, zb_f (fun w => w rfl)], Or.inr ⟨hg, Tq, Kq, Fq, Sq, hm, Or.inl ⟨if_pos (by omega), rfl, rfl⟩⟩⟩
    ·
      refine q_iconst dX8_noByte_30 ?_
      refine q_goto (tgt := 35) dX8_noByte_31 rfl ?_
      refine q_iconst dX8_noByte_35 ?_
      refine q_V2 dX8_noByte_36 ml_8_64 md_X8_refuse (m_refuse (by omega) (by rw [hm0]; unfold zR; omega) (by (first | (unfold zR; omega) | (unfold zLR; omega) | omega | (simp only [zR, qup] at *; omega) | (simp [zR, qup]; omega) | (simp [zR, qup]; done)))) rfl rfl rfl (by first | decide | omega) (Nat.le_of_ble_eq_true rfl) (Nat.le_of_ble_eq_true rfl) (qk_e ?_)
      refine q_zreturn (by exact zb_01 _) dX8_noByte_39 ?_
      have e1 : rfW (mtw (fW M 0 L k) Tq Kq Fq Sq (tsz (scl M k) L 0)) 1 2 = qup (mtw (fW M 0 L k) Tq Kq Fq Sq (tsz (scl M k) L 0)) 37 0 2 := if_pos ⟨hm0, rfl⟩
      have hin := zb_0.1 (show zb (0 ≤ i ∧ i ≤ tsz (scl M k) L 0 - 1) = 0 by omega)
      rw [e1]
      exact ⟨1, by rw [qup_s, zb_t (by decide)], Or.inr ⟨hg, Tq, Kq, Fq, Sq, hm, Or.inr ⟨if_neg (by omega), rfl, rfl⟩⟩⟩
  ·
    refine q_iconst dX8_noByte_8 ?_
    refine q_zreturn (by first | exact Or.inl rfl | exact Or.inr rfl) dX8_noByte_9 ?_
    exact ⟨1, rfl, Or.inl ⟨zbn h5, rfl, rfl⟩⟩
theorem gByte_in (hb : gByte n i = 0 ∨ gByte n i = 2) : True := trivial
set_option maxHeartbeats 2000000 in
theorem o_byteAt (hM : MI M) (hL : M 37 2 = (L : Int)) (hk : zR k) (hi : zR i) : qCt mX8_byteAt 0 10 [.ref 37, .int (zI k), .int (zI i)] M (mpx (gor (gG M k) (gByte (tsz (scl M k) L 0) i)) (fun z M' => (∃ N, lay (scl M k) L 0 N 0 ∧ z = N i) ∧ MS (qup M 37 0 0) M') M) := by
  have hL4 : L ≤ 4 := by have := hM.2.1; omega
  have ht1 := tsz_in (scl M k) L 0
  have ht2 := tmax_in L hL4
  refine q_intro (own := 8) (L := [some (.ref 37), some (.int (zI k)), some (.int (zI i))]) md_X8_byteAt rfl rfl rfl (Nat.le_of_ble_eq_true rfl) (fun X => ?_)
  refine q_aload_n dX8_byteAt_0 rfl ?_
  refine q_iload_n dX8_byteAt_1 rfl ?_
  refine q_iload_n dX8_byteAt_2 rfl ?_
  refine q_V2 dX8_byteAt_3 ml_8_323 md_X8_noByte (m_noByte hM hL hk hi) rfl rfl rfl (by first | decide | omega) (Nat.le_of_ble_eq_true rfl) (Nat.le_of_ble_eq_true rfl) (qk_g (fun z3 N3 hq3 => ?_))
  have hz3 : z3 = 0 ∨ z3 = 1 := by rcases hq3 with ⟨-, h, -⟩ | ⟨-, Tq, Kq, Fq, Sq, -, ⟨-, h, -⟩ | ⟨-, h, -⟩⟩ <;> omega
  refine q_if_eq (tgt := 13) dX8_byteAt_6 rfl (by (first | (unfold zR; omega) | (unfold zLR; omega) | omega | (simp only [zR, qup] at *; omega) | (simp [zR, qup]; omega) | (simp [zR, qup]; done))) (fun h6 => ?_) (fun h6 => ?_)
  ·
    obtain ⟨hg, Tq, Kq, Fq, Sq, hm, hgb, rfl⟩ : gG M k = 0 ∧ ∃ T K F S, Mt (scl M k) L T K F S ∧ gByte (tsz (scl M k) L 0) i = 0 ∧ N3 = mtw (fW M 0 L k) T K F S (tsz (scl M k) L 0) := by
      rcases hq3 with ⟨-, h, -⟩ | ⟨hg, Tq, Kq, Fq, Sq, hm, ⟨hb, h, e⟩ | ⟨-, h, -⟩⟩
      · omega
      · exact ⟨hg, Tq, Kq, Fq, Sq, hm, hb, e⟩
      · omega
    have hib := gByte_0.1 hgb
    refine q_aload_n dX8_byteAt_13 rfl ?_
    refine q_getr dX8_byteAt_14 fl_8_26 rfl rfl ?_
    refine q_iload_n dX8_byteAt_17 rfl ?_
    refine q_iald dX8_byteAt_18 rfl (by (first | (unfold zR; omega) | (unfold zLR; omega) | omega | (simp only [zR, qup] at *; omega) | (simp [zR, qup]; omega) | (simp [zR, qup]; done))) (Nat.le_of_ble_eq_true rfl) ?_
    refine q_ireturn dX8_byteAt_19 ?_
    exact mpx_k (by rw [hg, hgb]; rfl) ⟨⟨Tq, hm.1, rfl⟩, MS_tr (fW_MS M 0 L k) (mtw_MS _ _ _ _ _ _)⟩
  ·
    refine q_iconst dX8_byteAt_9 ?_
    refine q_goto (tgt := 19) dX8_byteAt_10 rfl ?_
    refine q_ireturn dX8_byteAt_19 ?_
    rcases hq3 with ⟨hg, -, rfl⟩ | ⟨hg, Tq, Kq, Fq, Sq, hm, ⟨-, h, -⟩ | ⟨hb, h, rfl⟩⟩
    · exact mpx_g2 hg
    · omega
    · exact ⟨0, rfl, Or.inl ⟨by rw [hg, hb]; decide, by rw [hg, hb]; exact MS_up0 (MS_tr (fW_MS M 0 L k) (mtw_MS _ _ _ _ _ _))⟩⟩
set_option maxHeartbeats 2000000 in
theorem m_toldIn (h9 : M 37 9 = (L : Int)) (hL : L ≤ 4) (hl : l ≤ L) (hm : Mt c L T K F S) : qCt mX8_toldIn 0 2 [.ref 37, .int (zI (l : Int))] (mtw M T K F S n) (qpe (zsum (fun x => zb (sr c L 0 (L - l) x ≠ -1)) 0 (p4 ((L : Int) - l)).toNat) (mtw M T K F S n)) := by
  have hpin := p4_in ((L : Int) - l)
  refine q_intro (own := 8) (L := [some (.ref 37), some (.int (zI (l : Int))), none, none]) md_X8_toldIn rfl rfl rfl (Nat.le_of_ble_eq_true rfl) (fun X => ?_)
  refine q_iconst dX8_toldIn_0 ?_
  refine q_istore_n dX8_toldIn_1 (Nat.le_of_ble_eq_true rfl) rfl ?_
  refine q_iconst dX8_toldIn_2 ?_
  refine q_istore_n dX8_toldIn_3 (Nat.le_of_ble_eq_true rfl) rfl ?_
  refine q_lp (fun x : Int => (p4 ((L : Int) - l) - x).toNat) (fun x => 0 ≤ x ∧ x ≤ p4 ((L : Int) - l)) (fun x => [some (.ref 37), some (.int (zI (l : Int))), some (.int (zI (zsum (fun x => zb (sr c L 0 (L - l) x ≠ -1)) 0 x.toNat))), some (.int (zI x))]) (fun _ => mtw M T K F S n) 0 rfl rfl ⟨by omega, by omega⟩ (fun x hx ih => ?_)
  have hzs := zsum_s (fun x => zb (sr c L 0 (L - l) x ≠ -1)) hx.1
  refine q_iload_n dX8_toldIn_4 rfl ?_
  refine q_aload_n dX8_toldIn_5 rfl ?_
  refine q_iload_n dX8_toldIn_6 rfl ?_
  refine q_V1 dX8_toldIn_7 ml_8_90 md_X8_blocks (m_blocks (L := L) (by rw [mtw_9]; exact h9) (by omega)) rfl rfl rfl (by first | decide | omega) (Nat.le_of_ble_eq_true rfl) (Nat.le_of_ble_eq_true rfl) (qk_e ?_)
  refine q_icmp_ge (tgt := 45) dX8_toldIn_10 rfl (by (first | (unfold zR; omega) | (unfold zLR; omega) | omega | (simp only [zR, qup] at *; omega) | (simp [zR, qup]; omega) | (simp [zR, qup]; done))) (by (first | (unfold zR; omega) | (unfold zLR; omega) | omega | (simp only [zR, qup] at *; omega) | (simp [zR, qup]; omega) | (simp [zR, qup]; done))) (fun h10 => ?_) (fun h10 => ?_)
  rotate_left
  ·
    refine q_iload_n dX8_toldIn_13 rfl ?_
    refine q_aload_n dX8_toldIn_14 rfl ?_
    refine q_getr dX8_toldIn_15 fl_8_32 rfl rfl ?_
    refine q_aload_n dX8_toldIn_18 rfl ?_
    refine q_iload_n dX8_toldIn_19 rfl ?_
    refine q_iload_n dX8_toldIn_20 rfl ?_
    have hxd : 0 ≤ x ∧ x < p4 ((L - l : Nat) : Int) := ⟨hx.1, by rw [show ((L - l : Nat) : Int) = (L : Int) - l by omega]; exact h10⟩
    have hoi := off_in (d := L - l) (by omega) hxd
    have hsr := sr_in (c := c) (L := L) (d := L - l) hL (by omega) hxd
    refine q_V2 dX8_toldIn_21 ml_8_97 md_X8_spot (m_spot (L := L) (by rw [mtw_9]; exact h9) hL hl hxd) rfl rfl rfl (by first | decide | omega) (Nat.le_of_ble_eq_true rfl) (Nat.le_of_ble_eq_true rfl) (qk_e ?_)
    refine q_iald dX8_toldIn_24 rfl (by (first | (unfold zR; omega) | (unfold zLR; omega) | omega | (simp only [zR, qup] at *; omega) | (simp [zR, qup]; omega) | (simp [zR, qup]; done))) (Nat.le_of_ble_eq_true rfl) ?_
    rw [show mtw M T K F S n 45 (off (L - l) + x) = sr c L 0 (L - l) x from (hm.2.1 (L - l) x (by omega) hxd.1 hxd.2).2.1]
    refine q_iconst dX8_toldIn_25 ?_
    refine q_icmp_eq (tgt := 33) dX8_toldIn_26 rfl (by (first | (unfold zR; omega) | (unfold zLR; omega) | omega | (simp only [zR, qup] at *; omega) | (simp [zR, qup]; omega) | (simp [zR, qup]; done))) (by (first | (unfold zR; omega) | (unfold zLR; omega) | omega | (simp only [zR, qup] at *; omega) | (simp [zR, qup]; omega) | (simp [zR, qup]; done))) (fun h26 => ?_) (fun h26 => ?_)
    ·
      refine q_iconst dX8_toldIn_33 ?_
      refine q_S1 dX8_toldIn_34 ml_8_314 md_X8_flag (m_flag (by omega)) rfl (by first | decide | omega) (Nat.le_of_ble_eq_true rfl) (Nat.le_of_ble_eq_true rfl) (qk_e ?_)
      refine q_iadd dX8_toldIn_37 ?_
      refine q_istore_n dX8_toldIn_38 (Nat.le_of_ble_eq_true rfl) rfl ?_
      refine q_iinc dX8_toldIn_39 rfl (Nat.le_of_ble_eq_true rfl) rfl ?_
      refine q_goto (tgt := 4) dX8_toldIn_42 rfl ?_
      exact ih (x + 1) _ _ ⟨by omega, by omega⟩ (by omega) (by rw [hzs, zb_f (fun w => w h26)]; rfl) rfl
    ·
      refine q_iconst dX8_toldIn_29 ?_
      refine q_goto (tgt := 34) dX8_toldIn_30 rfl ?_
      refine q_S1 dX8_toldIn_34 ml_8_314 md_X8_flag (m_flag (by omega)) rfl (by first | decide | omega) (Nat.le_of_ble_eq_true rfl) (Nat.le_of_ble_eq_true rfl) (qk_e ?_)
      refine q_iadd dX8_toldIn_37 ?_
      refine q_istore_n dX8_toldIn_38 (Nat.le_of_ble_eq_true rfl) rfl ?_
      refine q_iinc dX8_toldIn_39 rfl (Nat.le_of_ble_eq_true rfl) rfl ?_
      refine q_goto (tgt := 4) dX8_toldIn_42 rfl ?_
      exact ih (x + 1) _ _ ⟨by omega, by omega⟩ (by omega) (by rw [hzs, zb_t h26]; rfl) rfl
  refine q_iload_n dX8_toldIn_45 rfl ?_
  refine q_ireturn dX8_toldIn_46 ?_
  exact ⟨by rw [show x = p4 ((L : Int) - l) by omega], rfl⟩
set_option maxHeartbeats 2000000 in
theorem m_codesOf (hv : zR v) (hK : ∀ j, 0 ≤ j → j < 341 → zR (K j)) : qCt mX8_codesOf 0 1 [.ref 37, .int (zI v)] (mtw M T K F S n) (qpe (zsum (fun j => zb (K j = v)) 0 341) (mtw M T K F S n)) := by
  refine q_intro (own := 8) (L := [some (.ref 37), some (.int (zI v)), none, none]) md_X8_codesOf rfl rfl rfl (Nat.le_of_ble_eq_true rfl) (fun X => ?_)
  refine q_iconst dX8_codesOf_0 ?_
  refine q_istore_n dX8_codesOf_1 (Nat.le_of_ble_eq_true rfl) rfl ?_
  refine q_iconst dX8_codesOf_2 ?_
  refine q_istore_n dX8_codesOf_3 (Nat.le_of_ble_eq_true rfl) rfl ?_
  refine q_lp (fun x : Int => (341 - x).toNat) (fun x => 0 ≤ x ∧ x ≤ 341) (fun x => [some (.ref 37), some (.int (zI v)), some (.int (zI (zsum (fun j => zb (K j = v)) 0 x.toNat))), some (.int (zI x))]) (fun _ => mtw M T K F S n) 0 rfl rfl ⟨by omega, by omega⟩ (fun x hx ih => ?_)
  have hzs := zsum_s (fun j => zb (K j = v)) hx.1
  refine q_iload_n dX8_codesOf_4 rfl ?_
  refine q_sipush dX8_codesOf_5 rfl ?_
  refine q_icmp_ge (tgt := 38) dX8_codesOf_8 rfl (by (first | (unfold zR; omega) | (unfold zLR; omega) | omega | (simp only [zR, qup] at *; omega) | (simp [zR, qup]; omega) | (simp [zR, qup]; done))) (by (first | (unfold zR; omega) | (unfold zLR; omega) | omega | (simp only [zR, qup] at *; omega) | (simp [zR, qup]; omega) | (simp [zR, qup]; done))) (fun h8 => ?_) (fun h8 => ?_)
  rotate_left
  ·
    refine q_iload_n dX8_codesOf_11 rfl ?_
    refine q_aload_n dX8_codesOf_12 rfl ?_
    refine q_getr dX8_codesOf_13 fl_8_29 rfl rfl ?_
    refine q_iload_n dX8_codesOf_16 rfl ?_
    refine q_iald dX8_codesOf_17 rfl (by (first | (unfold zR; omega) | (unfold zLR; omega) | omega | (simp only [zR, qup] at *; omega) | (simp [zR, qup]; omega) | (simp [zR, qup]; done))) (Nat.le_of_ble_eq_true rfl) ?_
    rw [show mtw M T K F S n 44 x = K x from rfl]
    have hkx := hK x hx.1 h8
    refine q_iload_n dX8_codesOf_18 rfl ?_
    refine q_icmp_ne (tgt := 26) dX8_codesOf_19 rfl (by (first | (unfold zR; omega) | (unfold zLR; omega) | omega | (simp only [zR, qup] at *; omega) | (simp [zR, qup]; omega) | (simp [zR, qup]; done))) (by (first | (unfold zR; omega) | (unfold zLR; omega) | omega | (simp only [zR, qup] at *; omega) | (simp [zR, qup]; omega) | (simp [zR, qup]; done))) (fun h19 => ?_) (fun h19 => ?_)
    ·
      refine q_iconst dX8_codesOf_26 ?_
      refine q_S1 dX8_codesOf_27 ml_8_314 md_X8_flag (m_flag (by omega)) rfl (by first | decide | omega) (Nat.le_of_ble_eq_true rfl) (Nat.le_of_ble_eq_true rfl) (qk_e ?_)
      refine q_iadd dX8_codesOf_30 ?_
      refine q_istore_n dX8_codesOf_31 (Nat.le_of_ble_eq_true rfl) rfl ?_
      refine q_iinc dX8_codesOf_32 rfl (Nat.le_of_ble_eq_true rfl) rfl ?_
      refine q_goto (tgt := 4) dX8_codesOf_35 rfl ?_
      exact ih (x + 1) _ _ ⟨by omega, by omega⟩ (by omega) (by rw [hzs, zb_f h19]; rfl) rfl
    ·
      refine q_iconst dX8_codesOf_22 ?_
      refine q_goto (tgt := 27) dX8_codesOf_23 rfl ?_
      refine q_S1 dX8_codesOf_27 ml_8_314 md_X8_flag (m_flag (by omega)) rfl (by first | decide | omega) (Nat.le_of_ble_eq_true rfl) (Nat.le_of_ble_eq_true rfl) (qk_e ?_)
      refine q_iadd dX8_codesOf_30 ?_
      refine q_istore_n dX8_codesOf_31 (Nat.le_of_ble_eq_true rfl) rfl ?_
      refine q_iinc dX8_codesOf_32 rfl (Nat.le_of_ble_eq_true rfl) rfl ?_
      refine q_goto (tgt := 4) dX8_codesOf_35 rfl ?_
      exact ih (x + 1) _ _ ⟨by omega, by omega⟩ (by omega) (by rw [hzs, zb_t h19]; rfl) rfl
  refine q_iload_n dX8_codesOf_38 rfl ?_
  refine q_ireturn dX8_codesOf_39 ?_
  exact ⟨by rw [show x = 341 by omega]; rfl, rfl⟩
end MS


/-! The model: flip, copyBlock, combine, mirror. -/
theorem flp_bit {c : Int → Int} {f t q : Int} : bitP (flpF c f t) q = if f ≤ q ∧ q ≤ t then 1 - bitP c q else bitP c q := by
  unfold bitP flpF
  rw [zbit_ofBits (fun j _ _ => ite_in (by have := zbit_01 (c (q / 8)) j; omega) (zbit_01 _ _)) (by omega) (by omega)]
  show (if f ≤ 8 * (q / 8) + q % 8 ∧ 8 * (q / 8) + q % 8 ≤ t then 1 - zbit (c (q / 8)) (q % 8) else zbit (c (q / 8)) (q % 8)) = _
  rw [show 8 * (q / 8) + q % 8 = q by omega]
theorem flp_e {c c' : Int → Int} {L : Nat} (h : cE c c' L) (f t : Int) : cE (flpF c f t) (flpF c' f t) L := fun k k0 k1 => by unfold flpF; rw [h k k0 k1]
theorem fcpy_e {c c' : Int → Int} {L : Nat} (h : cE c c' L) {f t n : Int} (hf : 0 ≤ f ∧ f + n ≤ p4 L) (ht : 0 ≤ t) : cE (fcpy c f t n) (fcpy c' f t n) L := fun i h0 h1 => by
  unfold fcpy
  by_cases g : t ≤ i ∧ i < t + n
  · rw [if_pos g, if_pos g, h _ (by omega) (by omega)]
  · rw [if_neg g, if_neg g, h i h0 h1]
theorem miS_e {c c' : Int → Int} {L : Nat} (h : cE c c' L) {q : Int} (hq : 0 ≤ q ∧ q < 8 * p4 L) : miS c (8 * p4 L) q = miS c' (8 * p4 L) q := cE_bit h (by omega) (by omega)
theorem gor_as {a b c : Int} : gor (gor a b) c = gor a (gor b c) := by
  by_cases h : a ≠ 0
  · rw [gor_n h, gor_n h, gor_n h]
  · have h0 : a = 0 := Classical.byContradiction h
    rw [gor_0 h0, gor_0 h0]
section ML
variable {M N : qM} {L l : Nat} {c T K F S : Int → Int} {k o x y a b v p q f t n g i w : Int}
set_option maxHeartbeats 1500000 in
theorem o_flip (hM : MI M) (hL : M 37 2 = (L : Int)) (hk : zR k) (hf : zR f) (ht : zR t) : qCt mX8_flip 0 9 [.ref 37, .int (zI k), .int (zI f), .int (zI t)] M (mpx (gor (gG M k) (mRg M f t)) (fun z M' => z = tsz (flpF (scl M k) f t) L 0 - tsz (scl M k) L 0 ∧ MS (putF (kaW (qup M 37 0 0)) k L (flpF (scl M k) f t)) M') M) := by
  have hL4 : L ≤ 4 := by have := hM.2.1; omega
  have hpL := p4_in (L : Int)
  have hN := MI_ka (MI_g hM 0)
  have hNL : kaW (qup M 37 0 0) 37 2 = (L : Int) := by rw [kaW_37 (by decide), qup_k _ _ _ (by decide)]; exact hL
  have hNs : scl (kaW (qup M 37 0 0)) k = scl M k := by rw [kaW_scl, scl_g]
  refine q_intro (own := 8) (L := [some (.ref 37), some (.int (zI k)), some (.int (zI f)), some (.int (zI t)), none, none]) md_X8_flip rfl rfl rfl (Nat.le_of_ble_eq_true rfl) (fun X => ?_)
  refine q_aload_n dX8_flip_0 rfl ?_
  refine q_iload_n dX8_flip_1 rfl ?_
  refine q_iload_n dX8_flip_2 rfl ?_
  refine q_iload_n dX8_flip_3 rfl ?_
  refine q_V3 dX8_flip_4 ml_8_302 md_X8_noRange (m_noRange hM hk hf ht) rfl rfl rfl (by first | decide | omega) (Nat.le_of_ble_eq_true rfl) (Nat.le_of_ble_eq_true rfl) (qk_e ?_)
  refine q_if_eq (tgt := 12) dX8_flip_7 rfl (by exact zb_R _) (fun h7 => ?_) (fun h7 => ?_)
  ·
    have hg := zbz h7
    have hg2 := gor_00.1 hg
    have hgk := gG_0 hM hg2.1
    have hps := mRg_0 hL hg2.2
    rw [hg]
    refine q_aload_n dX8_flip_12 rfl ?_
    refine q_V0 dX8_flip_13 ml_8_390 md_X8_keepsAll (m_keepsAll (by rw [qup_k _ _ _ (by decide)]; exact hM.2.2.2.2.2.2.1)) rfl rfl rfl (by first | decide | omega) (Nat.le_of_ble_eq_true rfl) (Nat.le_of_ble_eq_true rfl) (qk_v ?_)
    refine q_aload_n dX8_flip_16 rfl ?_
    refine q_iload_n dX8_flip_17 rfl ?_
    refine q_V1 dX8_flip_18 ml_8_286 md_X8_fetchesTree (m_fetchesTreeN hN hNL (by omega)) rfl rfl rfl (by first | decide | omega) (Nat.le_of_ble_eq_true rfl) (Nat.le_of_ble_eq_true rfl) (qk_h (fun N18 hq18 => ?_))
    obtain ⟨Tq, Kq, Fq, Sq, rfl, hm⟩ := hq18
    have hMS := MS_ft (kaW (qup M 37 0 0)) L k Tq Kq Fq Sq (tsz (scl (kaW (qup M 37 0 0)) k) L 0)
    have he : cE (mtw (fW (kaW (qup M 37 0 0)) (kaW (qup M 37 0 0) 37 0) L k) Tq Kq Fq Sq (tsz (scl (kaW (qup M 37 0 0)) k) L 0) 42) (scl M k) L := fun i i0 i1 => by rw [mtw_42, fW_42 ⟨i0, i1⟩, hNs]
    have w9 : mtw (fW (kaW (qup M 37 0 0)) (kaW (qup M 37 0 0) 37 0) L k) Tq Kq Fq Sq (tsz (scl (kaW (qup M 37 0 0)) k) L 0) 37 9 = (L : Int) := by rw [mtw_9]; exact fW_9
    refine q_aload_n dX8_flip_21 rfl ?_
    refine q_geti (j := 12) dX8_flip_22 fl_8_101 rfl rfl rfl ?_
    rw [mtw_12, hNs]
    refine q_istore dX8_flip_25 (Nat.le_of_ble_eq_true rfl) rfl ?_
    refine q_iload_n dX8_flip_27 rfl ?_
    refine q_istore dX8_flip_28 (Nat.le_of_ble_eq_true rfl) rfl ?_
    rw [hNs] at hMS he w9
    have hcb : ∀ k', 0 ≤ k' → k' < p4 L → 0 ≤ scl M k k' ∧ scl M k k' < 256 := fun j j0 j1 => scl_b hM (by omega) ⟨j0, by omega⟩
    generalize mtw (fW (kaW (qup M 37 0 0)) (kaW (qup M 37 0 0) 37 0) L k) Tq Kq Fq Sq (tsz (scl M k) L 0) = W at hMS he w9
    have hWb : ∀ k', 0 ≤ k' → k' < p4 L → 0 ≤ W 42 k' ∧ W 42 k' < 256 := fun j j0 j1 => by rw [he j j0 j1]; exact hcb j j0 j1
    refine q_lp (α := Int × (Int → Int)) (fun x => (t + 1 - x.1).toNat) (fun x => (f ≤ x.1 ∧ x.1 ≤ t + 1) ∧ (∀ k, 0 ≤ k → k < p4 L → 0 ≤ x.2 k ∧ x.2 k < 256) ∧ ∀ q, 0 ≤ q → q < 8 * p4 L → bitP x.2 q = if f ≤ q ∧ q < x.1 then 1 - bitP (W 42) q else bitP (W 42) q) (fun x => [some (.ref 37), some (.int (zI k)), some (.int (zI f)), some (.int (zI t)), some (.int (zI (tsz (scl M k) L 0))), some (.int (zI x.1))]) (fun x => rowF W x.2) (f, W 42) rfl (rowF_id W).symm ⟨⟨by dsimp only; omega, by dsimp only; omega⟩, hWb, fun q q0 q1 => by dsimp only; rw [if_neg (by omega)]⟩ (fun x hx ih => ?_)
    obtain ⟨n, G⟩ := x
    obtain ⟨hn, hG, hB⟩ := hx
    dsimp only at hn hG hB ih ⊢
    refine q_iload dX8_flip_30 rfl ?_
    refine q_iload_n dX8_flip_32 rfl ?_
    refine q_icmp_gt (tgt := 56) dX8_flip_33 rfl (by (first | (unfold zR; omega) | (unfold zLR; omega) | omega | (simp only [zR, qup] at *; omega) | (simp [zR, qup]; omega) | (simp [zR, qup]; done))) (by (first | (unfold zR; omega) | (unfold zLR; omega) | omega | (simp only [zR, qup] at *; omega) | (simp [zR, qup]; omega) | (simp [zR, qup]; done))) (fun h33 => ?_) (fun h33 => ?_)
    rotate_left
    ·
      refine q_aload_n dX8_flip_36 rfl ?_
      refine q_iload dX8_flip_37 rfl ?_
      refine q_iconst dX8_flip_39 ?_
      refine q_aload_n dX8_flip_40 rfl ?_
      refine q_iload dX8_flip_41 rfl ?_
      refine q_V1 dX8_flip_43 ml_8_234 md_X8_bitOf (m_bitOf ⟨by omega, by omega⟩ (hG _ (by omega) (by omega))) rfl rfl rfl (by first | decide | omega) (Nat.le_of_ble_eq_true rfl) (Nat.le_of_ble_eq_true rfl) (qk_e ?_)
      refine q_isub dX8_flip_46 ?_
      have h01 := bitP_01 G n
      refine q_V2 dX8_flip_47 ml_8_237 md_X8_laysBit (m_laysBit ⟨by omega, by omega⟩ (hG _ (by omega) (by omega)) (by rw [show rowF W G 42 = G from rfl]; omega)) rfl rfl rfl (by first | decide | omega) (Nat.le_of_ble_eq_true rfl) (Nat.le_of_ble_eq_true rfl) (qk_v ?_)
      refine q_iinc dX8_flip_50 rfl (Nat.le_of_ble_eq_true rfl) rfl ?_
      refine q_goto (tgt := 30) dX8_flip_53 rfl ?_
      rw [rowF_r, show rowF W G 42 = G from rfl]
      refine ih (n + 1, stb G n (1 - bitP G n)) _ _ ⟨⟨by dsimp only; omega, by dsimp only; omega⟩, fun k k0 k1 => stb_in (by omega) (hG k k0 k1), fun q q0 q1 => ?_⟩ (by dsimp only; omega) rfl rfl
      dsimp only
      rw [stb_bit (by omega) q0 (by omega)]
      by_cases e : q = n
      · subst e; rw [if_pos rfl, if_pos ⟨by omega, by omega⟩, hB q q0 q1, if_neg (by omega)]
      · rw [if_neg e, hB q q0 q1]
        by_cases u : f ≤ q ∧ q < n
        · rw [if_pos u, if_pos ⟨u.1, by omega⟩]
        · rw [if_neg u, if_neg (by omega)]
    have hE : cE G (flpF (W 42) f t) L := bit_cE hG (fun k k0 k1 => flpF_in) (fun q q0 q1 => by
      rw [hB q q0 q1, flp_bit]
      by_cases u : f ≤ q ∧ q ≤ t
      · rw [if_pos u, if_pos ⟨u.1, by omega⟩]
      · rw [if_neg u, if_neg (by omega)])
    refine q_aload_n dX8_flip_56 rfl ?_
    refine q_iload_n dX8_flip_57 rfl ?_
    refine q_V1 dX8_flip_58 ml_8_393 md_X8_puts (m_puts (L := L) (by rw [rowF_o _ _ (by decide)]; exact w9) hL4 (by omega)) rfl rfl rfl (by first | decide | omega) (Nat.le_of_ble_eq_true rfl) (Nat.le_of_ble_eq_true rfl) (qk_v ?_)
    refine q_aload_n dX8_flip_61 rfl ?_
    refine q_V0 dX8_flip_62 ml_8_121 md_X8_laysTree (m_laysTreeQ hL4 (by rw [putW_37, rowF_o _ _ (by decide)]; exact w9) (fun k k0 k1 => by rw [putW_42]; exact hG k k0 k1)) rfl rfl rfl (by first | decide | omega) (Nat.le_of_ble_eq_true rfl) (Nat.le_of_ble_eq_true rfl) (qk_h (fun N62 hq62 => ?_))
    obtain ⟨T2, K2, F2, S2, rfl, hm2⟩ := hq62
    refine q_aload_n dX8_flip_65 rfl ?_
    refine q_geti (j := 12) dX8_flip_66 fl_8_101 rfl rfl rfl ?_
    rw [mtw_12, putW_42, show rowF W G 42 = G from rfl]
    refine q_iload dX8_flip_69 rfl ?_
    refine q_isub dX8_flip_71 ?_
    refine q_ireturn dX8_flip_72 ?_
    exact mpx_k hg ⟨by rw [tsz_eL hL4 (cE_tr hE (flp_e he f t))], MS_tr (MS_put (MS_tr hMS (rowF_MS _ _)) (cE_tr hE (flp_e he f t))) (mtw_MS _ _ _ _ _ _)⟩
  ·
    refine q_iconst dX8_flip_10 ?_
    refine q_ireturn dX8_flip_11 ?_
    exact mpx_g (zbn h7)
set_option maxHeartbeats 1500000 in
theorem m_copiesBlock (hL : L ≤ 4) (hx : 0 ≤ x ∧ x ≤ L) (ha : 0 ≤ a ∧ a < p4 ((L : Int) - x)) (hb : 0 ≤ b ∧ b < p4 ((L : Int) - x)) : qCt mX8_copiesBlock 0 1 [.ref 37, .int (zI x), .int (zI a), .int (zI b)] M (qpv (rowF M (fcpy (M 42) (p4 x * a) (p4 x * b) (p4 x)))) := by
  have hpL := p4_in (L : Int)
  have hpx := p4_in x
  have hia := blk_in hL hx ha
  have hib := blk_in hL hx hb
  have hsep : a = b ∨ p4 x * a + p4 x ≤ p4 x * b ∨ p4 x * b + p4 x ≤ p4 x * a := by
    by_cases e : a = b
    · exact Or.inl e
    · right
      by_cases e2 : a < b
      · left
        have h : p4 x * (a + 1) ≤ p4 x * b := Int.mul_le_mul_of_nonneg_left (by omega) (by omega)
        rw [Int.mul_add, Int.mul_one] at h
        exact h
      · right
        have h : p4 x * (b + 1) ≤ p4 x * a := Int.mul_le_mul_of_nonneg_left (by omega) (by omega)
        rw [Int.mul_add, Int.mul_one] at h
        exact h
  refine q_intro (own := 8) (L := [some (.ref 37), some (.int (zI x)), some (.int (zI a)), some (.int (zI b)), none]) md_X8_copiesBlock rfl rfl rfl (Nat.le_of_ble_eq_true rfl) (fun X => ?_)
  refine q_iconst dX8_copiesBlock_0 ?_
  refine q_istore dX8_copiesBlock_1 (Nat.le_of_ble_eq_true rfl) rfl ?_
  refine q_lp (fun j : Int => (p4 x - j).toNat) (fun j => 0 ≤ j ∧ j ≤ p4 x) (fun j => [some (.ref 37), some (.int (zI x)), some (.int (zI a)), some (.int (zI b)), some (.int (zI j))]) (fun j => rowF M (fcpy (M 42) (p4 x * a) (p4 x * b) j)) 0 rfl (by
    have e : fcpy (M 42) (p4 x * a) (p4 x * b) 0 = M 42 := by funext i; unfold fcpy; rw [if_neg (by omega)]
    rw [e, rowF_id]) ⟨by omega, by omega⟩ (fun j hj ih => ?_)
  refine q_iload dX8_copiesBlock_3 rfl ?_
  refine q_iload_n dX8_copiesBlock_5 rfl ?_
  refine q_S1 dX8_copiesBlock_6 ml_8_94 md_X8_span (m_span (by omega)) rfl (by first | decide | omega) (Nat.le_of_ble_eq_true rfl) (Nat.le_of_ble_eq_true rfl) (qk_e ?_)
  refine q_icmp_ge (tgt := 46) dX8_copiesBlock_9 rfl (by (first | (unfold zR; omega) | (unfold zLR; omega) | omega | (simp only [zR, qup] at *; omega) | (simp [zR, qup]; omega) | (simp [zR, qup]; done))) (by (first | (unfold zR; omega) | (unfold zLR; omega) | omega | (simp only [zR, qup] at *; omega) | (simp [zR, qup]; omega) | (simp [zR, qup]; done))) (fun h9 => ?_) (fun h9 => ?_)
  rotate_left
  ·
    refine q_aload_n dX8_copiesBlock_12 rfl ?_
    refine q_getr dX8_copiesBlock_13 fl_8_23 rfl rfl ?_
    refine q_iload_n dX8_copiesBlock_16 rfl ?_
    refine q_S1 dX8_copiesBlock_17 ml_8_94 md_X8_span (m_span (by omega)) rfl (by first | decide | omega) (Nat.le_of_ble_eq_true rfl) (Nat.le_of_ble_eq_true rfl) (qk_e ?_)
    refine q_iload_n dX8_copiesBlock_20 rfl ?_
    refine q_imul dX8_copiesBlock_21 ?_
    refine q_iload dX8_copiesBlock_22 rfl ?_
    refine q_iadd dX8_copiesBlock_24 ?_
    refine q_aload_n dX8_copiesBlock_25 rfl ?_
    refine q_getr dX8_copiesBlock_26 fl_8_23 rfl rfl ?_
    refine q_iload_n dX8_copiesBlock_29 rfl ?_
    refine q_S1 dX8_copiesBlock_30 ml_8_94 md_X8_span (m_span (by omega)) rfl (by first | decide | omega) (Nat.le_of_ble_eq_true rfl) (Nat.le_of_ble_eq_true rfl) (qk_e ?_)
    refine q_iload_n dX8_copiesBlock_33 rfl ?_
    refine q_imul dX8_copiesBlock_34 ?_
    refine q_iload dX8_copiesBlock_35 rfl ?_
    refine q_iadd dX8_copiesBlock_37 ?_
    refine q_iald dX8_copiesBlock_38 rfl (by (first | (unfold zR; omega) | (unfold zLR; omega) | omega | (simp only [zR, qup] at *; omega) | (simp [zR, qup]; omega) | (simp [zR, qup]; done))) (Nat.le_of_ble_eq_true rfl) ?_
    have ev : rowF M (fcpy (M 42) (p4 x * a) (p4 x * b) j) 42 (p4 x * a + j) = M 42 (p4 x * a + j) := by
      show fcpy (M 42) (p4 x * a) (p4 x * b) j (p4 x * a + j) = _
      unfold fcpy
      by_cases g : p4 x * b ≤ p4 x * a + j ∧ p4 x * a + j < p4 x * b + j
      · rw [if_pos g]
        congr 1
        rcases hsep with e | e | e
        · subst e; omega
        · omega
        · omega
      · rw [if_neg g]
    rw [ev]
    refine q_iast dX8_copiesBlock_39 rfl (by (first | (unfold zR; omega) | (unfold zLR; omega) | omega | (simp only [zR, qup] at *; omega) | (simp [zR, qup]; omega) | (simp [zR, qup]; done))) (Nat.le_of_ble_eq_true rfl) ?_
    refine q_iinc dX8_copiesBlock_40 rfl (Nat.le_of_ble_eq_true rfl) rfl ?_
    refine q_goto (tgt := 3) dX8_copiesBlock_43 rfl ?_
    exact ih (j + 1) _ _ ⟨by omega, by omega⟩ (by omega) rfl (by
      funext u i
      by_cases g : u = 42
      · subst g
        by_cases g2 : i = p4 x * b + j
        · subst g2
          rw [qup_s]
          show _ = fcpy (M 42) (p4 x * a) (p4 x * b) (j + 1) (p4 x * b + j)
          unfold fcpy
          rw [if_pos ⟨by omega, by omega⟩, show p4 x * a + (p4 x * b + j - p4 x * b) = p4 x * a + j by omega]
        · rw [qup_k _ _ _ g2]
          show fcpy (M 42) (p4 x * a) (p4 x * b) j i = fcpy (M 42) (p4 x * a) (p4 x * b) (j + 1) i
          unfold fcpy
          by_cases g3 : p4 x * b ≤ i ∧ i < p4 x * b + j
          · rw [if_pos g3, if_pos ⟨g3.1, by omega⟩]
          · rw [if_neg g3, if_neg (by omega)]
      · rw [qup_o _ _ _ _ g, rowF_o _ _ g, rowF_o _ _ g])
  refine q_return dX8_copiesBlock_46 ?_
  exact ⟨rfl, by rw [show j = p4 x by omega]⟩
theorem fcpy_in {c : Int → Int} {L : Nat} (hb : ∀ k, 0 ≤ k → k < p4 L → 0 ≤ c k ∧ c k < 256) {f t n : Int} (hf : 0 ≤ f ∧ f + n ≤ p4 L) (ht : 0 ≤ t) : ∀ k, 0 ≤ k → k < p4 L → 0 ≤ fcpy c f t n k ∧ fcpy c f t n k < 256 := fun k k0 k1 => by
  unfold fcpy
  by_cases g : t ≤ k ∧ k < t + n
  · rw [if_pos g]; exact hb _ (by omega) (by omega)
  · rw [if_neg g]; exact hb k k0 k1
set_option maxHeartbeats 1500000 in
theorem o_copyBlock (hM : MI M) (hL : M 37 2 = (L : Int)) (hk : zR k) (hx : zR x) (ha : zR a) (hb : zR b) : qCt mX8_copyBlock 0 8 [.ref 37, .int (zI k), .int (zI x), .int (zI a), .int (zI b)] M (mpx (gor (gor (gG M k) (mBk M x a)) (mBk M x b)) (fun z M' => z = tsz (fcpy (scl M k) (p4 x * a) (p4 x * b) (p4 x)) L 0 ∧ MS (putF (kaW (qup M 37 0 0)) k L (fcpy (scl M k) (p4 x * a) (p4 x * b) (p4 x))) M') M) := by
  have hL4 : L ≤ 4 := by have := hM.2.1; omega
  have hpL := p4_in (L : Int)
  have hN := MI_ka (MI_g hM 0)
  have hNL : kaW (qup M 37 0 0) 37 2 = (L : Int) := by rw [kaW_37 (by decide), qup_k _ _ _ (by decide)]; exact hL
  have hNs : scl (kaW (qup M 37 0 0)) k = scl M k := by rw [kaW_scl, scl_g]
  have z01 := zb_01 ((0 ≤ x ∧ x ≤ M 37 2) ∧ 0 ≤ b ∧ b < p4 (M 37 2 - x))
  have e2 : ∀ g, qup M 37 0 g 37 2 = M 37 2 := fun g => qup_k _ _ _ (by decide)
  refine q_intro (own := 8) (L := [some (.ref 37), some (.int (zI k)), some (.int (zI x)), some (.int (zI a)), some (.int (zI b))]) md_X8_copyBlock rfl rfl rfl (Nat.le_of_ble_eq_true rfl) (fun X => ?_)
  refine q_aload_n dX8_copyBlock_0 rfl ?_
  refine q_iload_n dX8_copyBlock_1 rfl ?_
  refine q_iload_n dX8_copyBlock_2 rfl ?_
  refine q_iload_n dX8_copyBlock_3 rfl ?_
  refine q_V3 dX8_copyBlock_4 ml_8_335 md_X8_noBlock (m_noBlock hM hk hx ha) rfl rfl rfl (by first | decide | omega) (Nat.le_of_ble_eq_true rfl) (Nat.le_of_ble_eq_true rfl) (qk_e ?_)
  refine q_if_ne (tgt := 33) dX8_copyBlock_7 rfl (by exact zb_R _) (fun h7 => ?_) (fun h7 => ?_)
  ·
    refine q_iconst dX8_copyBlock_33 ?_
    refine q_ireturn dX8_copyBlock_34 ?_
    exact mpx_g2 (zbn h7)
  ·
    refine q_aload_n dX8_copyBlock_10 rfl ?_
    refine q_aload_n dX8_copyBlock_11 rfl ?_
    refine q_iload_n dX8_copyBlock_12 rfl ?_
    refine q_iload dX8_copyBlock_13 rfl ?_
    refine q_V2 dX8_copyBlock_15 ml_8_332 md_X8_isBlock (m_isBlock (by rw [e2]; exact hM.2.1) hx hb) rfl rfl rfl (by first | decide | omega) (Nat.le_of_ble_eq_true rfl) (Nat.le_of_ble_eq_true rfl) (qk_e ?_)
    rw [e2]
    refine q_if_ne (tgt := 25) dX8_copyBlock_18 rfl (by exact zb_R _) (fun h18 => ?_) (fun h18 => ?_)
    ·
      refine q_iconst dX8_copyBlock_25 ?_
      refine q_iconst dX8_copyBlock_26 ?_
      have hgb : (if (0 : Int) = 1 then (2 : Int) else 0) = mBk M x b := (if_pos (zb_1.1 (show zb ((0 ≤ x ∧ x ≤ M 37 2) ∧ 0 ≤ b ∧ b < p4 (M 37 2 - x)) = 1 by omega))).symm
      refine q_V2 dX8_copyBlock_27 ml_8_64 md_X8_refuse (m_refH (by omega) (gor_R (gor_R (mT_R M) mMp_R) (ite_R (by unfold zR; omega) (by unfold zR; omega))) (by (first | (unfold zR; omega) | (unfold zLR; omega) | omega | (simp only [zR, qup] at *; omega) | (simp [zR, qup]; omega) | (simp [zR, qup]; done))) hgb) rfl rfl rfl (by first | decide | omega) (Nat.le_of_ble_eq_true rfl) (Nat.le_of_ble_eq_true rfl) (qk_e ?_)
      refine q_if_eq (tgt := 35) dX8_copyBlock_30 rfl (by exact zb_R _) (fun h30 => ?_) (fun h30 => ?_)
      ·
        have hg := zbz h30
        have hg1 := gor_00.1 hg
        have hg2 := gor_00.1 hg1.1
        have hgk := gG_0 hM hg2.1
        have hba := mBk_0 hL hg2.2
        have hbb := mBk_0 hL hg1.2
        have hia := blk_in hL4 hba.1 hba.2
        have hib := blk_in hL4 hbb.1 hbb.2
        rw [hg]
        have he : cE (fW (kaW (qup M 37 0 0)) (kaW (qup M 37 0 0) 37 0) L k 42) (scl M k) L := fun i i0 i1 => by rw [fW_42 ⟨i0, i1⟩, hNs]
        have hE := fcpy_e he (f := p4 x * a) (t := p4 x * b) (n := p4 x) hia hib.1
        have hG := fcpy_in (c := fW (kaW (qup M 37 0 0)) (kaW (qup M 37 0 0) 37 0) L k 42) (L := L) (fun j j0 j1 => fW_b hN (by omega) ⟨j0, j1⟩) hia hib.1
        refine q_aload_n dX8_copyBlock_35 rfl ?_
        refine q_V0 dX8_copyBlock_36 ml_8_390 md_X8_keepsAll (m_keepsAll (by rw [qup_k _ _ _ (by decide)]; exact hM.2.2.2.2.2.2.1)) rfl rfl rfl (by first | decide | omega) (Nat.le_of_ble_eq_true rfl) (Nat.le_of_ble_eq_true rfl) (qk_v ?_)
        refine q_aload_n dX8_copyBlock_39 rfl ?_
        refine q_iload_n dX8_copyBlock_40 rfl ?_
        refine q_V1 dX8_copyBlock_41 ml_8_117 md_X8_fetches (m_fetchN hN hNL (by omega)) rfl rfl rfl (by first | decide | omega) (Nat.le_of_ble_eq_true rfl) (Nat.le_of_ble_eq_true rfl) (qk_v ?_)
        refine q_aload_n dX8_copyBlock_44 rfl ?_
        refine q_iload_n dX8_copyBlock_45 rfl ?_
        refine q_iload_n dX8_copyBlock_46 rfl ?_
        refine q_iload dX8_copyBlock_47 rfl ?_
        refine q_V3 dX8_copyBlock_49 ml_8_143 md_X8_copiesBlock (m_copiesBlock (L := L) hL4 hba.1 hba.2 hbb.2) rfl rfl rfl (by first | decide | omega) (Nat.le_of_ble_eq_true rfl) (Nat.le_of_ble_eq_true rfl) (qk_v ?_)
        refine q_aload_n dX8_copyBlock_52 rfl ?_
        refine q_iload_n dX8_copyBlock_53 rfl ?_
        refine q_V1 dX8_copyBlock_54 ml_8_393 md_X8_puts (m_puts (L := L) (by rw [rowF_o _ _ (by decide)]; exact fW_9) hL4 (by omega)) rfl rfl rfl (by first | decide | omega) (Nat.le_of_ble_eq_true rfl) (Nat.le_of_ble_eq_true rfl) (qk_v ?_)
        refine q_aload_n dX8_copyBlock_57 rfl ?_
        refine q_V0 dX8_copyBlock_58 ml_8_121 md_X8_laysTree (m_laysTreeQ hL4 (by rw [putW_37, rowF_o _ _ (by decide)]; exact fW_9) (fun k k0 k1 => by rw [putW_42]; exact hG k k0 k1)) rfl rfl rfl (by first | decide | omega) (Nat.le_of_ble_eq_true rfl) (Nat.le_of_ble_eq_true rfl) (qk_h (fun N58 hq58 => ?_))
        obtain ⟨T2, K2, F2, S2, rfl, hm2⟩ := hq58
        refine q_aload_n dX8_copyBlock_61 rfl ?_
        refine q_geti (j := 12) dX8_copyBlock_62 fl_8_101 rfl rfl rfl ?_
        rw [mtw_12, putW_42]
        refine q_ireturn dX8_copyBlock_65 ?_
        exact mpx_k hg ⟨tsz_eL hL4 hE, MS_tr (MS_put (MS_tr (MS_fN _ L k) (rowF_MS _ _)) hE) (mtw_MS _ _ _ _ _ _)⟩
      ·
        refine q_iconst dX8_copyBlock_33 ?_
        refine q_ireturn dX8_copyBlock_34 ?_
        exact mpx_g (zbn h30)
    ·
      refine q_iconst dX8_copyBlock_21 ?_
      refine q_goto (tgt := 26) dX8_copyBlock_22 rfl ?_
      refine q_iconst dX8_copyBlock_26 ?_
      have hgb : (if (1 : Int) = 1 then (2 : Int) else 0) = mBk M x b := (if_neg (zb_0.1 (show zb ((0 ≤ x ∧ x ≤ M 37 2) ∧ 0 ≤ b ∧ b < p4 (M 37 2 - x)) = 0 by omega))).symm
      refine q_V2 dX8_copyBlock_27 ml_8_64 md_X8_refuse (m_refH (by omega) (gor_R (gor_R (mT_R M) mMp_R) (ite_R (by unfold zR; omega) (by unfold zR; omega))) (by (first | (unfold zR; omega) | (unfold zLR; omega) | omega | (simp only [zR, qup] at *; omega) | (simp [zR, qup]; omega) | (simp [zR, qup]; done))) hgb) rfl rfl rfl (by first | decide | omega) (Nat.le_of_ble_eq_true rfl) (Nat.le_of_ble_eq_true rfl) (qk_e ?_)
      refine q_if_eq (tgt := 35) dX8_copyBlock_30 rfl (by exact zb_R _) (fun h30 => ?_) (fun h30 => ?_)
      ·
        have hg := zbz h30
        have hg1 := gor_00.1 hg
        have hg2 := gor_00.1 hg1.1
        have hgk := gG_0 hM hg2.1
        have hba := mBk_0 hL hg2.2
        have hbb := mBk_0 hL hg1.2
        have hia := blk_in hL4 hba.1 hba.2
        have hib := blk_in hL4 hbb.1 hbb.2
        rw [hg]
        have he : cE (fW (kaW (qup M 37 0 0)) (kaW (qup M 37 0 0) 37 0) L k 42) (scl M k) L := fun i i0 i1 => by rw [fW_42 ⟨i0, i1⟩, hNs]
        have hE := fcpy_e he (f := p4 x * a) (t := p4 x * b) (n := p4 x) hia hib.1
        have hG := fcpy_in (c := fW (kaW (qup M 37 0 0)) (kaW (qup M 37 0 0) 37 0) L k 42) (L := L) (fun j j0 j1 => fW_b hN (by omega) ⟨j0, j1⟩) hia hib.1
        refine q_aload_n dX8_copyBlock_35 rfl ?_
        refine q_V0 dX8_copyBlock_36 ml_8_390 md_X8_keepsAll (m_keepsAll (by rw [qup_k _ _ _ (by decide)]; exact hM.2.2.2.2.2.2.1)) rfl rfl rfl (by first | decide | omega) (Nat.le_of_ble_eq_true rfl) (Nat.le_of_ble_eq_true rfl) (qk_v ?_)
        refine q_aload_n dX8_copyBlock_39 rfl ?_
        refine q_iload_n dX8_copyBlock_40 rfl ?_
        refine q_V1 dX8_copyBlock_41 ml_8_117 md_X8_fetches (m_fetchN hN hNL (by omega)) rfl rfl rfl (by first | decide | omega) (Nat.le_of_ble_eq_true rfl) (Nat.le_of_ble_eq_true rfl) (qk_v ?_)
        refine q_aload_n dX8_copyBlock_44 rfl ?_
        refine q_iload_n dX8_copyBlock_45 rfl ?_
        refine q_iload_n dX8_copyBlock_46 rfl ?_
        refine q_iload dX8_copyBlock_47 rfl ?_
        refine q_V3 dX8_copyBlock_49 ml_8_143 md_X8_copiesBlock (m_copiesBlock (L := L) hL4 hba.1 hba.2 hbb.2) rfl rfl rfl (by first | decide | omega) (Nat.le_of_ble_eq_true rfl) (Nat.le_of_ble_eq_true rfl) (qk_v ?_)
        refine q_aload_n dX8_copyBlock_52 rfl ?_
        refine q_iload_n dX8_copyBlock_53 rfl ?_
        refine q_V1 dX8_copyBlock_54 ml_8_393 md_X8_puts (m_puts (L := L) (by rw [rowF_o _ _ (by decide)]; exact fW_9) hL4 (by omega)) rfl rfl rfl (by first | decide | omega) (Nat.le_of_ble_eq_true rfl) (Nat.le_of_ble_eq_true rfl) (qk_v ?_)
        refine q_aload_n dX8_copyBlock_57 rfl ?_
        refine q_V0 dX8_copyBlock_58 ml_8_121 md_X8_laysTree (m_laysTreeQ hL4 (by rw [putW_37, rowF_o _ _ (by decide)]; exact fW_9) (fun k k0 k1 => by rw [putW_42]; exact hG k k0 k1)) rfl rfl rfl (by first | decide | omega) (Nat.le_of_ble_eq_true rfl) (Nat.le_of_ble_eq_true rfl) (qk_h (fun N58 hq58 => ?_))
        obtain ⟨T2, K2, F2, S2, rfl, hm2⟩ := hq58
        refine q_aload_n dX8_copyBlock_61 rfl ?_
        refine q_geti (j := 12) dX8_copyBlock_62 fl_8_101 rfl rfl rfl ?_
        rw [mtw_12, putW_42]
        refine q_ireturn dX8_copyBlock_65 ?_
        exact mpx_k hg ⟨tsz_eL hL4 hE, MS_tr (MS_put (MS_tr (MS_fN _ L k) (rowF_MS _ _)) hE) (mtw_MS _ _ _ _ _ _)⟩
      ·
        refine q_iconst dX8_copyBlock_33 ?_
        refine q_ireturn dX8_copyBlock_34 ?_
        exact mpx_g (zbn h30)
set_option maxHeartbeats 1500000 in
theorem m_combN (hM : MI N) (hL : N 37 2 = (L : Int)) (hq : 0 ≤ q ∧ q ≤ 3) (hk : 0 ≤ k ∧ k < 6) (ho : 0 ≤ o ∧ o < 6) : qCt mX8_combines 0 1 [.ref 37, .int (zI q), .int (zI k), .int (zI o)] N (qpv (cW N (N 37 0) L q k o)) := by
  have h := m_combines (M := N) (g := N 37 0) hM hL hq hk ho
  rw [qup_id] at h
  exact h
theorem MS_cN (N : qM) (L : Nat) (q k o : Int) : MS N (cW N (N 37 0) L q k o) := by
  have h := cW_MS (M := N) (g := N 37 0) (L := L) (q := q) (k := k) (o := o)
  rw [qup_id] at h
  exact h
set_option maxHeartbeats 1500000 in
theorem o_combine (hM : MI M) (hL : M 37 2 = (L : Int)) (hk : zR k) (ho : zR o) (hw : zR w) (hq : zR q) : qCt mX8_combine 0 4 [.ref 37, .int (zI q), .int (zI k), .int (zI o), .int (zI w)] M (mpx (gor (gor (gor (gG M k) (mMp M o)) (mMp M w)) (gKind q)) (fun z M' => z = zsum (bitP (fun i => mgF q (scl M k i) (scl M o i))) 0 (8 * p4 L).toNat ∧ MS (putF (kaW (qup M 37 0 0)) w L (fun i => mgF q (scl M k i) (scl M o i))) M') M) := by
  have hL4 : L ≤ 4 := by have := hM.2.1; omega
  have hpL := p4_in (L : Int)
  have hN := MI_ka (MI_g hM 0)
  have hNL : kaW (qup M 37 0 0) 37 2 = (L : Int) := by rw [kaW_37 (by decide), qup_k _ _ _ (by decide)]; exact hL
  have hNs : ∀ r, scl (kaW (qup M 37 0 0)) r = scl M r := fun r => by rw [kaW_scl, scl_g]
  have z01 := zb_01 (0 ≤ q ∧ q ≤ 3)
  have z02 := zb_01 (0 ≤ w ∧ w < M 37 3)
  have e3 : ∀ g, qup M 37 0 g 37 3 = M 37 3 := fun g => qup_k _ _ _ (by decide)
  refine q_intro (own := 8) (L := [some (.ref 37), some (.int (zI q)), some (.int (zI k)), some (.int (zI o)), some (.int (zI w))]) md_X8_combine rfl rfl rfl (Nat.le_of_ble_eq_true rfl) (fun X => ?_)
  refine q_aload_n dX8_combine_0 rfl ?_
  refine q_iload_n dX8_combine_1 rfl ?_
  refine q_iload_n dX8_combine_2 rfl ?_
  refine q_V2 dX8_combine_3 ml_8_341 md_X8_noPair (m_noPair hM hk ho) rfl rfl rfl (by first | decide | omega) (Nat.le_of_ble_eq_true rfl) (Nat.le_of_ble_eq_true rfl) (qk_e ?_)
  refine q_if_ne (tgt := 53) dX8_combine_6 rfl (by exact zb_R _) (fun h6 => ?_) (fun h6 => ?_)
  ·
    refine q_iconst dX8_combine_53 ?_
    refine q_ireturn dX8_combine_54 ?_
    have h := zbn h6
    rw [show gor (gor (gor (gG M k) (mMp M o)) (mMp M w)) (gKind q) = gor (gor (gG M k) (mMp M o)) (gor (mMp M w) (gKind q)) by simp only [gor_as]]
    exact mpx_g2 h
  ·
    refine q_aload_n dX8_combine_9 rfl ?_
    refine q_aload_n dX8_combine_10 rfl ?_
    refine q_iload dX8_combine_11 rfl ?_
    refine q_V1 dX8_combine_13 ml_8_79 md_X8_isMap (m_isMap (by rw [e3]; exact hM.2.2.2.1) hw) rfl rfl rfl (by first | decide | omega) (Nat.le_of_ble_eq_true rfl) (Nat.le_of_ble_eq_true rfl) (qk_e ?_)
    rw [e3]
    refine q_if_ne (tgt := 23) dX8_combine_16 rfl (by exact zb_R _) (fun h16 => ?_) (fun h16 => ?_)
    ·
      refine q_iconst dX8_combine_23 ?_
      refine q_iconst dX8_combine_24 ?_
      have hgb : (if (0 : Int) = 1 then (2 : Int) else 0) = mMp M w := (if_pos (zb_1.1 (show zb (0 ≤ w ∧ w < M 37 3) = 1 by omega))).symm
      refine q_V2 dX8_combine_25 ml_8_64 md_X8_refuse (m_refH (by omega) (gor_R (gor_R (mT_R M) mMp_R) mMp_R) (by (first | (unfold zR; omega) | (unfold zLR; omega) | omega | (simp only [zR, qup] at *; omega) | (simp [zR, qup]; omega) | (simp [zR, qup]; done))) hgb) rfl rfl rfl (by first | decide | omega) (Nat.le_of_ble_eq_true rfl) (Nat.le_of_ble_eq_true rfl) (qk_e ?_)
      refine q_if_ne (tgt := 53) dX8_combine_28 rfl (by exact zb_R _) (fun h28 => ?_) (fun h28 => ?_)
      ·
        refine q_iconst dX8_combine_53 ?_
        refine q_ireturn dX8_combine_54 ?_
        exact mpx_g2 (zbn h28)
      ·
        refine q_aload_n dX8_combine_31 rfl ?_
        refine q_iload_n dX8_combine_32 rfl ?_
        refine q_iconst dX8_combine_33 ?_
        refine q_iconst dX8_combine_34 ?_
        refine q_S3 dX8_combine_35 ml_8_71 md_X8_in (m_in hq (by (first | (unfold zR; omega) | (unfold zLR; omega) | omega | (simp only [zR, qup] at *; omega) | (simp [zR, qup]; omega) | (simp [zR, qup]; done))) (by (first | (unfold zR; omega) | (unfold zLR; omega) | omega | (simp only [zR, qup] at *; omega) | (simp [zR, qup]; omega) | (simp [zR, qup]; done)))) rfl (by first | decide | omega) (Nat.le_of_ble_eq_true rfl) (Nat.le_of_ble_eq_true rfl) (qk_e ?_)
        refine q_if_ne (tgt := 45) dX8_combine_38 rfl (by exact zb_R _) (fun h38 => ?_) (fun h38 => ?_)
        ·
          refine q_iconst dX8_combine_45 ?_
          refine q_iconst dX8_combine_46 ?_
          have hgc : (if (0 : Int) = 1 then (3 : Int) else 0) = gKind q := (if_pos (zb_1.1 (show zb (0 ≤ q ∧ q ≤ 3) = 1 by omega))).symm
          refine q_V2 dX8_combine_47 ml_8_64 md_X8_refuse (m_refH (by omega) (gor_R (gor_R (gor_R (mT_R M) mMp_R) mMp_R) mMp_R) (by (first | (unfold zR; omega) | (unfold zLR; omega) | omega | (simp only [zR, qup] at *; omega) | (simp [zR, qup]; omega) | (simp [zR, qup]; done))) hgc) rfl rfl rfl (by first | decide | omega) (Nat.le_of_ble_eq_true rfl) (Nat.le_of_ble_eq_true rfl) (qk_e ?_)
          refine q_if_eq (tgt := 55) dX8_combine_50 rfl (by exact zb_R _) (fun h50 => ?_) (fun h50 => ?_)
          ·
            have hg := zbz h50
            have hg0 := gor_00.1 hg
            have hg1 := gor_00.1 hg0.1
            have hg2 := gor_00.1 hg1.1
            have hgk := gG_0 hM hg2.1
            have hgo := mMp_0 hM hg2.2
            have hgw := mMp_0 hM hg1.2
            have hkd := gKind_0.1 hg0.2
            have he : cE (cW (kaW (qup M 37 0 0)) (kaW (qup M 37 0 0) 37 0) L q k o 42) (fun i => mgF q (scl M k i) (scl M o i)) L := fun i i0 i1 => by rw [cW_42 ⟨i0, i1⟩, hNs, hNs]
            have hG : ∀ j, 0 ≤ j → j < p4 L → 0 ≤ cW (kaW (qup M 37 0 0)) (kaW (qup M 37 0 0) 37 0) L q k o 42 j ∧ cW (kaW (qup M 37 0 0)) (kaW (qup M 37 0 0) 37 0) L q k o 42 j < 256 := fun i i0 i1 => by rw [he i i0 i1]; exact mgF_in (scl_b hM (by omega) (by omega)) (scl_b hM (by omega) (by omega))
            rw [hg]
            refine q_aload_n dX8_combine_55 rfl ?_
            refine q_V0 dX8_combine_56 ml_8_390 md_X8_keepsAll (m_keepsAll (by rw [qup_k _ _ _ (by decide)]; exact hM.2.2.2.2.2.2.1)) rfl rfl rfl (by first | decide | omega) (Nat.le_of_ble_eq_true rfl) (Nat.le_of_ble_eq_true rfl) (qk_v ?_)
            refine q_aload_n dX8_combine_59 rfl ?_
            refine q_iload_n dX8_combine_60 rfl ?_
            refine q_iload_n dX8_combine_61 rfl ?_
            refine q_iload_n dX8_combine_62 rfl ?_
            refine q_V3 dX8_combine_63 ml_8_357 md_X8_combines (m_combN hN hNL (by omega) (by omega) (by omega)) rfl rfl rfl (by first | decide | omega) (Nat.le_of_ble_eq_true rfl) (Nat.le_of_ble_eq_true rfl) (qk_v ?_)
            refine q_aload_n dX8_combine_66 rfl ?_
            refine q_iload dX8_combine_67 rfl ?_
            refine q_V1 dX8_combine_69 ml_8_393 md_X8_puts (m_puts (L := L) cW_9 hL4 (by omega)) rfl rfl rfl (by first | decide | omega) (Nat.le_of_ble_eq_true rfl) (Nat.le_of_ble_eq_true rfl) (qk_v ?_)
            refine q_aload_n dX8_combine_72 rfl ?_
            refine q_iconst dX8_combine_73 ?_
            refine q_aload_n dX8_combine_74 rfl ?_
            refine q_V0 dX8_combine_75 ml_8_225 md_X8_bits (m_bits (L := L) (by rw [putW_37]; exact cW_9) hL4) rfl rfl rfl (by first | decide | omega) (Nat.le_of_ble_eq_true rfl) (Nat.le_of_ble_eq_true rfl) (qk_e ?_)
            refine q_iconst dX8_combine_78 ?_
            refine q_isub dX8_combine_79 ?_
            refine q_V2 dX8_combine_80 ml_8_305 md_X8_onesIn (m_onesIn (Int.le_refl 0) (by omega) (fun p p0 p1 => by rw [putW_42]; exact hG _ (by omega) (by omega)) (by omega)) rfl rfl rfl (by first | decide | omega) (Nat.le_of_ble_eq_true rfl) (Nat.le_of_ble_eq_true rfl) (qk_e ?_)
            rw [show 8 * p4 (L : Int) - 1 - 0 + 1 = 8 * p4 (L : Int) by omega, putW_42]
            refine q_ireturn dX8_combine_83 ?_
            exact mpx_k hg ⟨zsum_bit_e he (Int.le_refl 0) (by omega), MS_put (MS_cN _ L q k o) he⟩
          ·
            refine q_iconst dX8_combine_53 ?_
            refine q_ireturn dX8_combine_54 ?_
            exact mpx_g (zbn h50)
        ·
          refine q_iconst dX8_combine_41 ?_
          refine q_goto (tgt := 46) dX8_combine_42 rfl ?_
          refine q_iconst dX8_combine_46 ?_
          have hgc : (if (1 : Int) = 1 then (3 : Int) else 0) = gKind q := (if_neg (zb_0.1 (show zb (0 ≤ q ∧ q ≤ 3) = 0 by omega))).symm
          refine q_V2 dX8_combine_47 ml_8_64 md_X8_refuse (m_refH (by omega) (gor_R (gor_R (gor_R (mT_R M) mMp_R) mMp_R) mMp_R) (by (first | (unfold zR; omega) | (unfold zLR; omega) | omega | (simp only [zR, qup] at *; omega) | (simp [zR, qup]; omega) | (simp [zR, qup]; done))) hgc) rfl rfl rfl (by first | decide | omega) (Nat.le_of_ble_eq_true rfl) (Nat.le_of_ble_eq_true rfl) (qk_e ?_)
          refine q_if_eq (tgt := 55) dX8_combine_50 rfl (by exact zb_R _) (fun h50 => ?_) (fun h50 => ?_)
          ·
            have hg := zbz h50
            have hg0 := gor_00.1 hg
            have hg1 := gor_00.1 hg0.1
            have hg2 := gor_00.1 hg1.1
            have hgk := gG_0 hM hg2.1
            have hgo := mMp_0 hM hg2.2
            have hgw := mMp_0 hM hg1.2
            have hkd := gKind_0.1 hg0.2
            have he : cE (cW (kaW (qup M 37 0 0)) (kaW (qup M 37 0 0) 37 0) L q k o 42) (fun i => mgF q (scl M k i) (scl M o i)) L := fun i i0 i1 => by rw [cW_42 ⟨i0, i1⟩, hNs, hNs]
            have hG : ∀ j, 0 ≤ j → j < p4 L → 0 ≤ cW (kaW (qup M 37 0 0)) (kaW (qup M 37 0 0) 37 0) L q k o 42 j ∧ cW (kaW (qup M 37 0 0)) (kaW (qup M 37 0 0) 37 0) L q k o 42 j < 256 := fun i i0 i1 => by rw [he i i0 i1]; exact mgF_in (scl_b hM (by omega) (by omega)) (scl_b hM (by omega) (by omega))
            rw [hg]
            refine q_aload_n dX8_combine_55 rfl ?_
            refine q_V0 dX8_combine_56 ml_8_390 md_X8_keepsAll (m_keepsAll (by rw [qup_k _ _ _ (by decide)]; exact hM.2.2.2.2.2.2.1)) rfl rfl rfl (by first | decide | omega) (Nat.le_of_ble_eq_true rfl) (Nat.le_of_ble_eq_true rfl) (qk_v ?_)
            refine q_aload_n dX8_combine_59 rfl ?_
            refine q_iload_n dX8_combine_60 rfl ?_
            refine q_iload_n dX8_combine_61 rfl ?_
            refine q_iload_n dX8_combine_62 rfl ?_
            refine q_V3 dX8_combine_63 ml_8_357 md_X8_combines (m_combN hN hNL (by omega) (by omega) (by omega)) rfl rfl rfl (by first | decide | omega) (Nat.le_of_ble_eq_true rfl) (Nat.le_of_ble_eq_true rfl) (qk_v ?_)
            refine q_aload_n dX8_combine_66 rfl ?_
            refine q_iload dX8_combine_67 rfl ?_
            refine q_V1 dX8_combine_69 ml_8_393 md_X8_puts (m_puts (L := L) cW_9 hL4 (by omega)) rfl rfl rfl (by first | decide | omega) (Nat.le_of_ble_eq_true rfl) (Nat.le_of_ble_eq_true rfl) (qk_v ?_)
            refine q_aload_n dX8_combine_72 rfl ?_
            refine q_iconst dX8_combine_73 ?_
            refine q_aload_n dX8_combine_74 rfl ?_
            refine q_V0 dX8_combine_75 ml_8_225 md_X8_bits (m_bits (L := L) (by rw [putW_37]; exact cW_9) hL4) rfl rfl rfl (by first | decide | omega) (Nat.le_of_ble_eq_true rfl) (Nat.le_of_ble_eq_true rfl) (qk_e ?_)
            refine q_iconst dX8_combine_78 ?_
            refine q_isub dX8_combine_79 ?_
            refine q_V2 dX8_combine_80 ml_8_305 md_X8_onesIn (m_onesIn (Int.le_refl 0) (by omega) (fun p p0 p1 => by rw [putW_42]; exact hG _ (by omega) (by omega)) (by omega)) rfl rfl rfl (by first | decide | omega) (Nat.le_of_ble_eq_true rfl) (Nat.le_of_ble_eq_true rfl) (qk_e ?_)
            rw [show 8 * p4 (L : Int) - 1 - 0 + 1 = 8 * p4 (L : Int) by omega, putW_42]
            refine q_ireturn dX8_combine_83 ?_
            exact mpx_k hg ⟨zsum_bit_e he (Int.le_refl 0) (by omega), MS_put (MS_cN _ L q k o) he⟩
          ·
            refine q_iconst dX8_combine_53 ?_
            refine q_ireturn dX8_combine_54 ?_
            exact mpx_g (zbn h50)
    ·
      refine q_iconst dX8_combine_19 ?_
      refine q_goto (tgt := 24) dX8_combine_20 rfl ?_
      refine q_iconst dX8_combine_24 ?_
      have hgb : (if (1 : Int) = 1 then (2 : Int) else 0) = mMp M w := (if_neg (zb_0.1 (show zb (0 ≤ w ∧ w < M 37 3) = 0 by omega))).symm
      refine q_V2 dX8_combine_25 ml_8_64 md_X8_refuse (m_refH (by omega) (gor_R (gor_R (mT_R M) mMp_R) mMp_R) (by (first | (unfold zR; omega) | (unfold zLR; omega) | omega | (simp only [zR, qup] at *; omega) | (simp [zR, qup]; omega) | (simp [zR, qup]; done))) hgb) rfl rfl rfl (by first | decide | omega) (Nat.le_of_ble_eq_true rfl) (Nat.le_of_ble_eq_true rfl) (qk_e ?_)
      refine q_if_ne (tgt := 53) dX8_combine_28 rfl (by exact zb_R _) (fun h28 => ?_) (fun h28 => ?_)
      ·
        refine q_iconst dX8_combine_53 ?_
        refine q_ireturn dX8_combine_54 ?_
        exact mpx_g2 (zbn h28)
      ·
        refine q_aload_n dX8_combine_31 rfl ?_
        refine q_iload_n dX8_combine_32 rfl ?_
        refine q_iconst dX8_combine_33 ?_
        refine q_iconst dX8_combine_34 ?_
        refine q_S3 dX8_combine_35 ml_8_71 md_X8_in (m_in hq (by (first | (unfold zR; omega) | (unfold zLR; omega) | omega | (simp only [zR, qup] at *; omega) | (simp [zR, qup]; omega) | (simp [zR, qup]; done))) (by (first | (unfold zR; omega) | (unfold zLR; omega) | omega | (simp only [zR, qup] at *; omega) | (simp [zR, qup]; omega) | (simp [zR, qup]; done)))) rfl (by first | decide | omega) (Nat.le_of_ble_eq_true rfl) (Nat.le_of_ble_eq_true rfl) (qk_e ?_)
        refine q_if_ne (tgt := 45) dX8_combine_38 rfl (by exact zb_R _) (fun h38 => ?_) (fun h38 => ?_)
        ·
          refine q_iconst dX8_combine_45 ?_
          refine q_iconst dX8_combine_46 ?_
          have hgc : (if (0 : Int) = 1 then (3 : Int) else 0) = gKind q := (if_pos (zb_1.1 (show zb (0 ≤ q ∧ q ≤ 3) = 1 by omega))).symm
          refine q_V2 dX8_combine_47 ml_8_64 md_X8_refuse (m_refH (by omega) (gor_R (gor_R (gor_R (mT_R M) mMp_R) mMp_R) mMp_R) (by (first | (unfold zR; omega) | (unfold zLR; omega) | omega | (simp only [zR, qup] at *; omega) | (simp [zR, qup]; omega) | (simp [zR, qup]; done))) hgc) rfl rfl rfl (by first | decide | omega) (Nat.le_of_ble_eq_true rfl) (Nat.le_of_ble_eq_true rfl) (qk_e ?_)
          refine q_if_eq (tgt := 55) dX8_combine_50 rfl (by exact zb_R _) (fun h50 => ?_) (fun h50 => ?_)
          ·
            have hg := zbz h50
            have hg0 := gor_00.1 hg
            have hg1 := gor_00.1 hg0.1
            have hg2 := gor_00.1 hg1.1
            have hgk := gG_0 hM hg2.1
            have hgo := mMp_0 hM hg2.2
            have hgw := mMp_0 hM hg1.2
            have hkd := gKind_0.1 hg0.2
            have he : cE (cW (kaW (qup M 37 0 0)) (kaW (qup M 37 0 0) 37 0) L q k o 42) (fun i => mgF q (scl M k i) (scl M o i)) L := fun i i0 i1 => by rw [cW_42 ⟨i0, i1⟩, hNs, hNs]
            have hG : ∀ j, 0 ≤ j → j < p4 L → 0 ≤ cW (kaW (qup M 37 0 0)) (kaW (qup M 37 0 0) 37 0) L q k o 42 j ∧ cW (kaW (qup M 37 0 0)) (kaW (qup M 37 0 0) 37 0) L q k o 42 j < 256 := fun i i0 i1 => by rw [he i i0 i1]; exact mgF_in (scl_b hM (by omega) (by omega)) (scl_b hM (by omega) (by omega))
            rw [hg]
            refine q_aload_n dX8_combine_55 rfl ?_
            refine q_V0 dX8_combine_56 ml_8_390 md_X8_keepsAll (m_keepsAll (by rw [qup_k _ _ _ (by decide)]; exact hM.2.2.2.2.2.2.1)) rfl rfl rfl (by first | decide | omega) (Nat.le_of_ble_eq_true rfl) (Nat.le_of_ble_eq_true rfl) (qk_v ?_)
            refine q_aload_n dX8_combine_59 rfl ?_
            refine q_iload_n dX8_combine_60 rfl ?_
            refine q_iload_n dX8_combine_61 rfl ?_
            refine q_iload_n dX8_combine_62 rfl ?_
            refine q_V3 dX8_combine_63 ml_8_357 md_X8_combines (m_combN hN hNL (by omega) (by omega) (by omega)) rfl rfl rfl (by first | decide | omega) (Nat.le_of_ble_eq_true rfl) (Nat.le_of_ble_eq_true rfl) (qk_v ?_)
            refine q_aload_n dX8_combine_66 rfl ?_
            refine q_iload dX8_combine_67 rfl ?_
            refine q_V1 dX8_combine_69 ml_8_393 md_X8_puts (m_puts (L := L) cW_9 hL4 (by omega)) rfl rfl rfl (by first | decide | omega) (Nat.le_of_ble_eq_true rfl) (Nat.le_of_ble_eq_true rfl) (qk_v ?_)
            refine q_aload_n dX8_combine_72 rfl ?_
            refine q_iconst dX8_combine_73 ?_
            refine q_aload_n dX8_combine_74 rfl ?_
            refine q_V0 dX8_combine_75 ml_8_225 md_X8_bits (m_bits (L := L) (by rw [putW_37]; exact cW_9) hL4) rfl rfl rfl (by first | decide | omega) (Nat.le_of_ble_eq_true rfl) (Nat.le_of_ble_eq_true rfl) (qk_e ?_)
            refine q_iconst dX8_combine_78 ?_
            refine q_isub dX8_combine_79 ?_
            refine q_V2 dX8_combine_80 ml_8_305 md_X8_onesIn (m_onesIn (Int.le_refl 0) (by omega) (fun p p0 p1 => by rw [putW_42]; exact hG _ (by omega) (by omega)) (by omega)) rfl rfl rfl (by first | decide | omega) (Nat.le_of_ble_eq_true rfl) (Nat.le_of_ble_eq_true rfl) (qk_e ?_)
            rw [show 8 * p4 (L : Int) - 1 - 0 + 1 = 8 * p4 (L : Int) by omega, putW_42]
            refine q_ireturn dX8_combine_83 ?_
            exact mpx_k hg ⟨zsum_bit_e he (Int.le_refl 0) (by omega), MS_put (MS_cN _ L q k o) he⟩
          ·
            refine q_iconst dX8_combine_53 ?_
            refine q_ireturn dX8_combine_54 ?_
            exact mpx_g (zbn h50)
        ·
          refine q_iconst dX8_combine_41 ?_
          refine q_goto (tgt := 46) dX8_combine_42 rfl ?_
          refine q_iconst dX8_combine_46 ?_
          have hgc : (if (1 : Int) = 1 then (3 : Int) else 0) = gKind q := (if_neg (zb_0.1 (show zb (0 ≤ q ∧ q ≤ 3) = 0 by omega))).symm
          refine q_V2 dX8_combine_47 ml_8_64 md_X8_refuse (m_refH (by omega) (gor_R (gor_R (gor_R (mT_R M) mMp_R) mMp_R) mMp_R) (by (first | (unfold zR; omega) | (unfold zLR; omega) | omega | (simp only [zR, qup] at *; omega) | (simp [zR, qup]; omega) | (simp [zR, qup]; done))) hgc) rfl rfl rfl (by first | decide | omega) (Nat.le_of_ble_eq_true rfl) (Nat.le_of_ble_eq_true rfl) (qk_e ?_)
          refine q_if_eq (tgt := 55) dX8_combine_50 rfl (by exact zb_R _) (fun h50 => ?_) (fun h50 => ?_)
          ·
            have hg := zbz h50
            have hg0 := gor_00.1 hg
            have hg1 := gor_00.1 hg0.1
            have hg2 := gor_00.1 hg1.1
            have hgk := gG_0 hM hg2.1
            have hgo := mMp_0 hM hg2.2
            have hgw := mMp_0 hM hg1.2
            have hkd := gKind_0.1 hg0.2
            have he : cE (cW (kaW (qup M 37 0 0)) (kaW (qup M 37 0 0) 37 0) L q k o 42) (fun i => mgF q (scl M k i) (scl M o i)) L := fun i i0 i1 => by rw [cW_42 ⟨i0, i1⟩, hNs, hNs]
            have hG : ∀ j, 0 ≤ j → j < p4 L → 0 ≤ cW (kaW (qup M 37 0 0)) (kaW (qup M 37 0 0) 37 0) L q k o 42 j ∧ cW (kaW (qup M 37 0 0)) (kaW (qup M 37 0 0) 37 0) L q k o 42 j < 256 := fun i i0 i1 => by rw [he i i0 i1]; exact mgF_in (scl_b hM (by omega) (by omega)) (scl_b hM (by omega) (by omega))
            rw [hg]
            refine q_aload_n dX8_combine_55 rfl ?_
            refine q_V0 dX8_combine_56 ml_8_390 md_X8_keepsAll (m_keepsAll (by rw [qup_k _ _ _ (by decide)]; exact hM.2.2.2.2.2.2.1)) rfl rfl rfl (by first | decide | omega) (Nat.le_of_ble_eq_true rfl) (Nat.le_of_ble_eq_true rfl) (qk_v ?_)
            refine q_aload_n dX8_combine_59 rfl ?_
            refine q_iload_n dX8_combine_60 rfl ?_
            refine q_iload_n dX8_combine_61 rfl ?_
            refine q_iload_n dX8_combine_62 rfl ?_
            refine q_V3 dX8_combine_63 ml_8_357 md_X8_combines (m_combN hN hNL (by omega) (by omega) (by omega)) rfl rfl rfl (by first | decide | omega) (Nat.le_of_ble_eq_true rfl) (Nat.le_of_ble_eq_true rfl) (qk_v ?_)
            refine q_aload_n dX8_combine_66 rfl ?_
            refine q_iload dX8_combine_67 rfl ?_
            refine q_V1 dX8_combine_69 ml_8_393 md_X8_puts (m_puts (L := L) cW_9 hL4 (by omega)) rfl rfl rfl (by first | decide | omega) (Nat.le_of_ble_eq_true rfl) (Nat.le_of_ble_eq_true rfl) (qk_v ?_)
            refine q_aload_n dX8_combine_72 rfl ?_
            refine q_iconst dX8_combine_73 ?_
            refine q_aload_n dX8_combine_74 rfl ?_
            refine q_V0 dX8_combine_75 ml_8_225 md_X8_bits (m_bits (L := L) (by rw [putW_37]; exact cW_9) hL4) rfl rfl rfl (by first | decide | omega) (Nat.le_of_ble_eq_true rfl) (Nat.le_of_ble_eq_true rfl) (qk_e ?_)
            refine q_iconst dX8_combine_78 ?_
            refine q_isub dX8_combine_79 ?_
            refine q_V2 dX8_combine_80 ml_8_305 md_X8_onesIn (m_onesIn (Int.le_refl 0) (by omega) (fun p p0 p1 => by rw [putW_42]; exact hG _ (by omega) (by omega)) (by omega)) rfl rfl rfl (by first | decide | omega) (Nat.le_of_ble_eq_true rfl) (Nat.le_of_ble_eq_true rfl) (qk_e ?_)
            rw [show 8 * p4 (L : Int) - 1 - 0 + 1 = 8 * p4 (L : Int) by omega, putW_42]
            refine q_ireturn dX8_combine_83 ?_
            exact mpx_k hg ⟨zsum_bit_e he (Int.le_refl 0) (by omega), MS_put (MS_cN _ L q k o) he⟩
          ·
            refine q_iconst dX8_combine_53 ?_
            refine q_ireturn dX8_combine_54 ?_
            exact mpx_g (zbn h50)
set_option maxHeartbeats 1500000 in
theorem o_mirror (hM : MI M) (hL : M 37 2 = (L : Int)) (hk : zR k) : qCt mX8_mirror 0 8 [.ref 37, .int (zI k)] M (mpx (gG M k) (fun z M' => z = tsz (mkF (miS (scl M k) (8 * p4 L)) 0 (8 * p4 L)) L 0 ∧ MS (putF (kaW (qup M 37 0 0)) k L (mkF (miS (scl M k) (8 * p4 L)) 0 (8 * p4 L))) M') M) := by
  have hL4 : L ≤ 4 := by have := hM.2.1; omega
  have hpL := p4_in (L : Int)
  have hN := MI_ka (MI_g hM 0)
  have hNL : kaW (qup M 37 0 0) 37 2 = (L : Int) := by rw [kaW_37 (by decide), qup_k _ _ _ (by decide)]; exact hL
  have hNs : scl (kaW (qup M 37 0 0)) k = scl M k := by rw [kaW_scl, scl_g]
  refine q_intro (own := 8) (L := [some (.ref 37), some (.int (zI k)), none, none, none]) md_X8_mirror rfl rfl rfl (Nat.le_of_ble_eq_true rfl) (fun X => ?_)
  refine q_aload_n dX8_mirror_0 rfl ?_
  refine q_iload_n dX8_mirror_1 rfl ?_
  refine q_V1 dX8_mirror_2 ml_8_292 md_X8_noMap (m_noMap hM.1 hM.2.2.2.1 hk) rfl rfl rfl (by first | decide | omega) (Nat.le_of_ble_eq_true rfl) (Nat.le_of_ble_eq_true rfl) (qk_e ?_)
  refine q_if_eq (tgt := 10) dX8_mirror_5 rfl (by exact zb_R _) (fun h5 => ?_) (fun h5 => ?_)
  ·
    have hg : gG M k = 0 := zbz h5
    have hgk := gG_0 hM hg
    rw [show gor (mT M) (mMp M k) = 0 from hg]
    refine q_aload_n dX8_mirror_10 rfl ?_
    refine q_V0 dX8_mirror_11 ml_8_390 md_X8_keepsAll (m_keepsAll (by rw [qup_k _ _ _ (by decide)]; exact hM.2.2.2.2.2.2.1)) rfl rfl rfl (by first | decide | omega) (Nat.le_of_ble_eq_true rfl) (Nat.le_of_ble_eq_true rfl) (qk_v ?_)
    refine q_aload_n dX8_mirror_14 rfl ?_
    refine q_iload_n dX8_mirror_15 rfl ?_
    refine q_V1 dX8_mirror_16 ml_8_117 md_X8_fetches (m_fetchN hN hNL (by omega)) rfl rfl rfl (by first | decide | omega) (Nat.le_of_ble_eq_true rfl) (Nat.le_of_ble_eq_true rfl) (qk_v ?_)
    refine q_iconst dX8_mirror_19 ?_
    refine q_istore_n dX8_mirror_20 (Nat.le_of_ble_eq_true rfl) rfl ?_
    refine q_aload_n dX8_mirror_21 rfl ?_
    refine q_V0 dX8_mirror_22 ml_8_225 md_X8_bits (m_bits (L := L) fW_9 hL4) rfl rfl rfl (by first | decide | omega) (Nat.le_of_ble_eq_true rfl) (Nat.le_of_ble_eq_true rfl) (qk_e ?_)
    refine q_iconst dX8_mirror_25 ?_
    refine q_isub dX8_mirror_26 ?_
    refine q_istore_n dX8_mirror_27 (Nat.le_of_ble_eq_true rfl) rfl ?_
    have he : cE (fW (kaW (qup M 37 0 0)) (kaW (qup M 37 0 0) 37 0) L k 42) (scl M k) L := fun i i0 i1 => by rw [fW_42 ⟨i0, i1⟩, hNs]
    have hMS := MS_fN (kaW (qup M 37 0 0)) L k
    have w9 : fW (kaW (qup M 37 0 0)) (kaW (qup M 37 0 0) 37 0) L k 37 9 = (L : Int) := fW_9
    have hWb : ∀ k', 0 ≤ k' → k' < p4 L → 0 ≤ fW (kaW (qup M 37 0 0)) (kaW (qup M 37 0 0) 37 0) L k 42 k' ∧ fW (kaW (qup M 37 0 0)) (kaW (qup M 37 0 0) 37 0) L k 42 k' < 256 := fun j j0 j1 => fW_b hN (by omega) ⟨j0, j1⟩
    generalize fW (kaW (qup M 37 0 0)) (kaW (qup M 37 0 0) 37 0) L k = W at he hMS w9 hWb
    refine q_wk [some (.ref 37), some (.int (zI k)), some (.int (zI 0)), some (.int (zI (8 * p4 (L : Int) - 1))), none] (by simp only [wkB]; (repeat (first | exact rfl | exact trivial | refine ⟨rfl, ?_⟩))) ?_
    refine q_lp (α := Int × (Int → Int)) (fun x => (8 * p4 (L : Int) - x.1).toNat) (fun x => (0 ≤ x.1 ∧ 2 * x.1 ≤ 8 * p4 (L : Int)) ∧ (∀ k, 0 ≤ k → k < p4 L → 0 ≤ x.2 k ∧ x.2 k < 256) ∧ ∀ q, 0 ≤ q → q < 8 * p4 L → bitP x.2 q = if q < x.1 ∨ 8 * p4 (L : Int) - 1 - x.1 < q then bitP (W 42) (8 * p4 (L : Int) - 1 - q) else bitP (W 42) q) (fun x => [some (.ref 37), some (.int (zI k)), some (.int (zI x.1)), some (.int (zI (8 * p4 (L : Int) - 1 - x.1))), none]) (fun x => rowF W x.2) (0, W 42) (by dsimp only; rw [Int.sub_zero]) (rowF_id W).symm ⟨⟨by dsimp only; omega, by dsimp only; omega⟩, hWb, fun q q0 q1 => by dsimp only; rw [if_neg (by omega)]⟩ (fun x hx ih => ?_)
    obtain ⟨n, G⟩ := x
    obtain ⟨hn, hG, hB⟩ := hx
    dsimp only at hn hG hB ih ⊢
    refine q_iload_n dX8_mirror_28 rfl ?_
    refine q_iload_n dX8_mirror_29 rfl ?_
    refine q_icmp_ge (tgt := 66) dX8_mirror_30 rfl (by (first | (unfold zR; omega) | (unfold zLR; omega) | omega | (simp only [zR, qup] at *; omega) | (simp [zR, qup]; omega) | (simp [zR, qup]; done))) (by (first | (unfold zR; omega) | (unfold zLR; omega) | omega | (simp only [zR, qup] at *; omega) | (simp [zR, qup]; omega) | (simp [zR, qup]; done))) (fun h30 => ?_) (fun h30 => ?_)
    rotate_left
    ·
      refine q_aload_n dX8_mirror_33 rfl ?_
      refine q_iload_n dX8_mirror_34 rfl ?_
      refine q_V1 dX8_mirror_35 ml_8_234 md_X8_bitOf (m_bitOf ⟨by omega, by omega⟩ (hG _ (by omega) (by omega))) rfl rfl rfl (by first | decide | omega) (Nat.le_of_ble_eq_true rfl) (Nat.le_of_ble_eq_true rfl) (qk_e ?_)
      refine q_istore dX8_mirror_38 (Nat.le_of_ble_eq_true rfl) rfl ?_
      refine q_aload_n dX8_mirror_40 rfl ?_
      refine q_iload_n dX8_mirror_41 rfl ?_
      refine q_aload_n dX8_mirror_42 rfl ?_
      refine q_iload_n dX8_mirror_43 rfl ?_
      refine q_V1 dX8_mirror_44 ml_8_234 md_X8_bitOf (m_bitOf ⟨by omega, by omega⟩ (hG _ (by omega) (by omega))) rfl rfl rfl (by first | decide | omega) (Nat.le_of_ble_eq_true rfl) (Nat.le_of_ble_eq_true rfl) (qk_e ?_)
      rw [show rowF W G 42 = G from rfl]
      have h01 := bitP_01 G n
      have h02 := bitP_01 G (8 * p4 (L : Int) - 1 - n)
      refine q_V2 dX8_mirror_47 ml_8_237 md_X8_laysBit (m_laysBit ⟨by omega, by omega⟩ (hG _ (by omega) (by omega)) h02) rfl rfl rfl (by first | decide | omega) (Nat.le_of_ble_eq_true rfl) (Nat.le_of_ble_eq_true rfl) (qk_v ?_)
      rw [rowF_r, show rowF W G 42 = G from rfl]
      refine q_aload_n dX8_mirror_50 rfl ?_
      refine q_iload_n dX8_mirror_51 rfl ?_
      refine q_iload dX8_mirror_52 rfl ?_
      refine q_V2 dX8_mirror_54 ml_8_237 md_X8_laysBit (m_laysBit ⟨by omega, by omega⟩ (stb_in h02 (hG _ (by omega) (by omega))) h01) rfl rfl rfl (by first | decide | omega) (Nat.le_of_ble_eq_true rfl) (Nat.le_of_ble_eq_true rfl) (qk_v ?_)
      refine q_iinc dX8_mirror_57 rfl (Nat.le_of_ble_eq_true rfl) rfl ?_
      refine q_iinc dX8_mirror_60 rfl (Nat.le_of_ble_eq_true rfl) rfl ?_
      refine q_goto (tgt := 28) dX8_mirror_63 rfl ?_
      rw [rowF_r]
      refine q_wk _ ?_ (ih (n + 1, stb (stb G n (bitP G (8 * p4 (L : Int) - 1 - n))) (8 * p4 (L : Int) - 1 - n) (bitP G n)) _ _ ⟨⟨by dsimp only; omega, by dsimp only; omega⟩, fun k k0 k1 => stb_in h01 (stb_in h02 (hG k k0 k1)), fun q q0 q1 => ?_⟩ (by dsimp only; omega) rfl rfl)
      · rw [show 8 * p4 (L : Int) - 1 - n + -1 = 8 * p4 (L : Int) - 1 - (n + 1) by omega]
        simp only [wkB]
        (repeat (first | exact rfl | exact trivial | refine ⟨rfl, ?_⟩))
      · dsimp only
        rw [stb_bit (by omega) q0 h01, stb_bit (by omega) q0 h02]
        by_cases e : q = 8 * p4 (L : Int) - 1 - n
        · rw [if_pos e, if_pos (by omega), hB n (by omega) (by omega), if_neg (by omega), show 8 * p4 (L : Int) - 1 - q = n by omega]
        · rw [if_neg e]
          by_cases e2 : q = n
          · rw [if_pos e2, if_pos (by omega), hB _ (by omega) (by omega), if_neg (by omega), e2]
          · rw [if_neg e2, hB q q0 q1]
            by_cases u : q < n ∨ 8 * p4 (L : Int) - 1 - n < q
            · rw [if_pos u, if_pos (by omega)]
            · rw [if_neg u, if_neg (by omega)]
    have hS := miS_01 (scl M k) (8 * p4 (L : Int))
    have hE : cE G (mkF (miS (scl M k) (8 * p4 (L : Int))) 0 (8 * p4 (L : Int))) L := bit_cE hG (fun k k0 k1 => mkF_in hS) (fun q q0 q1 => by
      rw [hB q q0 q1, mk_bit hS ⟨q0, q1⟩, ← miS_e he ⟨q0, q1⟩]
      by_cases u : q < n ∨ 8 * p4 (L : Int) - 1 - n < q
      · rw [if_pos u]; rfl
      · rw [if_neg u]; unfold miS; rw [show 8 * p4 (L : Int) - 1 - q = q by omega])
    refine q_aload_n dX8_mirror_66 rfl ?_
    refine q_iload_n dX8_mirror_67 rfl ?_
    refine q_V1 dX8_mirror_68 ml_8_393 md_X8_puts (m_puts (L := L) (by rw [rowF_o _ _ (by decide)]; exact w9) hL4 (by omega)) rfl rfl rfl (by first | decide | omega) (Nat.le_of_ble_eq_true rfl) (Nat.le_of_ble_eq_true rfl) (qk_v ?_)
    refine q_aload_n dX8_mirror_71 rfl ?_
    refine q_V0 dX8_mirror_72 ml_8_121 md_X8_laysTree (m_laysTreeQ hL4 (by rw [putW_37, rowF_o _ _ (by decide)]; exact w9) (fun k k0 k1 => by rw [putW_42]; exact hG k k0 k1)) rfl rfl rfl (by first | decide | omega) (Nat.le_of_ble_eq_true rfl) (Nat.le_of_ble_eq_true rfl) (qk_h (fun N72 hq72 => ?_))
    obtain ⟨T2, K2, F2, S2, rfl, hm2⟩ := hq72
    refine q_aload_n dX8_mirror_75 rfl ?_
    refine q_geti (j := 12) dX8_mirror_76 fl_8_101 rfl rfl rfl ?_
    rw [mtw_12, putW_42, show rowF W G 42 = G from rfl]
    refine q_ireturn dX8_mirror_79 ?_
    exact mpx_k hg ⟨tsz_eL hL4 hE, MS_tr (MS_put (MS_tr hMS (rowF_MS _ _)) hE) (mtw_MS _ _ _ _ _ _)⟩
  ·
    refine q_iconst dX8_mirror_8 ?_
    refine q_ireturn dX8_mirror_9 ?_
    exact mpx_g (zbn h5)
end ML


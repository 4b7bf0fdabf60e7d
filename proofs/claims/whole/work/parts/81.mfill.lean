/-! The model: ranges filled, maps shifted; the block most like one. -/
theorem fill_sum (c : Int → Int) {b : Int} (hb : b = 0 ∨ b = 1) (f : Int) : ∀ n : Nat, zsum (fun p => zb (bitP c p ≠ b)) f n = if b = 1 then (n : Int) - zsum (bitP c) f n else zsum (bitP c) f n
  | 0 => by
    show (0 : Int) = if b = 1 then ((0 : Nat) : Int) - 0 else 0
    by_cases e : b = 1
    · rw [if_pos e]; rfl
    · rw [if_neg e]
  | n + 1 => by
    show zsum (fun p => zb (bitP c p ≠ b)) f n + zb (bitP c (f + n) ≠ b) = if b = 1 then ((n + 1 : Nat) : Int) - (zsum (bitP c) f n + bitP c (f + n)) else zsum (bitP c) f n + bitP c (f + n)
    rw [fill_sum c hb f n]
    have h := bitP_01 c (f + n)
    by_cases e : b = 1
    · rw [if_pos e, if_pos e]
      by_cases g : bitP c (f + n) = b
      · rw [zb_f (fun w => w g)]; omega
      · rw [zb_t g]; omega
    · rw [if_neg e, if_neg e]
      by_cases g : bitP c (f + n) = b
      · rw [zb_f (fun w => w g)]; omega
      · rw [zb_t g]; omega
theorem bitP_in {c : Int → Int} {L : Nat} (hL : L ≤ 4) {q : Int} (h : 0 ≤ q ∧ q < 8 * p4 L) (hb : ∀ k, 0 ≤ k → k < p4 L → 0 ≤ c k ∧ c k < 256) : 0 ≤ c (q / 8) ∧ c (q / 8) < 256 := hb _ (by omega) (by omega)
theorem zsum_bit_in (c : Int → Int) (f : Int) (n : Nat) : 0 ≤ zsum (bitP c) f n ∧ zsum (bitP c) f n ≤ n := by
  have h := zsum_in (f := bitP c) (a := f) (B := 1) (n := n) (fun i _ _ => by have := bitP_01 c i; omega)
  omega
section MY
variable {M N : qM} {L l : Nat} {c T K F S : Int → Int} {k o x y a b v p q f t n g i : Int}
set_option maxHeartbeats 1000000 in
theorem m_fillsHere (hL : L ≤ 4) (hf : 0 ≤ f ∧ f ≤ t ∧ t < 8 * p4 L) (hb : b = 0 ∨ b = 1) (hcb : ∀ k, 0 ≤ k → k < p4 L → 0 ≤ M 42 k ∧ M 42 k < 256) : qCt mX8_fillsHere 0 1 [.ref 37, .int (zI f), .int (zI t), .int (zI b)] M (qpg (fun z M' => z = (if b = 1 then t - f + 1 - zsum (bitP (M 42)) f (t - f + 1).toNat else zsum (bitP (M 42)) f (t - f + 1).toNat) ∧ ∃ G, M' = rowF M G ∧ (∀ k, 0 ≤ k → k < p4 L → 0 ≤ G k ∧ G k < 256) ∧ cE G (covF (M 42) f t b) L)) := by
  have hpL := p4_in (L : Int)
  refine q_intro (own := 8) (L := [some (.ref 37), some (.int (zI f)), some (.int (zI t)), some (.int (zI b)), none, none]) md_X8_fillsHere rfl rfl rfl (Nat.le_of_ble_eq_true rfl) (fun X => ?_)
  refine q_iconst dX8_fillsHere_0 ?_
  refine q_istore dX8_fillsHere_1 (Nat.le_of_ble_eq_true rfl) rfl ?_
  refine q_iload_n dX8_fillsHere_3 rfl ?_
  refine q_istore dX8_fillsHere_4 (Nat.le_of_ble_eq_true rfl) rfl ?_
  refine q_lp (α := Nat × (Int → Int)) (fun x => (t - f + 1).toNat - x.1) (fun x => (x.1 : Int) ≤ t - f + 1 ∧ (∀ k, 0 ≤ k → k < p4 L → 0 ≤ x.2 k ∧ x.2 k < 256) ∧ ∀ q, 0 ≤ q → q < 8 * p4 L → bitP x.2 q = if f ≤ q ∧ q < f + x.1 then b else bitP (M 42) q) (fun x => [some (.ref 37), some (.int (zI f)), some (.int (zI t)), some (.int (zI b)), some (.int (zI (zsum (fun p => zb (bitP (M 42) p ≠ b)) f x.1))), some (.int (zI (f + (x.1 : Int))))]) (fun x => rowF M x.2) (0, M 42) (by dsimp only; rw [show f + ((0 : Nat) : Int) = f by omega]; rfl) (rowF_id M).symm ⟨by dsimp only; omega, hcb, fun q q0 q1 => by dsimp only; rw [if_neg (by omega)]⟩ (fun x hx ih => ?_)
  obtain ⟨n, G⟩ := x
  obtain ⟨hn, hG, hB⟩ := hx
  dsimp only at hn hG hB ih ⊢
  refine q_iload dX8_fillsHere_6 rfl ?_
  refine q_iload_n dX8_fillsHere_8 rfl ?_
  refine q_icmp_gt (tgt := 48) dX8_fillsHere_9 rfl (by (first | (unfold zR; omega) | (unfold zLR; omega) | omega | (simp only [zR, qup] at *; omega) | (simp [zR, qup]; omega) | (simp [zR, qup]; done))) (by (first | (unfold zR; omega) | (unfold zLR; omega) | omega | (simp only [zR, qup] at *; omega) | (simp [zR, qup]; omega) | (simp [zR, qup]; done))) (fun h9 => ?_) (fun h9 => ?_)
  rotate_left
  ·
    refine q_iload dX8_fillsHere_12 rfl ?_
    refine q_aload_n dX8_fillsHere_14 rfl ?_
    refine q_iload dX8_fillsHere_15 rfl ?_
    refine q_V1 dX8_fillsHere_17 ml_8_234 md_X8_bitOf (m_bitOf ⟨by omega, by omega⟩ (hG _ (by omega) (by omega))) rfl rfl rfl (by first | decide | omega) (Nat.le_of_ble_eq_true rfl) (Nat.le_of_ble_eq_true rfl) (qk_e ?_)
    refine q_iload_n dX8_fillsHere_20 rfl ?_
    have e0 : bitP (rowF M G 42) (f + (n : Int)) = bitP (M 42) (f + (n : Int)) := by
      rw [show rowF M G 42 = G from rfl, hB _ (by omega) (by omega), if_neg (by omega)]
    rw [e0]
    have h01 := bitP_01 (M 42) (f + (n : Int))
    refine q_icmp_eq (tgt := 28) dX8_fillsHere_21 rfl (by (first | (unfold zR; omega) | (unfold zLR; omega) | omega | (simp only [zR, qup] at *; omega) | (simp [zR, qup]; omega) | (simp [zR, qup]; done))) (by (first | (unfold zR; omega) | (unfold zLR; omega) | omega | (simp only [zR, qup] at *; omega) | (simp [zR, qup]; omega) | (simp [zR, qup]; done))) (fun h21 => ?_) (fun h21 => ?_)
    ·
      refine q_iconst dX8_fillsHere_28 ?_
      refine q_S1 dX8_fillsHere_29 ml_8_314 md_X8_flag (m_flag (by omega)) rfl (by first | decide | omega) (Nat.le_of_ble_eq_true rfl) (Nat.le_of_ble_eq_true rfl) (qk_e ?_)
      refine q_iadd dX8_fillsHere_32 ?_
      refine q_istore dX8_fillsHere_33 (Nat.le_of_ble_eq_true rfl) rfl ?_
      refine q_aload_n dX8_fillsHere_35 rfl ?_
      refine q_iload dX8_fillsHere_36 rfl ?_
      refine q_iload_n dX8_fillsHere_38 rfl ?_
      refine q_V2 dX8_fillsHere_39 ml_8_237 md_X8_laysBit (m_laysBit ⟨by omega, by omega⟩ (hG _ (by omega) (by omega)) hb) rfl rfl rfl (by first | decide | omega) (Nat.le_of_ble_eq_true rfl) (Nat.le_of_ble_eq_true rfl) (qk_v ?_)
      rw [rowF_r, show rowF M G 42 = G from rfl]
      have hG2 : ∀ k, 0 ≤ k → k < p4 L → 0 ≤ stb G (f + (n : Int)) b k ∧ stb G (f + (n : Int)) b k < 256 := fun k k0 k1 => stb_in hb (hG k k0 k1)
      have hB2 : ∀ q, 0 ≤ q → q < 8 * p4 L → bitP (stb G (f + (n : Int)) b) q = if f ≤ q ∧ q < f + ((n + 1 : Nat) : Int) then b else bitP (M 42) q := fun q q0 q1 => by
        rw [stb_bit (by omega) q0 hb]
        by_cases e : q = f + (n : Int)
        · rw [if_pos e, if_pos ⟨by omega, by omega⟩]
        · rw [if_neg e, hB q q0 q1]
          by_cases w : f ≤ q ∧ q < f + (n : Int)
          · rw [if_pos w, if_pos ⟨w.1, by omega⟩]
          · rw [if_neg w, if_neg (by omega)]
      refine q_iinc dX8_fillsHere_42 rfl (Nat.le_of_ble_eq_true rfl) rfl ?_
      refine q_goto (tgt := 6) dX8_fillsHere_45 rfl ?_
      refine ih (n + 1, stb G (f + (n : Int)) b) _ _ ⟨by dsimp only; omega, hG2, hB2⟩ (by dsimp only; omega) ?_ rfl
      dsimp only
      rw [zsum, zb_f (fun w => w h21), show f + ((n + 1 : Nat) : Int) = f + (n : Int) + 1 by omega]
      rfl
    ·
      refine q_iconst dX8_fillsHere_24 ?_
      refine q_goto (tgt := 29) dX8_fillsHere_25 rfl ?_
      refine q_S1 dX8_fillsHere_29 ml_8_314 md_X8_flag (m_flag (by omega)) rfl (by first | decide | omega) (Nat.le_of_ble_eq_true rfl) (Nat.le_of_ble_eq_true rfl) (qk_e ?_)
      refine q_iadd dX8_fillsHere_32 ?_
      refine q_istore dX8_fillsHere_33 (Nat.le_of_ble_eq_true rfl) rfl ?_
      refine q_aload_n dX8_fillsHere_35 rfl ?_
      refine q_iload dX8_fillsHere_36 rfl ?_
      refine q_iload_n dX8_fillsHere_38 rfl ?_
      refine q_V2 dX8_fillsHere_39 ml_8_237 md_X8_laysBit (m_laysBit ⟨by omega, by omega⟩ (hG _ (by omega) (by omega)) hb) rfl rfl rfl (by first | decide | omega) (Nat.le_of_ble_eq_true rfl) (Nat.le_of_ble_eq_true rfl) (qk_v ?_)
      rw [rowF_r, show rowF M G 42 = G from rfl]
      have hG2 : ∀ k, 0 ≤ k → k < p4 L → 0 ≤ stb G (f + (n : Int)) b k ∧ stb G (f + (n : Int)) b k < 256 := fun k k0 k1 => stb_in hb (hG k k0 k1)
      have hB2 : ∀ q, 0 ≤ q → q < 8 * p4 L → bitP (stb G (f + (n : Int)) b) q = if f ≤ q ∧ q < f + ((n + 1 : Nat) : Int) then b else bitP (M 42) q := fun q q0 q1 => by
        rw [stb_bit (by omega) q0 hb]
        by_cases e : q = f + (n : Int)
        · rw [if_pos e, if_pos ⟨by omega, by omega⟩]
        · rw [if_neg e, hB q q0 q1]
          by_cases w : f ≤ q ∧ q < f + (n : Int)
          · rw [if_pos w, if_pos ⟨w.1, by omega⟩]
          · rw [if_neg w, if_neg (by omega)]
      refine q_iinc dX8_fillsHere_42 rfl (Nat.le_of_ble_eq_true rfl) rfl ?_
      refine q_goto (tgt := 6) dX8_fillsHere_45 rfl ?_
      refine ih (n + 1, stb G (f + (n : Int)) b) _ _ ⟨by dsimp only; omega, hG2, hB2⟩ (by dsimp only; omega) ?_ rfl
      dsimp only
      rw [zsum, zb_t h21, show f + ((n + 1 : Nat) : Int) = f + (n : Int) + 1 by omega]
      rfl
  refine q_iload dX8_fillsHere_48 rfl ?_
  refine q_ireturn dX8_fillsHere_50 ?_
  refine ⟨_, rfl, ?_, G, rfl, hG, ?_⟩
  · rw [show (t - f + 1).toNat = n by omega, fill_sum _ hb, show t - f + 1 = (n : Int) by omega]
  · refine bit_cE hG (fun k k0 k1 => covF_in hb) (fun q q0 q1 => ?_)
    rw [hB q q0 q1, cov_bit hb]
    by_cases w : f ≤ q ∧ q ≤ t
    · rw [if_pos w, if_pos ⟨w.1, by omega⟩]
    · rw [if_neg w, if_neg (by omega)]
theorem cov_e {c c' : Int → Int} {L : Nat} (h : cE c c' L) (f t b : Int) : cE (covF c f t b) (covF c' f t b) L := fun k k0 k1 => by unfold covF; rw [h k k0 k1]
theorem cE_tr {c c' c'' : Int → Int} {L : Nat} (h : cE c c' L) (h' : cE c' c'' L) : cE c c'' L := fun k k0 k1 => (h k k0 k1).trans (h' k k0 k1)
theorem tsz_eL {c c' : Int → Int} {L : Nat} (hL : L ≤ 4) (h : cE c c' L) : tsz c L 0 = tsz c' L 0 := tsz_e hL h (Nat.le_refl L) ⟨Int.le_refl 0, by rw [show (L : Int) - L = 0 by omega]; decide⟩
theorem zsum_bit_e {c c' : Int → Int} {L : Nat} (h : cE c c' L) {f : Int} {n : Nat} (h0 : 0 ≤ f) (h1 : f + n ≤ 8 * p4 L) : zsum (bitP c) f n = zsum (bitP c') f n := zsum_congr (fun q q0 q1 => cE_bit h (by omega) (by omega))
theorem m_laysTreeQ (hL : L ≤ 4) (h9 : N 37 9 = (L : Int)) (hcb : ∀ k, 0 ≤ k → k < p4 L → 0 ≤ N 42 k ∧ N 42 k < 256) : qCt mX8_laysTree 0 (L + 3) [.ref 37] N (qph (fun M' => ∃ T K F S, M' = mtw N T K F S (tsz (N 42) L 0) ∧ Mt (N 42) L T K F S)) := m_laysTree hL h9 (fun k => rfl) hcb
set_option maxHeartbeats 1000000 in
theorem o_bytesFilled (hM : MI M) (hL : M 37 2 = (L : Int)) (hk : zR k) (hf : zR f) (ht : zR t) (hb : zR b) : qCt mX8_bytesFilled 0 9 [.ref 37, .int (zI k), .int (zI f), .int (zI t), .int (zI b)] M (mpx (gor (gor (gG M k) (mRg M f t)) (gBit b)) (fun z M' => z = tsz (covF (scl M k) f t b) L 0 ∧ MS (qup M 37 0 0) M') M) := by
  have hL4 : L ≤ 4 := by have := hM.2.1; omega
  have z01 := zb_01 (b = 0 ∨ b = 1)
  refine q_intro (own := 8) (L := [some (.ref 37), some (.int (zI k)), some (.int (zI f)), some (.int (zI t)), some (.int (zI b)), none]) md_X8_bytesFilled rfl rfl rfl (Nat.le_of_ble_eq_true rfl) (fun X => ?_)
  refine q_aload_n dX8_bytesFilled_0 rfl ?_
  refine q_iload_n dX8_bytesFilled_1 rfl ?_
  refine q_iload_n dX8_bytesFilled_2 rfl ?_
  refine q_iload_n dX8_bytesFilled_3 rfl ?_
  refine q_V3 dX8_bytesFilled_4 ml_8_302 md_X8_noRange (m_noRange hM hk hf ht) rfl rfl rfl (by first | decide | omega) (Nat.le_of_ble_eq_true rfl) (Nat.le_of_ble_eq_true rfl) (qk_e ?_)
  refine q_if_ne (tgt := 31) dX8_bytesFilled_7 rfl (by exact zb_R _) (fun h7 => ?_) (fun h7 => ?_)
  ·
    refine q_iconst dX8_bytesFilled_31 ?_
    refine q_ireturn dX8_bytesFilled_32 ?_
    exact mpx_g2 (zbn h7)
  ·
    refine q_aload_n dX8_bytesFilled_10 rfl ?_
    refine q_iload dX8_bytesFilled_11 rfl ?_
    refine q_S1 dX8_bytesFilled_13 ml_8_308 md_X8_isBit (m_isBit hb) rfl (by first | decide | omega) (Nat.le_of_ble_eq_true rfl) (Nat.le_of_ble_eq_true rfl) (qk_e ?_)
    refine q_if_ne (tgt := 23) dX8_bytesFilled_16 rfl (by (first | (unfold zR; omega) | (unfold zLR; omega) | omega | (simp only [zR, qup] at *; omega) | (simp [zR, qup]; omega) | (simp [zR, qup]; done))) (fun h16 => ?_) (fun h16 => ?_)
    ·
      refine q_iconst dX8_bytesFilled_23 ?_
      refine q_iconst dX8_bytesFilled_24 ?_
      have hgb : (if (0 : Int) = 1 then (3 : Int) else 0) = gBit b := (if_pos (zb_1.1 (by omega))).symm
      refine q_V2 dX8_bytesFilled_25 ml_8_64 md_X8_refuse (m_refH (by omega) (gor_R (gor_R (mT_R M) mMp_R) (ite_R (by unfold zR; omega) (by unfold zR; omega))) (by (first | (unfold zR; omega) | (unfold zLR; omega) | omega | (simp only [zR, qup] at *; omega) | (simp [zR, qup]; omega) | (simp [zR, qup]; done))) hgb) rfl rfl rfl (by first | decide | omega) (Nat.le_of_ble_eq_true rfl) (Nat.le_of_ble_eq_true rfl) (qk_e ?_)
      refine q_if_eq (tgt := 33) dX8_bytesFilled_28 rfl (by exact zb_R _) (fun h28 => ?_) (fun h28 => ?_)
      ·
        have hg := zbz h28
        have hg1 := gor_00.1 hg
        have hg2 := gor_00.1 hg1.1
        have hgk := gG_0 hM hg2.1
        have hps := mRg_0 hL hg2.2
        have hbb := gBit_0.1 hg1.2
        rw [hg]
        refine q_aload_n dX8_bytesFilled_33 rfl ?_
        refine q_iload_n dX8_bytesFilled_34 rfl ?_
        refine q_V1 dX8_bytesFilled_35 ml_8_117 md_X8_fetches (m_fetchG hM hL (by omega)) rfl rfl rfl (by first | decide | omega) (Nat.le_of_ble_eq_true rfl) (Nat.le_of_ble_eq_true rfl) (qk_v ?_)
        refine q_aload_n dX8_bytesFilled_38 rfl ?_
        refine q_iload_n dX8_bytesFilled_39 rfl ?_
        refine q_iload_n dX8_bytesFilled_40 rfl ?_
        refine q_iload dX8_bytesFilled_41 rfl ?_
        refine q_V3 dX8_bytesFilled_43 ml_8_366 md_X8_fillsHere (m_fillsHere hL4 hps hbb (fun j j0 j1 => fW_b hM (by omega) ⟨j0, j1⟩)) rfl rfl rfl (by first | decide | omega) (Nat.le_of_ble_eq_true rfl) (Nat.le_of_ble_eq_true rfl) (qk_g (fun z43 N43 hq43 => ?_))
        obtain ⟨hz, Gq, rfl, hG, hE⟩ := hq43
        refine q_istore dX8_bytesFilled_46 (Nat.le_of_ble_eq_true rfl) rfl ?_
        refine q_aload_n dX8_bytesFilled_48 rfl ?_
        refine q_V0 dX8_bytesFilled_49 ml_8_121 md_X8_laysTree (m_laysTreeQ hL4 (by rw [rowF_o _ _ (by decide)]; exact fW_9) hG) rfl rfl rfl (by first | decide | omega) (Nat.le_of_ble_eq_true rfl) (Nat.le_of_ble_eq_true rfl) (qk_h (fun N49 hq49 => ?_))
        obtain ⟨Tq, Kq, Fq, Sq, rfl, hm⟩ := hq49
        refine q_aload_n dX8_bytesFilled_52 rfl ?_
        refine q_geti (j := 12) dX8_bytesFilled_53 fl_8_101 rfl rfl rfl ?_
        refine q_ireturn dX8_bytesFilled_56 ?_
        exact mpx_k hg ⟨by rw [mtw_12]; exact tsz_eL hL4 (cE_tr hE (cov_e (fun i i0 i1 => fW_42 ⟨i0, i1⟩) f t b)), MS_tr (MS_tr (fW_MS M 0 L k) (rowF_MS _ _)) (mtw_MS _ _ _ _ _ _)⟩
      ·
        refine q_iconst dX8_bytesFilled_31 ?_
        refine q_ireturn dX8_bytesFilled_32 ?_
        exact mpx_g (zbn h28)
    ·
      refine q_iconst dX8_bytesFilled_19 ?_
      refine q_goto (tgt := 24) dX8_bytesFilled_20 rfl ?_
      refine q_iconst dX8_bytesFilled_24 ?_
      have hgb : (if (1 : Int) = 1 then (3 : Int) else 0) = gBit b := (if_neg (zb_0.1 (by omega))).symm
      refine q_V2 dX8_bytesFilled_25 ml_8_64 md_X8_refuse (m_refH (by omega) (gor_R (gor_R (mT_R M) mMp_R) (ite_R (by unfold zR; omega) (by unfold zR; omega))) (by (first | (unfold zR; omega) | (unfold zLR; omega) | omega | (simp only [zR, qup] at *; omega) | (simp [zR, qup]; omega) | (simp [zR, qup]; done))) hgb) rfl rfl rfl (by first | decide | omega) (Nat.le_of_ble_eq_true rfl) (Nat.le_of_ble_eq_true rfl) (qk_e ?_)
      refine q_if_eq (tgt := 33) dX8_bytesFilled_28 rfl (by exact zb_R _) (fun h28 => ?_) (fun h28 => ?_)
      ·
        have hg := zbz h28
        have hg1 := gor_00.1 hg
        have hg2 := gor_00.1 hg1.1
        have hgk := gG_0 hM hg2.1
        have hps := mRg_0 hL hg2.2
        have hbb := gBit_0.1 hg1.2
        rw [hg]
        refine q_aload_n dX8_bytesFilled_33 rfl ?_
        refine q_iload_n dX8_bytesFilled_34 rfl ?_
        refine q_V1 dX8_bytesFilled_35 ml_8_117 md_X8_fetches (m_fetchG hM hL (by omega)) rfl rfl rfl (by first | decide | omega) (Nat.le_of_ble_eq_true rfl) (Nat.le_of_ble_eq_true rfl) (qk_v ?_)
        refine q_aload_n dX8_bytesFilled_38 rfl ?_
        refine q_iload_n dX8_bytesFilled_39 rfl ?_
        refine q_iload_n dX8_bytesFilled_40 rfl ?_
        refine q_iload dX8_bytesFilled_41 rfl ?_
        refine q_V3 dX8_bytesFilled_43 ml_8_366 md_X8_fillsHere (m_fillsHere hL4 hps hbb (fun j j0 j1 => fW_b hM (by omega) ⟨j0, j1⟩)) rfl rfl rfl (by first | decide | omega) (Nat.le_of_ble_eq_true rfl) (Nat.le_of_ble_eq_true rfl) (qk_g (fun z43 N43 hq43 => ?_))
        obtain ⟨hz, Gq, rfl, hG, hE⟩ := hq43
        refine q_istore dX8_bytesFilled_46 (Nat.le_of_ble_eq_true rfl) rfl ?_
        refine q_aload_n dX8_bytesFilled_48 rfl ?_
        refine q_V0 dX8_bytesFilled_49 ml_8_121 md_X8_laysTree (m_laysTreeQ hL4 (by rw [rowF_o _ _ (by decide)]; exact fW_9) hG) rfl rfl rfl (by first | decide | omega) (Nat.le_of_ble_eq_true rfl) (Nat.le_of_ble_eq_true rfl) (qk_h (fun N49 hq49 => ?_))
        obtain ⟨Tq, Kq, Fq, Sq, rfl, hm⟩ := hq49
        refine q_aload_n dX8_bytesFilled_52 rfl ?_
        refine q_geti (j := 12) dX8_bytesFilled_53 fl_8_101 rfl rfl rfl ?_
        refine q_ireturn dX8_bytesFilled_56 ?_
        exact mpx_k hg ⟨by rw [mtw_12]; exact tsz_eL hL4 (cE_tr hE (cov_e (fun i i0 i1 => fW_42 ⟨i0, i1⟩) f t b)), MS_tr (MS_tr (fW_MS M 0 L k) (rowF_MS _ _)) (mtw_MS _ _ _ _ _ _)⟩
      ·
        refine q_iconst dX8_bytesFilled_31 ?_
        refine q_ireturn dX8_bytesFilled_32 ?_
        exact mpx_g (zbn h28)
theorem shS_way {c : Int → Int} {b n q : Int} (h : 0 ≤ q ∧ q < n) : shS c (max (-n) (min n b)) n q = shS c b n q := by
  unfold shS
  by_cases g : 0 ≤ q - b ∧ q - b < n
  · rw [show max (-n) (min n b) = b by omega]
  · rw [if_neg g, if_neg (by omega)]
theorem shS_e {c c' : Int → Int} {L : Nat} (h : cE c c' L) (b q : Int) : shS c b (8 * p4 L) q = shS c' b (8 * p4 L) q := by
  unfold shS
  by_cases g : 0 ≤ q - b ∧ q - b < 8 * p4 L
  · rw [if_pos g, if_pos g]; exact cE_bit h g.1 g.2
  · rw [if_neg g, if_neg g]
set_option maxHeartbeats 1000000 in
theorem m_shiftsHere (hL : L ≤ 4) (h9 : M 37 9 = (L : Int)) (hb : zR b) (hcb : ∀ k, 0 ≤ k → k < p4 L → 0 ≤ M 42 k ∧ M 42 k < 256) : qCt mX8_shiftsHere 0 3 [.ref 37, .int (zI b)] M (qpg (fun z M' => z = zsum (bitP (M 42)) 0 (8 * p4 L).toNat - zsum (bitP (mkF (shS (M 42) b (8 * p4 L)) 0 (8 * p4 L))) 0 (8 * p4 L).toNat ∧ ∃ G, M' = rowF M G ∧ (∀ k, 0 ≤ k → k < p4 L → 0 ≤ G k ∧ G k < 256) ∧ cE G (mkF (shS (M 42) b (8 * p4 L)) 0 (8 * p4 L)) L)) := by
  have hpL := p4_in (L : Int)
  have hS := shS_01 (M 42) b (8 * p4 L)
  have hb1 := hb.1
  have hb2 := hb.2
  refine q_intro (own := 8) (L := [some (.ref 37), some (.int (zI b)), none, none, none, none, none]) md_X8_shiftsHere rfl rfl rfl (Nat.le_of_ble_eq_true rfl) (fun X => ?_)
  refine q_aload_n dX8_shiftsHere_0 rfl ?_
  refine q_iconst dX8_shiftsHere_1 ?_
  refine q_aload_n dX8_shiftsHere_2 rfl ?_
  refine q_V0 dX8_shiftsHere_3 ml_8_225 md_X8_bits (m_bits (L := L) h9 hL) rfl rfl rfl (by first | decide | omega) (Nat.le_of_ble_eq_true rfl) (Nat.le_of_ble_eq_true rfl) (qk_e ?_)
  refine q_iconst dX8_shiftsHere_6 ?_
  refine q_isub dX8_shiftsHere_7 ?_
  refine q_V2 dX8_shiftsHere_8 ml_8_305 md_X8_onesIn (m_onesIn (Int.le_refl 0) (by omega) (fun p p0 p1 => hcb _ (by omega) (by omega)) (by omega)) rfl rfl rfl (by first | decide | omega) (Nat.le_of_ble_eq_true rfl) (Nat.le_of_ble_eq_true rfl) (qk_e ?_)
  rw [show 8 * p4 (L : Int) - 1 - 0 + 1 = 8 * p4 (L : Int) by omega]
  refine q_istore_n dX8_shiftsHere_11 (Nat.le_of_ble_eq_true rfl) rfl ?_
  refine q_aload_n dX8_shiftsHere_12 rfl ?_
  refine q_V0 dX8_shiftsHere_13 ml_8_225 md_X8_bits (m_bits (L := L) h9 hL) rfl rfl rfl (by first | decide | omega) (Nat.le_of_ble_eq_true rfl) (Nat.le_of_ble_eq_true rfl) (qk_e ?_)
  refine q_istore_n dX8_shiftsHere_16 (Nat.le_of_ble_eq_true rfl) rfl ?_
  refine q_iload_n dX8_shiftsHere_17 rfl ?_
  refine q_ineg dX8_shiftsHere_18 ?_
  refine q_iload_n dX8_shiftsHere_19 rfl ?_
  refine q_iload_n dX8_shiftsHere_20 rfl ?_
  refine q_mmin dX8_shiftsHere_21 ml_8_363 (by (first | (unfold zR; omega) | (unfold zLR; omega) | omega | (simp only [zR, qup] at *; omega) | (simp [zR, qup]; omega) | (simp [zR, qup]; done))) (by (first | (unfold zR; omega) | (unfold zLR; omega) | omega | (simp only [zR, qup] at *; omega) | (simp [zR, qup]; omega) | (simp [zR, qup]; done))) (Nat.le_of_ble_eq_true rfl) ?_
  refine q_mmax dX8_shiftsHere_24 ml_8_318 (by (first | (unfold zR; omega) | (unfold zLR; omega) | omega | (simp only [zR, qup] at *; omega) | (simp [zR, qup]; omega) | (simp [zR, qup]; done))) (by (first | (unfold zR; omega) | (unfold zLR; omega) | omega | (simp only [zR, qup] at *; omega) | (simp [zR, qup]; omega) | (simp [zR, qup]; done))) (Nat.le_of_ble_eq_true rfl) ?_
  refine q_istore dX8_shiftsHere_27 (Nat.le_of_ble_eq_true rfl) rfl ?_
  refine q_iconst dX8_shiftsHere_29 ?_
  refine q_istore dX8_shiftsHere_30 (Nat.le_of_ble_eq_true rfl) rfl ?_
  generalize hwy : max (-(8 * p4 (L : Int))) (min (8 * p4 (L : Int)) b) = way
  have hwb : -(8 * p4 (L : Int)) ≤ way ∧ way ≤ 8 * p4 (L : Int) := by omega
  refine q_lp (α := Int × (Int → Int)) (fun x => (8 * p4 (L : Int) - x.1).toNat) (fun x => (0 ≤ x.1 ∧ x.1 ≤ 8 * p4 (L : Int)) ∧ (∀ k, 0 ≤ k → k < p4 L → 0 ≤ x.2 k ∧ x.2 k < 256) ∧ ∀ q, 0 ≤ q → q < 8 * p4 L → bitP x.2 q = if (0 < way ∧ 8 * p4 (L : Int) - x.1 ≤ q) ∨ (way ≤ 0 ∧ q < x.1) then shS (M 42) b (8 * p4 L) q else bitP (M 42) q) (fun x => [some (.ref 37), some (.int (zI b)), some (.int (zI (zsum (bitP (M 42)) 0 (8 * p4 (L : Int)).toNat))), some (.int (zI (8 * p4 (L : Int)))), some (.int (zI way)), some (.int (zI x.1)), none]) (fun x => rowF M x.2) (0, M 42) rfl (rowF_id M).symm ⟨⟨by dsimp only; omega, by dsimp only; omega⟩, hcb, fun q q0 q1 => by dsimp only; rw [if_neg (by omega)]⟩ (fun x hx ih => ?_)
  obtain ⟨n, G⟩ := x
  obtain ⟨hn, hG, hB⟩ := hx
  dsimp only at hn hG hB ih ⊢
  have hst : ∀ tz bz : Int, (if 0 < way then tz = 8 * p4 (L : Int) - 1 - n else tz = n) → n < 8 * p4 (L : Int) → bz = shS (M 42) b (8 * p4 L) tz → (∀ k, 0 ≤ k → k < p4 L → 0 ≤ stb G tz bz k ∧ stb G tz bz k < 256) ∧ ∀ q, 0 ≤ q → q < 8 * p4 L → bitP (stb G tz bz) q = if (0 < way ∧ 8 * p4 (L : Int) - (n + 1) ≤ q) ∨ (way ≤ 0 ∧ q < n + 1) then shS (M 42) b (8 * p4 L) q else bitP (M 42) q := fun tz bz h1 h2 h3 => by
    subst h3
    have htz : 0 ≤ tz ∧ tz < 8 * p4 (L : Int) := by
      by_cases e : 0 < way
      · rw [if_pos e] at h1; omega
      · rw [if_neg e] at h1; omega
    refine ⟨fun k k0 k1 => stb_in (hS tz) (hG k k0 k1), fun q q0 q1 => ?_⟩
    rw [stb_bit htz.1 q0 (hS tz)]
    by_cases e : q = tz
    · subst e
      rw [if_pos rfl, if_pos]
      by_cases e : 0 < way
      · rw [if_pos e] at h1; omega
      · rw [if_neg e] at h1; omega
    · rw [if_neg e, hB q q0 q1]
      have hiff : ((0 < way ∧ 8 * p4 (L : Int) - n ≤ q) ∨ (way ≤ 0 ∧ q < n)) ↔ ((0 < way ∧ 8 * p4 (L : Int) - (n + 1) ≤ q) ∨ (way ≤ 0 ∧ q < n + 1)) := by
        by_cases e2 : 0 < way
        · rw [if_pos e2] at h1; omega
        · rw [if_neg e2] at h1; omega
      by_cases w : (0 < way ∧ 8 * p4 (L : Int) - n ≤ q) ∨ (way ≤ 0 ∧ q < n)
      · rw [if_pos w, if_pos (hiff.1 w)]
      · rw [if_neg w, if_neg (fun e => w (hiff.2 e))]
  have hrd : ∀ tz : Int, (if 0 < way then tz = 8 * p4 (L : Int) - 1 - n else tz = n) → n < 8 * p4 (L : Int) → (0 ≤ tz - way ∧ tz - way ≤ 8 * p4 (L : Int) - 1) → bitP G (tz - way) = shS (M 42) b (8 * p4 L) tz := fun tz h1 h2 h3 => by
    have htz : 0 ≤ tz ∧ tz < 8 * p4 (L : Int) := by
      by_cases e : 0 < way
      · rw [if_pos e] at h1; omega
      · rw [if_neg e] at h1; omega
    rw [hB _ (by omega) (by omega), if_neg (by
      by_cases e : 0 < way
      · rw [if_pos e] at h1; omega
      · rw [if_neg e] at h1; omega), ← shS_way htz, hwy]
    unfold shS
    rw [if_pos (by omega)]
  have hrd0 : ∀ tz : Int, (if 0 < way then tz = 8 * p4 (L : Int) - 1 - n else tz = n) → n < 8 * p4 (L : Int) → ¬ (0 ≤ tz - way ∧ tz - way ≤ 8 * p4 (L : Int) - 1) → 0 = shS (M 42) b (8 * p4 L) tz := fun tz h1 h2 h3 => by
    have htz : 0 ≤ tz ∧ tz < 8 * p4 (L : Int) := by
      by_cases e : 0 < way
      · rw [if_pos e] at h1; omega
      · rw [if_neg e] at h1; omega
    rw [← shS_way htz, hwy]
    unfold shS
    rw [if_neg (by omega)]
  refine q_iload dX8_shiftsHere_32 rfl ?_
  refine q_iload_n dX8_shiftsHere_34 rfl ?_
  refine q_icmp_ge (tgt := 96) dX8_shiftsHere_35 rfl (by (first | (unfold zR; omega) | (unfold zLR; omega) | omega | (simp only [zR, qup] at *; omega) | (simp [zR, qup]; omega) | (simp [zR, qup]; done))) (by (first | (unfold zR; omega) | (unfold zLR; omega) | omega | (simp only [zR, qup] at *; omega) | (simp [zR, qup]; omega) | (simp [zR, qup]; done))) (fun h35 => ?_) (fun h35 => ?_)
  rotate_left
  ·
    refine q_iload dX8_shiftsHere_38 rfl ?_
    refine q_if_le (tgt := 52) dX8_shiftsHere_40 rfl (by (first | (unfold zR; omega) | (unfold zLR; omega) | omega | (simp only [zR, qup] at *; omega) | (simp [zR, qup]; omega) | (simp [zR, qup]; done))) (fun h40 => ?_) (fun h40 => ?_)
    ·
      refine q_iload dX8_shiftsHere_52 rfl ?_
      obtain ⟨tz, htz⟩ : ∃ tz, tz = n := ⟨_, rfl⟩
      have hcs : if 0 < way then tz = 8 * p4 (L : Int) - 1 - n else tz = n := by rw [if_neg (by omega)]; exact htz
      have htb : 0 ≤ tz ∧ tz < 8 * p4 (L : Int) := by omega
      rw [← htz]
      have z01 := zb_01 (0 ≤ tz - way ∧ tz - way ≤ 8 * p4 (L : Int) - 1)
      refine q_istore dX8_shiftsHere_54 (Nat.le_of_ble_eq_true rfl) rfl ?_
      refine q_aload_n dX8_shiftsHere_56 rfl ?_
      refine q_iload dX8_shiftsHere_57 rfl ?_
      refine q_iload dX8_shiftsHere_59 rfl ?_
      refine q_iload dX8_shiftsHere_61 rfl ?_
      refine q_isub dX8_shiftsHere_63 ?_
      refine q_iconst dX8_shiftsHere_64 ?_
      refine q_iload_n dX8_shiftsHere_65 rfl ?_
      refine q_iconst dX8_shiftsHere_66 ?_
      refine q_isub dX8_shiftsHere_67 ?_
      refine q_S3 dX8_shiftsHere_68 ml_8_71 md_X8_in (m_in (v := tz - way) (a := 0) (b := 8 * p4 (L : Int) - 1) (by (first | (unfold zR; omega) | (unfold zLR; omega) | omega | (simp only [zR, qup] at *; omega) | (simp [zR, qup]; omega) | (simp [zR, qup]; done))) (by (first | (unfold zR; omega) | (unfold zLR; omega) | omega | (simp only [zR, qup] at *; omega) | (simp [zR, qup]; omega) | (simp [zR, qup]; done))) (by (first | (unfold zR; omega) | (unfold zLR; omega) | omega | (simp only [zR, qup] at *; omega) | (simp [zR, qup]; omega) | (simp [zR, qup]; done)))) rfl (by first | decide | omega) (Nat.le_of_ble_eq_true rfl) (Nat.le_of_ble_eq_true rfl) (qk_e ?_)
      refine q_if_eq (tgt := 86) dX8_shiftsHere_71 rfl (by (first | (unfold zR; omega) | (unfold zLR; omega) | omega | (simp only [zR, qup] at *; omega) | (simp [zR, qup]; omega) | (simp [zR, qup]; done))) (fun h71 => ?_) (fun h71 => ?_)
      ·
        refine q_iconst dX8_shiftsHere_86 ?_
        refine q_V2 dX8_shiftsHere_87 ml_8_237 md_X8_laysBit (m_laysBit ⟨htb.1, by omega⟩ (hG _ (by omega) (by omega)) (by first | exact hS tz | exact Or.inl rfl)) rfl rfl rfl (by first | decide | omega) (Nat.le_of_ble_eq_true rfl) (Nat.le_of_ble_eq_true rfl) (qk_v ?_)
        rw [rowF_r, show rowF M G 42 = G from rfl]
        refine q_iinc dX8_shiftsHere_90 rfl (Nat.le_of_ble_eq_true rfl) rfl ?_
        refine q_goto (tgt := 32) dX8_shiftsHere_93 rfl ?_
        have hst2 := hst tz 0 hcs h35 (hrd0 tz hcs h35 (zb_0.1 h71))
        refine q_wk _ ?_ (ih (n + 1, stb G tz 0) _ _ ⟨⟨by dsimp only; omega, by dsimp only; omega⟩, hst2.1, hst2.2⟩ (by dsimp only; omega) rfl rfl)
        simp only [wkB]
        (repeat (first | exact rfl | exact trivial | refine ⟨rfl, ?_⟩))
        exact ⟨by rw [htz]; rfl, trivial⟩
      ·
        refine q_aload_n dX8_shiftsHere_74 rfl ?_
        refine q_iload dX8_shiftsHere_75 rfl ?_
        refine q_iload dX8_shiftsHere_77 rfl ?_
        refine q_isub dX8_shiftsHere_79 ?_
        have hin := zb_1.1 (show zb (0 ≤ tz - way ∧ tz - way ≤ 8 * p4 (L : Int) - 1) = 1 by omega)
        refine q_V1 dX8_shiftsHere_80 ml_8_234 md_X8_bitOf (m_bitOf ⟨hin.1, by omega⟩ (hG _ (by omega) (by omega))) rfl rfl rfl (by first | decide | omega) (Nat.le_of_ble_eq_true rfl) (Nat.le_of_ble_eq_true rfl) (qk_e ?_)
        rw [show rowF M G 42 = G from rfl, hrd tz hcs h35 hin]
        refine q_goto (tgt := 87) dX8_shiftsHere_83 rfl ?_
        refine q_V2 dX8_shiftsHere_87 ml_8_237 md_X8_laysBit (m_laysBit ⟨htb.1, by omega⟩ (hG _ (by omega) (by omega)) (by first | exact hS tz | exact Or.inl rfl)) rfl rfl rfl (by first | decide | omega) (Nat.le_of_ble_eq_true rfl) (Nat.le_of_ble_eq_true rfl) (qk_v ?_)
        rw [rowF_r, show rowF M G 42 = G from rfl]
        refine q_iinc dX8_shiftsHere_90 rfl (Nat.le_of_ble_eq_true rfl) rfl ?_
        refine q_goto (tgt := 32) dX8_shiftsHere_93 rfl ?_
        have hst2 := hst tz _ hcs h35 rfl
        refine q_wk _ ?_ (ih (n + 1, stb G tz (shS (M 42) b (8 * p4 L) tz)) _ _ ⟨⟨by dsimp only; omega, by dsimp only; omega⟩, hst2.1, hst2.2⟩ (by dsimp only; omega) rfl rfl)
        simp only [wkB]
        (repeat (first | exact rfl | exact trivial | refine ⟨rfl, ?_⟩))
        exact ⟨by rw [htz]; rfl, trivial⟩
    ·
      refine q_iload_n dX8_shiftsHere_43 rfl ?_
      refine q_iconst dX8_shiftsHere_44 ?_
      refine q_isub dX8_shiftsHere_45 ?_
      refine q_iload dX8_shiftsHere_46 rfl ?_
      refine q_isub dX8_shiftsHere_48 ?_
      refine q_goto (tgt := 54) dX8_shiftsHere_49 rfl ?_
      obtain ⟨tz, htz⟩ : ∃ tz, tz = 8 * p4 (L : Int) - 1 - n := ⟨_, rfl⟩
      have hcs : if 0 < way then tz = 8 * p4 (L : Int) - 1 - n else tz = n := by rw [if_pos (by omega)]; exact htz
      have htb : 0 ≤ tz ∧ tz < 8 * p4 (L : Int) := by omega
      rw [← htz]
      have z01 := zb_01 (0 ≤ tz - way ∧ tz - way ≤ 8 * p4 (L : Int) - 1)
      refine q_istore dX8_shiftsHere_54 (Nat.le_of_ble_eq_true rfl) rfl ?_
      refine q_aload_n dX8_shiftsHere_56 rfl ?_
      refine q_iload dX8_shiftsHere_57 rfl ?_
      refine q_iload dX8_shiftsHere_59 rfl ?_
      refine q_iload dX8_shiftsHere_61 rfl ?_
      refine q_isub dX8_shiftsHere_63 ?_
      refine q_iconst dX8_shiftsHere_64 ?_
      refine q_iload_n dX8_shiftsHere_65 rfl ?_
      refine q_iconst dX8_shiftsHere_66 ?_
      refine q_isub dX8_shiftsHere_67 ?_
      refine q_S3 dX8_shiftsHere_68 ml_8_71 md_X8_in (m_in (v := tz - way) (a := 0) (b := 8 * p4 (L : Int) - 1) (by (first | (unfold zR; omega) | (unfold zLR; omega) | omega | (simp only [zR, qup] at *; omega) | (simp [zR, qup]; omega) | (simp [zR, qup]; done))) (by (first | (unfold zR; omega) | (unfold zLR; omega) | omega | (simp only [zR, qup] at *; omega) | (simp [zR, qup]; omega) | (simp [zR, qup]; done))) (by (first | (unfold zR; omega) | (unfold zLR; omega) | omega | (simp only [zR, qup] at *; omega) | (simp [zR, qup]; omega) | (simp [zR, qup]; done)))) rfl (by first | decide | omega) (Nat.le_of_ble_eq_true rfl) (Nat.le_of_ble_eq_true rfl) (qk_e ?_)
      refine q_if_eq (tgt := 86) dX8_shiftsHere_71 rfl (by (first | (unfold zR; omega) | (unfold zLR; omega) | omega | (simp only [zR, qup] at *; omega) | (simp [zR, qup]; omega) | (simp [zR, qup]; done))) (fun h71 => ?_) (fun h71 => ?_)
      ·
        refine q_iconst dX8_shiftsHere_86 ?_
        refine q_V2 dX8_shiftsHere_87 ml_8_237 md_X8_laysBit (m_laysBit ⟨htb.1, by omega⟩ (hG _ (by omega) (by omega)) (by first | exact hS tz | exact Or.inl rfl)) rfl rfl rfl (by first | decide | omega) (Nat.le_of_ble_eq_true rfl) (Nat.le_of_ble_eq_true rfl) (qk_v ?_)
        rw [rowF_r, show rowF M G 42 = G from rfl]
        refine q_iinc dX8_shiftsHere_90 rfl (Nat.le_of_ble_eq_true rfl) rfl ?_
        refine q_goto (tgt := 32) dX8_shiftsHere_93 rfl ?_
        have hst2 := hst tz 0 hcs h35 (hrd0 tz hcs h35 (zb_0.1 h71))
        refine q_wk _ ?_ (ih (n + 1, stb G tz 0) _ _ ⟨⟨by dsimp only; omega, by dsimp only; omega⟩, hst2.1, hst2.2⟩ (by dsimp only; omega) rfl rfl)
        simp only [wkB]
        (repeat (first | exact rfl | exact trivial | refine ⟨rfl, ?_⟩))
      ·
        refine q_aload_n dX8_shiftsHere_74 rfl ?_
        refine q_iload dX8_shiftsHere_75 rfl ?_
        refine q_iload dX8_shiftsHere_77 rfl ?_
        refine q_isub dX8_shiftsHere_79 ?_
        have hin := zb_1.1 (show zb (0 ≤ tz - way ∧ tz - way ≤ 8 * p4 (L : Int) - 1) = 1 by omega)
        refine q_V1 dX8_shiftsHere_80 ml_8_234 md_X8_bitOf (m_bitOf ⟨hin.1, by omega⟩ (hG _ (by omega) (by omega))) rfl rfl rfl (by first | decide | omega) (Nat.le_of_ble_eq_true rfl) (Nat.le_of_ble_eq_true rfl) (qk_e ?_)
        rw [show rowF M G 42 = G from rfl, hrd tz hcs h35 hin]
        refine q_goto (tgt := 87) dX8_shiftsHere_83 rfl ?_
        refine q_V2 dX8_shiftsHere_87 ml_8_237 md_X8_laysBit (m_laysBit ⟨htb.1, by omega⟩ (hG _ (by omega) (by omega)) (by first | exact hS tz | exact Or.inl rfl)) rfl rfl rfl (by first | decide | omega) (Nat.le_of_ble_eq_true rfl) (Nat.le_of_ble_eq_true rfl) (qk_v ?_)
        rw [rowF_r, show rowF M G 42 = G from rfl]
        refine q_iinc dX8_shiftsHere_90 rfl (Nat.le_of_ble_eq_true rfl) rfl ?_
        refine q_goto (tgt := 32) dX8_shiftsHere_93 rfl ?_
        have hst2 := hst tz _ hcs h35 rfl
        refine q_wk _ ?_ (ih (n + 1, stb G tz (shS (M 42) b (8 * p4 L) tz)) _ _ ⟨⟨by dsimp only; omega, by dsimp only; omega⟩, hst2.1, hst2.2⟩ (by dsimp only; omega) rfl rfl)
        simp only [wkB]
        (repeat (first | exact rfl | exact trivial | refine ⟨rfl, ?_⟩))
  refine q_iload_n dX8_shiftsHere_96 rfl ?_
  refine q_aload_n dX8_shiftsHere_97 rfl ?_
  refine q_iconst dX8_shiftsHere_98 ?_
  refine q_iload_n dX8_shiftsHere_99 rfl ?_
  refine q_iconst dX8_shiftsHere_100 ?_
  refine q_isub dX8_shiftsHere_101 ?_
  refine q_V2 dX8_shiftsHere_102 ml_8_305 md_X8_onesIn (m_onesIn (Int.le_refl 0) (by omega) (fun p p0 p1 => hG _ (by omega) (by omega)) (by omega)) rfl rfl rfl (by first | decide | omega) (Nat.le_of_ble_eq_true rfl) (Nat.le_of_ble_eq_true rfl) (qk_e ?_)
  refine q_isub dX8_shiftsHere_105 ?_
  refine q_ireturn dX8_shiftsHere_106 ?_
  have hE : cE G (mkF (shS (M 42) b (8 * p4 L)) 0 (8 * p4 L)) L := bit_cE hG (fun k k0 k1 => mkF_in hS) (fun q q0 q1 => by
    rw [hB q q0 q1, mk_bit hS ⟨q0, q1⟩, if_pos (by omega)])
  refine ⟨_, rfl, ?_, G, rfl, hG, hE⟩
  rw [show rowF M G 42 = G from rfl, show 8 * p4 (L : Int) - 1 - 0 + 1 = 8 * p4 (L : Int) by omega, zsum_bit_e hE (Int.le_refl 0) (by omega)]
set_option maxHeartbeats 1000000 in
theorem o_bytesShifted (hM : MI M) (hL : M 37 2 = (L : Int)) (hk : zR k) (hb : zR b) : qCt mX8_bytesShifted 0 9 [.ref 37, .int (zI k), .int (zI b)] M (mpx (gG M k) (fun z M' => z = tsz (mkF (shS (scl M k) b (8 * p4 L)) 0 (8 * p4 L)) L 0 ∧ MS (qup M 37 0 0) M') M) := by
  have hL4 : L ≤ 4 := by have := hM.2.1; omega
  refine q_intro (own := 8) (L := [some (.ref 37), some (.int (zI k)), some (.int (zI b)), none]) md_X8_bytesShifted rfl rfl rfl (Nat.le_of_ble_eq_true rfl) (fun X => ?_)
  refine q_aload_n dX8_bytesShifted_0 rfl ?_
  refine q_iload_n dX8_bytesShifted_1 rfl ?_
  refine q_V1 dX8_bytesShifted_2 ml_8_292 md_X8_noMap (m_noMap hM.1 hM.2.2.2.1 hk) rfl rfl rfl (by first | decide | omega) (Nat.le_of_ble_eq_true rfl) (Nat.le_of_ble_eq_true rfl) (qk_e ?_)
  refine q_if_eq (tgt := 10) dX8_bytesShifted_5 rfl (by exact zb_R _) (fun h5 => ?_) (fun h5 => ?_)
  ·
    have hg : gG M k = 0 := zbz h5
    have hgk := gG_0 hM hg
    rw [show gor (mT M) (mMp M k) = 0 from hg]
    have he : cE (fW M 0 L k 42) (scl M k) L := fun i i0 i1 => fW_42 ⟨i0, i1⟩
    refine q_aload_n dX8_bytesShifted_10 rfl ?_
    refine q_iload_n dX8_bytesShifted_11 rfl ?_
    refine q_V1 dX8_bytesShifted_12 ml_8_117 md_X8_fetches (m_fetchG hM hL (by omega)) rfl rfl rfl (by first | decide | omega) (Nat.le_of_ble_eq_true rfl) (Nat.le_of_ble_eq_true rfl) (qk_v ?_)
    refine q_aload_n dX8_bytesShifted_15 rfl ?_
    refine q_iload_n dX8_bytesShifted_16 rfl ?_
    refine q_V1 dX8_bytesShifted_17 ml_8_369 md_X8_shiftsHere (m_shiftsHere hL4 fW_9 hb (fun j j0 j1 => fW_b hM (by omega) ⟨j0, j1⟩)) rfl rfl rfl (by first | decide | omega) (Nat.le_of_ble_eq_true rfl) (Nat.le_of_ble_eq_true rfl) (qk_g (fun z17 N17 hq17 => ?_))
    obtain ⟨hz, Gq, rfl, hG, hE⟩ := hq17
    rw [show shS (fW M 0 L k 42) b (8 * p4 L) = shS (scl M k) b (8 * p4 L) by funext q; exact shS_e he b q] at hE
    refine q_istore_n dX8_bytesShifted_20 (Nat.le_of_ble_eq_true rfl) rfl ?_
    refine q_aload_n dX8_bytesShifted_21 rfl ?_
    refine q_V0 dX8_bytesShifted_22 ml_8_121 md_X8_laysTree (m_laysTreeQ hL4 (by rw [rowF_o _ _ (by decide)]; exact fW_9) hG) rfl rfl rfl (by first | decide | omega) (Nat.le_of_ble_eq_true rfl) (Nat.le_of_ble_eq_true rfl) (qk_h (fun N22 hq22 => ?_))
    obtain ⟨Tq, Kq, Fq, Sq, rfl, hm⟩ := hq22
    refine q_aload_n dX8_bytesShifted_25 rfl ?_
    refine q_geti (j := 12) dX8_bytesShifted_26 fl_8_101 rfl rfl rfl ?_
    refine q_ireturn dX8_bytesShifted_29 ?_
    exact mpx_k hg ⟨by rw [mtw_12]; exact tsz_eL hL4 hE, MS_tr (MS_tr (fW_MS M 0 L k) (rowF_MS _ _)) (mtw_MS _ _ _ _ _ _)⟩
  ·
    refine q_iconst dX8_bytesShifted_8 ?_
    refine q_ireturn dX8_bytesShifted_9 ?_
    exact mpx_g (zbn h5)
end MY


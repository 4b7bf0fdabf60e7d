/-! The model: bits that are laid; what a change would do. -/
theorem stb_bit {c : Int → Int} {p b q : Int} (hp : 0 ≤ p) (hq : 0 ≤ q) (hb : b = 0 ∨ b = 1) : bitP (stb c p b) q = if q = p then b else bitP c q := by
  show zbit (if q / 8 = p / 8 then ofBits (fun i => if i = p % 8 then b else zbit (c (p / 8)) i) else c (q / 8)) (q % 8) = _
  by_cases h : q / 8 = p / 8
  · rw [if_pos h, zbit_ofBits (fun i _ _ => ite_in hb (zbit_01 _ _)) (by omega) (by omega)]
    show (if q % 8 = p % 8 then b else zbit (c (p / 8)) (q % 8)) = _
    by_cases g : q = p
    · rw [if_pos (by omega), if_pos g]
    · rw [if_neg (by omega), if_neg g, ← h]; rfl
  · rw [if_neg h, if_neg (fun e => h (by rw [e]))]; rfl
theorem stb_in {c : Int → Int} {p b k : Int} (hb : b = 0 ∨ b = 1) (h : 0 ≤ c k ∧ c k < 256) : 0 ≤ stb c p b k ∧ stb c p b k < 256 := by
  show 0 ≤ (if k = p / 8 then ofBits (fun i => if i = p % 8 then b else zbit (c (p / 8)) i) else c k) ∧ (if k = p / 8 then ofBits (fun i => if i = p % 8 then b else zbit (c (p / 8)) i) else c k) < 256
  by_cases g : k = p / 8
  · rw [if_pos g]; exact ofBits_in (fun i _ _ => ite_in hb (zbit_01 _ _))
  · rw [if_neg g]; exact h
theorem bit_cE {c c' : Int → Int} {L : Nat} (hb : ∀ k, 0 ≤ k → k < p4 L → 0 ≤ c k ∧ c k < 256) (hb' : ∀ k, 0 ≤ k → k < p4 L → 0 ≤ c' k ∧ c' k < 256) (h : ∀ q, 0 ≤ q → q < 8 * p4 L → bitP c q = bitP c' q) : cE c c' L := fun k k0 k1 => byte_ext (hb k k0 k1) (hb' k k0 k1) (fun j j0 j1 => by
  have e := h (8 * k + j) (by omega) (by omega)
  rw [bitP_at c j0 j1, bitP_at c' j0 j1] at e
  exact e)
theorem cE_bit {c c' : Int → Int} {L : Nat} (h : cE c c' L) {q : Int} (q0 : 0 ≤ q) (q1 : q < 8 * p4 L) : bitP c q = bitP c' q := by
  unfold bitP
  rw [h (q / 8) (by omega) (by omega)]
theorem stb_back {c : Int → Int} {p b : Int} (hp : 0 ≤ p) (hb : b = 0 ∨ b = 1) (hv : 0 ≤ c (p / 8) ∧ c (p / 8) < 256) : stb (stb c p b) p (bitP c p) = c := by
  funext k
  by_cases g : k = p / 8
  · subst g
    have h1 := stb_in (c := stb c p b) (p := p) (k := p / 8) (bitP_01 c p) (stb_in hb hv)
    refine byte_ext h1 hv (fun j j0 j1 => ?_)
    rw [← bitP_at (stb (stb c p b) p (bitP c p)) j0 j1, ← bitP_at c j0 j1, stb_bit hp (by omega) (bitP_01 c p)]
    by_cases e : 8 * (p / 8) + j = p
    · rw [if_pos e, e]
    · rw [if_neg e, stb_bit hp (by omega) hb, if_neg e]
  · unfold stb
    rw [fup_n _ g, fup_n _ g]
theorem flc_stb (c : Int → Int) (p : Int) : stb c p (1 - bitP c p) = flc c p := by
  unfold stb flc flipb bitP
  congr 1
  refine ofBits_congr (fun i i0 i1 => ?_)
  show (if i = p % 8 then 1 - zbit (c (p / 8)) (p % 8) else zbit (c (p / 8)) i) = if i = p % 8 then 1 - zbit (c (p / 8)) i else zbit (c (p / 8)) i
  by_cases e : i = p % 8
  · rw [if_pos e, if_pos e, e]
  · rw [if_neg e, if_neg e]
theorem flc_e {c c' : Int → Int} {L : Nat} (h : cE c c' L) {p : Int} (p0 : 0 ≤ p) (p1 : p < 8 * p4 L) : cE (flc c p) (flc c' p) L := fun k k0 k1 => by
  unfold flc
  by_cases e : k = p / 8
  · subst e; rw [fup_s, fup_s, h (p / 8) k0 k1]
  · rw [fup_n _ e, fup_n _ e]; exact h k k0 k1
theorem cov_bit {c : Int → Int} {f t b q : Int} (hb : b = 0 ∨ b = 1) : bitP (covF c f t b) q = if f ≤ q ∧ q ≤ t then b else bitP c q := by
  unfold bitP covF
  rw [zbit_ofBits (ofB01 hb) (by omega) (by omega)]
  show (if f ≤ 8 * (q / 8) + q % 8 ∧ 8 * (q / 8) + q % 8 ≤ t then b else _) = _
  rw [show 8 * (q / 8) + q % 8 = q by omega]
theorem mk_bit {S : Int → Int} {n q : Int} (hS : ∀ p, S p = 0 ∨ S p = 1) (h : 0 ≤ q ∧ q < n) : bitP (mkF S 0 n) q = S q := by
  unfold bitP
  rw [mkF_bit hS (by omega) (by omega), show 8 * (q / 8) + q % 8 = q by omega, if_pos h]
theorem rowF_r (M : qM) (F G : Int → Int) : rowF (rowF M F) G = rowF M G := by
  funext o k
  unfold rowF
  by_cases h : o = 42
  · rw [if_pos h, if_pos h]
  · rw [if_neg h, if_neg h, if_neg h]
theorem rowF_id (M : qM) : rowF M (M 42) = M := by
  funext o k
  unfold rowF
  by_cases h : o = 42
  · rw [if_pos h, h]
  · rw [if_neg h]
theorem rowF_o (M : qM) (F : Int → Int) {o : Nat} (h : o ≠ 42) : rowF M F o = M o := by
  funext k
  exact if_neg h
theorem rowF_MS (M : qM) (F : Int → Int) : MS M (rowF M F) := ⟨fun o _ h _ _ _ _ _ _ _ => rowF_o M F h, fun k _ => by rw [rowF_o M F (by decide)]⟩
theorem mtw_rowF (M : qM) (F T K G S : Int → Int) (n : Int) (R : Int → Int) : rowF (mtw (rowF M F) T K G S n) R = mtw (rowF M R) T K G S n := by
  funext o k
  unfold rowF mtw
  by_cases h : o = 42
  · subst h; simp
  · simp [h]
section MU
variable {M N : qM} {L l : Nat} {c T K F S : Int → Int} {k o x y a b v p q f t n g i : Int}
set_option maxHeartbeats 2000000 in
theorem m_bytesWithOther (hL : L ≤ 4) (h9 : M 37 9 = (L : Int)) (hp : 0 ≤ p ∧ p < 8 * p4 L) (hcb : ∀ k, 0 ≤ k → k < p4 L → 0 ≤ M 42 k ∧ M 42 k < 256) : qCt mX8_bytesWithOther 0 8 [.ref 37, .int (zI p)] M (qpg (fun z M' => z = tsz (flc (M 42) p) L 0 ∧ ∃ T K F S n, M' = mtw M T K F S n)) := by
  have hpL := p4_in (L : Int)
  have h01 := bitP_01 (M 42) p
  have hv := hcb (p / 8) (by omega) (by omega)
  have hb2 : ∀ k, 0 ≤ k → k < p4 L → 0 ≤ stb (M 42) p (1 - bitP (M 42) p) k ∧ stb (M 42) p (1 - bitP (M 42) p) k < 256 := fun k k0 k1 => stb_in (by omega) (hcb k k0 k1)
  refine q_intro (own := 8) (L := [some (.ref 37), some (.int (zI p))]) md_X8_bytesWithOther rfl rfl rfl (Nat.le_of_ble_eq_true rfl) (fun X => ?_)
  refine q_aload_n dX8_bytesWithOther_0 rfl ?_
  refine q_iload_n dX8_bytesWithOther_1 rfl ?_
  refine q_iconst dX8_bytesWithOther_2 ?_
  refine q_aload_n dX8_bytesWithOther_3 rfl ?_
  refine q_iload_n dX8_bytesWithOther_4 rfl ?_
  refine q_V1 dX8_bytesWithOther_5 ml_8_234 md_X8_bitOf (m_bitOf ⟨hp.1, by omega⟩ hv) rfl rfl rfl (by first | decide | omega) (Nat.le_of_ble_eq_true rfl) (Nat.le_of_ble_eq_true rfl) (qk_e ?_)
  refine q_isub dX8_bytesWithOther_8 ?_
  refine q_V2 dX8_bytesWithOther_9 ml_8_237 md_X8_laysBit (m_laysBit ⟨hp.1, by omega⟩ hv (by omega)) rfl rfl rfl (by first | decide | omega) (Nat.le_of_ble_eq_true rfl) (Nat.le_of_ble_eq_true rfl) (qk_v ?_)
  refine q_aload_n dX8_bytesWithOther_12 rfl ?_
  refine q_V0 dX8_bytesWithOther_13 ml_8_121 md_X8_laysTree (m_laysTree (c := stb (M 42) p (1 - bitP (M 42) p)) (L := L) hL (by rw [rowF_o _ _ (by decide)]; exact h9) (fun k => rfl) hb2) rfl rfl rfl (by first | decide | omega) (Nat.le_of_ble_eq_true rfl) (Nat.le_of_ble_eq_true rfl) (qk_h (fun N13 hq13 => ?_))
  obtain ⟨Tq, Kq, Fq, Sq, rfl, hm⟩ := hq13
  have e42 : mtw (rowF M (stb (M 42) p (1 - bitP (M 42) p))) Tq Kq Fq Sq (tsz (stb (M 42) p (1 - bitP (M 42) p)) L 0) 42 = stb (M 42) p (1 - bitP (M 42) p) := rfl
  have e1 : 1 - bitP (stb (M 42) p (1 - bitP (M 42) p)) p = bitP (M 42) p := by rw [stb_bit hp.1 hp.1 (by omega), if_pos rfl]; omega
  refine q_aload_n dX8_bytesWithOther_16 rfl ?_
  refine q_iload_n dX8_bytesWithOther_17 rfl ?_
  refine q_iconst dX8_bytesWithOther_18 ?_
  refine q_aload_n dX8_bytesWithOther_19 rfl ?_
  refine q_iload_n dX8_bytesWithOther_20 rfl ?_
  refine q_V1 dX8_bytesWithOther_21 ml_8_234 md_X8_bitOf (m_bitOf ⟨hp.1, by omega⟩ (by rw [e42]; exact hb2 (p / 8) (by omega) (by omega))) rfl rfl rfl (by first | decide | omega) (Nat.le_of_ble_eq_true rfl) (Nat.le_of_ble_eq_true rfl) (qk_e ?_)
  refine q_isub dX8_bytesWithOther_24 ?_
  rw [e42, e1]
  refine q_V2 dX8_bytesWithOther_25 ml_8_237 md_X8_laysBit (m_laysBit ⟨hp.1, by omega⟩ (by rw [e42]; exact hb2 (p / 8) (by omega) (by omega)) h01) rfl rfl rfl (by first | decide | omega) (Nat.le_of_ble_eq_true rfl) (Nat.le_of_ble_eq_true rfl) (qk_v ?_)
  rw [e42, stb_back hp.1 (by omega) hv, mtw_rowF, rowF_id]
  refine q_aload_n dX8_bytesWithOther_28 rfl ?_
  refine q_geti (j := 12) dX8_bytesWithOther_29 fl_8_101 rfl rfl rfl ?_
  refine q_ireturn dX8_bytesWithOther_32 ?_
  exact ⟨_, rfl, by rw [mtw_12, flc_stb], Tq, Kq, Fq, Sq, _, rfl⟩
set_option maxHeartbeats 2000000 in
theorem o_bytesIf (hM : MI M) (hL : M 37 2 = (L : Int)) (hk : zR k) (hp : zR p) : qCt mX8_bytesIf 0 9 [.ref 37, .int (zI k), .int (zI p)] M (mpx (gor (gG M k) (mPs M p)) (fun z M' => z = tsz (flc (scl M k) p) L 0 ∧ MS (qup M 37 0 0) M') M) := by
  have hL4 : L ≤ 4 := by have := hM.2.1; omega
  refine q_intro (own := 8) (L := [some (.ref 37), some (.int (zI k)), some (.int (zI p))]) md_X8_bytesIf rfl rfl rfl (Nat.le_of_ble_eq_true rfl) (fun X => ?_)
  refine q_aload_n dX8_bytesIf_0 rfl ?_
  refine q_iload_n dX8_bytesIf_1 rfl ?_
  refine q_iload_n dX8_bytesIf_2 rfl ?_
  refine q_V2 dX8_bytesIf_3 ml_8_298 md_X8_noPosition (m_noPosition hM hk hp) rfl rfl rfl (by first | decide | omega) (Nat.le_of_ble_eq_true rfl) (Nat.le_of_ble_eq_true rfl) (qk_e ?_)
  refine q_if_eq (tgt := 11) dX8_bytesIf_6 rfl (by exact zb_R _) (fun h6 => ?_) (fun h6 => ?_)
  ·
    have hg := zbz h6
    have hg2 := gor_00.1 hg
    have hgk := gG_0 hM hg2.1
    have hps := mPs_0 hL hg2.2
    rw [hg]
    refine q_aload_n dX8_bytesIf_11 rfl ?_
    refine q_iload_n dX8_bytesIf_12 rfl ?_
    refine q_V1 dX8_bytesIf_13 ml_8_117 md_X8_fetches (m_fetchG hM hL (by omega)) rfl rfl rfl (by first | decide | omega) (Nat.le_of_ble_eq_true rfl) (Nat.le_of_ble_eq_true rfl) (qk_v ?_)
    refine q_aload_n dX8_bytesIf_16 rfl ?_
    refine q_iload_n dX8_bytesIf_17 rfl ?_
    refine q_V1 dX8_bytesIf_18 ml_8_360 md_X8_bytesWithOther (m_bytesWithOther hL4 fW_9 hps (fun j j0 j1 => fW_b hM (by omega) ⟨j0, j1⟩)) rfl rfl rfl (by first | decide | omega) (Nat.le_of_ble_eq_true rfl) (Nat.le_of_ble_eq_true rfl) (qk_g (fun z18 N18 hq18 => ?_))
    refine q_ireturn dX8_bytesIf_21 ?_
    obtain ⟨hz, Tq, Kq, Fq, Sq, nq, rfl⟩ := hq18
    exact mpx_k hg ⟨by rw [hz]; exact tsz_e hL4 (flc_e (fun i i0 i1 => fW_42 ⟨i0, i1⟩) hps.1 hps.2) (Nat.le_refl L) ⟨Int.le_refl 0, by rw [show (L : Int) - L = 0 by omega]; decide⟩, MS_tr (fW_MS M 0 L k) (mtw_MS _ _ _ _ _ _)⟩
  ·
    refine q_iconst dX8_bytesIf_9 ?_
    refine q_ireturn dX8_bytesIf_10 ?_
    exact mpx_g (zbn h6)
set_option maxHeartbeats 8000000 in
theorem o_bestFlip (hM : MI M) (hL : M 37 2 = (L : Int)) (hk : zR k) (hf : zR f) (ht : zR t) : qCt mX8_bestFlip 0 9 [.ref 37, .int (zI k), .int (zI f), .int (zI t)] M (mpx (gor (gG M k) (mRg M f t)) (fun z M' => z = bst (fun p => tsz (flc (scl M k) p) L 0) (-1) f (t - f + 1).toNat ∧ MS (qup M 37 0 0) M') M) := by
  have hL4 : L ≤ 4 := by have := hM.2.1; omega
  have ht2 := tmax_in L hL4
  have hpL := p4_in (L : Int)
  refine q_intro (own := 8) (L := [some (.ref 37), some (.int (zI k)), some (.int (zI f)), some (.int (zI t)), none, none, none, none]) md_X8_bestFlip rfl rfl rfl (Nat.le_of_ble_eq_true rfl) (fun X => ?_)
  refine q_aload_n dX8_bestFlip_0 rfl ?_
  refine q_iload_n dX8_bestFlip_1 rfl ?_
  refine q_iload_n dX8_bestFlip_2 rfl ?_
  refine q_iload_n dX8_bestFlip_3 rfl ?_
  refine q_V3 dX8_bestFlip_4 ml_8_302 md_X8_noRange (m_noRange hM hk hf ht) rfl rfl rfl (by first | decide | omega) (Nat.le_of_ble_eq_true rfl) (Nat.le_of_ble_eq_true rfl) (qk_e ?_)
  refine q_if_eq (tgt := 12) dX8_bestFlip_7 rfl (by exact zb_R _) (fun h7 => ?_) (fun h7 => ?_)
  ·
    have hg := zbz h7
    have hg2 := gor_00.1 hg
    have hgk := gG_0 hM hg2.1
    have hps := mRg_0 hL hg2.2
    rw [hg]
    have hfl : ∀ (N : qM) (y : Int), N 42 = fW M 0 L k 42 → N 37 9 = (L : Int) → MS (qup M 37 0 0) N → f ≤ y → y ≤ t → qCt mX8_bytesWithOther 0 8 [.ref 37, .int (zI y)] N (qpg (fun z M' => z = tsz (flc (scl M k) y) L 0 ∧ M' 42 = fW M 0 L k 42 ∧ M' 37 9 = (L : Int) ∧ MS (qup M 37 0 0) M')) := fun N y e1 e2 e3 y0 y1 => qCt_mono (m_bytesWithOther hL4 e2 (p := y) ⟨by omega, by omega⟩ (fun j j0 j1 => by rw [e1]; exact fW_b hM (by omega) ⟨j0, j1⟩)) (fun v M' w => by
        obtain ⟨z, hv, hz, T, K, F, S, n, rfl⟩ := w
        refine ⟨z, hv, ?_, by rw [mtw_42]; exact e1, by rw [mtw_9]; exact e2, MS_tr e3 (mtw_MS _ _ _ _ _ _)⟩
        rw [hz, e1]
        exact tsz_e hL4 (flc_e (fun i i0 i1 => fW_42 ⟨i0, i1⟩) (by omega) (by omega)) (Nat.le_refl L) ⟨Int.le_refl 0, by rw [show (L : Int) - L = 0 by omega]; decide⟩) (fun _ _ w => w)
    refine q_aload_n dX8_bestFlip_12 rfl ?_
    refine q_iload_n dX8_bestFlip_13 rfl ?_
    refine q_V1 dX8_bestFlip_14 ml_8_117 md_X8_fetches (m_fetchG hM hL (by omega)) rfl rfl rfl (by first | decide | omega) (Nat.le_of_ble_eq_true rfl) (Nat.le_of_ble_eq_true rfl) (qk_v ?_)
    refine q_iload_n dX8_bestFlip_17 rfl ?_
    refine q_istore dX8_bestFlip_18 (Nat.le_of_ble_eq_true rfl) rfl ?_
    refine q_aload_n dX8_bestFlip_20 rfl ?_
    refine q_iload_n dX8_bestFlip_21 rfl ?_
    refine q_V1 dX8_bestFlip_22 ml_8_360 md_X8_bytesWithOther (hfl _ f rfl fW_9 (fW_MS M 0 L k) (by omega) (by omega)) rfl rfl rfl (by first | decide | omega) (Nat.le_of_ble_eq_true rfl) (Nat.le_of_ble_eq_true rfl) (qk_g (fun z22 N22 hq22 => ?_))
    refine q_istore dX8_bestFlip_25 (Nat.le_of_ble_eq_true rfl) rfl ?_
    refine q_iload_n dX8_bestFlip_27 rfl ?_
    refine q_iconst dX8_bestFlip_28 ?_
    refine q_iadd dX8_bestFlip_29 ?_
    refine q_istore dX8_bestFlip_30 (Nat.le_of_ble_eq_true rfl) rfl ?_
    obtain ⟨rfl, e1, e2, e3⟩ := hq22
    refine q_lp (α := Nat × qM) (fun x => (t - f + 2).toNat - x.1) (fun x => (1 ≤ x.1 ∧ (x.1 : Int) ≤ t - f + 1) ∧ x.2 42 = fW M 0 L k 42 ∧ x.2 37 9 = (L : Int) ∧ MS (qup M 37 0 0) x.2) (fun x => [some (.ref 37), some (.int (zI k)), some (.int (zI f)), some (.int (zI t)), some (.int (zI (bst (fun p => tsz (flc (scl M k) p) L 0) (-1) f x.1))), some (.int (zI (tsz (flc (scl M k) (bst (fun p => tsz (flc (scl M k) p) L 0) (-1) f x.1)) L 0))), some (.int (zI (f + (x.1 : Int)))), none]) (fun x => x.2) (1, N22) (by
        have e0 : bst (fun p => tsz (flc (scl M k) p) L 0) (-1) f 1 = f := by
          show (if f + ((0 : Nat) : Int) ≠ -1 ∧ _ then f + ((0 : Nat) : Int) else _) = f
          rw [if_pos ⟨by omega, Or.inl rfl⟩]
          omega
        dsimp only
        rw [e0]
        rfl) rfl ⟨⟨by dsimp only; omega, by dsimp only; omega⟩, e1, e2, e3⟩ (fun x hx ih => ?_)
    obtain ⟨n, M1⟩ := x
    obtain ⟨hn, i1, i2, i3⟩ := hx
    dsimp only at hn i1 i2 i3 ih ⊢
    have hb := bst_in (fun p => tsz (flc (scl M k) p) L 0) (-1) hps.1 n
    have hbs : bst (fun p => tsz (flc (scl M k) p) L 0) (-1) f (n + 1) = if f + (n : Int) ≠ -1 ∧ (bst (fun p => tsz (flc (scl M k) p) L 0) (-1) f n = -1 ∨ tsz (flc (scl M k) (f + n)) L 0 < tsz (flc (scl M k) (bst (fun p => tsz (flc (scl M k) p) L 0) (-1) f n)) L 0) then f + (n : Int) else bst (fun p => tsz (flc (scl M k) p) L 0) (-1) f n := rfl
    have hb1 : bst (fun p => tsz (flc (scl M k) p) L 0) (-1) f n ≠ -1 := by
      obtain ⟨m, rfl⟩ : ∃ m, n = m + 1 := ⟨n - 1, by omega⟩
      have hbm : bst (fun p => tsz (flc (scl M k) p) L 0) (-1) f (m + 1) = if f + (m : Int) ≠ -1 ∧ (bst (fun p => tsz (flc (scl M k) p) L 0) (-1) f m = -1 ∨ tsz (flc (scl M k) (f + m)) L 0 < tsz (flc (scl M k) (bst (fun p => tsz (flc (scl M k) p) L 0) (-1) f m)) L 0) then f + (m : Int) else bst (fun p => tsz (flc (scl M k) p) L 0) (-1) f m := rfl
      rw [hbm]
      by_cases e : f + (m : Int) ≠ -1 ∧ (bst (fun p => tsz (flc (scl M k) p) L 0) (-1) f m = -1 ∨ tsz (flc (scl M k) (f + m)) L 0 < tsz (flc (scl M k) (bst (fun p => tsz (flc (scl M k) p) L 0) (-1) f m)) L 0)
      · rw [if_pos e]; omega
      · rw [if_neg e]; exact fun e2 => e ⟨by omega, Or.inl e2⟩
    generalize hgw : bst (fun p => tsz (flc (scl M k) p) L 0) (-1) f n = w at hb hbs hb1
    have hti := tsz_in (flc (scl M k) (f + n)) L 0
    have htw := tsz_in (flc (scl M k) w) L 0
    refine q_iload dX8_bestFlip_32 rfl ?_
    refine q_iload_n dX8_bestFlip_34 rfl ?_
    refine q_icmp_gt (tgt := 77) dX8_bestFlip_35 rfl (by (first | (unfold zR; omega) | (unfold zLR; omega) | omega | (simp only [zR, qup] at *; omega) | (simp [zR, qup]; omega) | (simp [zR, qup]; done))) (by (first | (unfold zR; omega) | (unfold zLR; omega) | omega | (simp only [zR, qup] at *; omega) | (simp [zR, qup]; omega) | (simp [zR, qup]; done))) (fun h35 => ?_) (fun h35 => ?_)
    rotate_left
    ·
      refine q_aload_n dX8_bestFlip_38 rfl ?_
      refine q_iload dX8_bestFlip_39 rfl ?_
      refine q_V1 dX8_bestFlip_41 ml_8_360 md_X8_bytesWithOther (hfl _ (f + n) i1 i2 i3 (by omega) (by omega)) rfl rfl rfl (by first | decide | omega) (Nat.le_of_ble_eq_true rfl) (Nat.le_of_ble_eq_true rfl) (qk_g (fun z41 N41 hq41 => ?_))
      obtain ⟨rfl, j1, j2, j3⟩ := hq41
      refine q_istore dX8_bestFlip_44 (Nat.le_of_ble_eq_true rfl) rfl ?_
      refine q_iload dX8_bestFlip_46 rfl ?_
      refine q_iload dX8_bestFlip_48 rfl ?_
      refine q_icmp_ge (tgt := 58) dX8_bestFlip_50 rfl (by (first | (unfold zR; omega) | (unfold zLR; omega) | omega | (simp only [zR, qup] at *; omega) | (simp [zR, qup]; omega) | (simp [zR, qup]; done))) (by (first | (unfold zR; omega) | (unfold zLR; omega) | omega | (simp only [zR, qup] at *; omega) | (simp [zR, qup]; omega) | (simp [zR, qup]; done))) (fun h50 => ?_) (fun h50 => ?_)
      ·
        refine q_iload dX8_bestFlip_58 rfl ?_
        refine q_istore dX8_bestFlip_60 (Nat.le_of_ble_eq_true rfl) rfl ?_
        refine q_iload dX8_bestFlip_62 rfl ?_
        refine q_iload dX8_bestFlip_64 rfl ?_
        refine q_mmin dX8_bestFlip_66 ml_8_363 (by (first | (unfold zR; omega) | (unfold zLR; omega) | omega | (simp only [zR, qup] at *; omega) | (simp [zR, qup]; omega) | (simp [zR, qup]; done))) (by (first | (unfold zR; omega) | (unfold zLR; omega) | omega | (simp only [zR, qup] at *; omega) | (simp [zR, qup]; omega) | (simp [zR, qup]; done))) (Nat.le_of_ble_eq_true rfl) ?_
        refine q_istore dX8_bestFlip_69 (Nat.le_of_ble_eq_true rfl) rfl ?_
        refine q_iinc dX8_bestFlip_71 rfl (Nat.le_of_ble_eq_true rfl) rfl ?_
        refine q_goto (tgt := 32) dX8_bestFlip_74 rfl ?_
        have e5 : bst (fun p => tsz (flc (scl M k) p) L 0) (-1) f (n + 1) = w := by rw [hbs, if_neg (fun q => q.2.elim (fun q => hb1 q) (fun q => by omega))]
        refine q_wk _ ?_ (ih (n + 1, N41) _ _ ⟨⟨by dsimp only; omega, by dsimp only; omega⟩, j1, j2, j3⟩ (by dsimp only; omega) rfl rfl)
        dsimp only
        rw [e5, Int.min_eq_left (by omega), show f + ((n + 1 : Nat) : Int) = f + (n : Int) + 1 by omega]
        simp only [wkB]
        (repeat (first | exact rfl | exact trivial | refine ⟨rfl, ?_⟩))
      ·
        refine q_iload dX8_bestFlip_53 rfl ?_
        refine q_goto (tgt := 60) dX8_bestFlip_55 rfl ?_
        refine q_istore dX8_bestFlip_60 (Nat.le_of_ble_eq_true rfl) rfl ?_
        refine q_iload dX8_bestFlip_62 rfl ?_
        refine q_iload dX8_bestFlip_64 rfl ?_
        refine q_mmin dX8_bestFlip_66 ml_8_363 (by (first | (unfold zR; omega) | (unfold zLR; omega) | omega | (simp only [zR, qup] at *; omega) | (simp [zR, qup]; omega) | (simp [zR, qup]; done))) (by (first | (unfold zR; omega) | (unfold zLR; omega) | omega | (simp only [zR, qup] at *; omega) | (simp [zR, qup]; omega) | (simp [zR, qup]; done))) (Nat.le_of_ble_eq_true rfl) ?_
        refine q_istore dX8_bestFlip_69 (Nat.le_of_ble_eq_true rfl) rfl ?_
        refine q_iinc dX8_bestFlip_71 rfl (Nat.le_of_ble_eq_true rfl) rfl ?_
        refine q_goto (tgt := 32) dX8_bestFlip_74 rfl ?_
        have e5 : bst (fun p => tsz (flc (scl M k) p) L 0) (-1) f (n + 1) = f + n := by rw [hbs, if_pos ⟨by omega, Or.inr (by omega)⟩]
        refine q_wk _ ?_ (ih (n + 1, N41) _ _ ⟨⟨by dsimp only; omega, by dsimp only; omega⟩, j1, j2, j3⟩ (by dsimp only; omega) rfl rfl)
        dsimp only
        rw [e5, Int.min_eq_right (by omega), show f + ((n + 1 : Nat) : Int) = f + (n : Int) + 1 by omega]
        simp only [wkB]
        (repeat (first | exact rfl | exact trivial | refine ⟨rfl, ?_⟩))
    refine q_iload dX8_bestFlip_77 rfl ?_
    refine q_ireturn dX8_bestFlip_79 ?_
    exact mpx_k hg ⟨by rw [← hgw, show (t - f + 1).toNat = n by omega], i3⟩
  ·
    refine q_iconst dX8_bestFlip_10 ?_
    refine q_ireturn dX8_bestFlip_11 ?_
    exact mpx_g (zbn h7)
end MU


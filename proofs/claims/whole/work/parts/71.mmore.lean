/-! The model: block, count, lowest, biggest; combined, nearest. -/
theorem MS_MI {M N : qM} (h : MS M N) (hM : MI M) : MI N := by
  have e : ∀ o, o ≠ 37 → o ≠ 42 → o ≠ 43 → o ≠ 44 → o ≠ 45 → o ≠ 46 → o ≠ 47 → o ≠ 49 → o ≠ 50 → N o = M o := h.1
  unfold MI
  rw [e 38 (by decide) (by decide) (by decide) (by decide) (by decide) (by decide) (by decide) (by decide) (by decide), e 39 (by decide) (by decide) (by decide) (by decide) (by decide) (by decide) (by decide) (by decide) (by decide), e 40 (by decide) (by decide) (by decide) (by decide) (by decide) (by decide) (by decide) (by decide) (by decide), e 41 (by decide) (by decide) (by decide) (by decide) (by decide) (by decide) (by decide) (by decide) (by decide), e 48 (by decide) (by decide) (by decide) (by decide) (by decide) (by decide) (by decide) (by decide) (by decide), h.2 1 (by omega), h.2 2 (by omega), h.2 3 (by omega), h.2 7 (by omega), h.2 21 (by omega), h.2 35 (by omega)]
  exact hM
theorem MS_scl {M N : qM} (h : MS M N) (k : Int) : scl N k = scl M k := by
  funext i
  unfold scl
  rw [h.1 39 (by decide) (by decide) (by decide) (by decide) (by decide) (by decide) (by decide) (by decide) (by decide)]
theorem qup_id (M : qM) (o : Nat) (k : Int) : qup M o k (M o k) = M := by
  funext o' j
  by_cases g : o' = o ∧ j = k
  · obtain ⟨rfl, rfl⟩ := g; rw [qup_s]
  · by_cases g2 : o' = o
    · subst g2; exact qup_k _ _ _ (fun q => g ⟨rfl, q⟩)
    · exact qup_o _ _ _ _ g2
section MV
variable {M N : qM} {L l : Nat} {c T K F S : Int → Int} {k o x y a b v p q f t n g i : Int}
theorem m_fetchesTreeN (hM : MI N) (hL : N 37 2 = (L : Int)) (hk : 0 ≤ k ∧ k < 6) : qCt mX8_fetchesTree 0 8 [.ref 37, .int (zI k)] N (qph (fun M' => ∃ T K F S, M' = mtw (fW N (N 37 0) L k) T K F S (tsz (scl N k) L 0) ∧ Mt (scl N k) L T K F S)) := by
  have h := m_fetchesTree (M := N) (g := N 37 0) hM hL hk
  rw [qup_id] at h
  exact h
theorem MS_ft (N : qM) (L : Nat) (k : Int) (T K F S : Int → Int) (n : Int) : MS N (mtw (fW N (N 37 0) L k) T K F S n) := by
  have h := fW_MS N (N 37 0) L k
  rw [qup_id] at h
  exact MS_tr h (mtw_MS _ _ _ _ _ _)
set_option maxHeartbeats 2000000 in
theorem m_allBytes (hM : MI M) (hL : M 37 2 = (L : Int)) : qCt mX8_allBytes 0 9 [.ref 37] M (qpg (fun z M' => z = zsum (fun k => tsz (scl M k) L 0) 0 (M 37 3).toNat ∧ MS M M')) := by
  have hL4 : L ≤ 4 := by have := hM.2.1; omega
  have hmp := hM.2.2.2.1
  have ht2 := tmax_in L hL4
  refine q_intro (own := 8) (L := [some (.ref 37), none, none]) md_X8_allBytes rfl rfl rfl (Nat.le_of_ble_eq_true rfl) (fun X => ?_)
  refine q_iconst dX8_allBytes_0 ?_
  refine q_istore_n dX8_allBytes_1 (Nat.le_of_ble_eq_true rfl) rfl ?_
  refine q_iconst dX8_allBytes_2 ?_
  refine q_istore_n dX8_allBytes_3 (Nat.le_of_ble_eq_true rfl) rfl ?_
  refine q_lp (α := Int × qM) (fun x => (M 37 3 - x.1).toNat) (fun x => 0 ≤ x.1 ∧ x.1 ≤ M 37 3 ∧ MS M x.2) (fun x => [some (.ref 37), some (.int (zI (zsum (fun k => tsz (scl M k) L 0) 0 x.1.toNat))), some (.int (zI x.1))]) (fun x => x.2) (0, M) rfl rfl ⟨by omega, by omega, MS_rf M⟩ (fun x hx ih => ?_)
  obtain ⟨i, M1⟩ := x
  obtain ⟨hi0, hi1, hS⟩ := hx
  dsimp only at hi0 hi1 hS ih ⊢
  have hzs := zsum_s (fun k => tsz (scl M k) L 0) hi0
  have hzi := zsum_in (f := fun k => tsz (scl M k) L 0) (a := 0) (B := 341) (n := i.toNat) (fun j _ _ => by have := tsz_in (scl M j) L 0; omega)
  have hti := tsz_in (scl M i) L 0
  refine q_iload_n dX8_allBytes_4 rfl ?_
  refine q_aload_n dX8_allBytes_5 rfl ?_
  refine q_geti (j := 3) dX8_allBytes_6 fl_8_68 rfl rfl rfl ?_
  rw [hS.2 3 (by omega)]
  refine q_icmp_ge (tgt := 30) dX8_allBytes_9 rfl (by (first | (unfold zR; omega) | (unfold zLR; omega) | omega | (simp only [zR, qup] at *; omega) | (simp [zR, qup]; omega) | (simp [zR, qup]; done))) (by (first | (unfold zR; omega) | (unfold zLR; omega) | omega | (simp only [zR, qup] at *; omega) | (simp [zR, qup]; omega) | (simp [zR, qup]; done))) (fun h9 => ?_) (fun h9 => ?_)
  rotate_left
  ·
    refine q_aload_n dX8_allBytes_12 rfl ?_
    refine q_iload_n dX8_allBytes_13 rfl ?_
    refine q_V1 dX8_allBytes_14 ml_8_286 md_X8_fetchesTree (m_fetchesTreeN (MS_MI hS hM) (by rw [hS.2 2 (by omega)]; exact hL) (by omega)) rfl rfl rfl (by first | decide | omega) (Nat.le_of_ble_eq_true rfl) (Nat.le_of_ble_eq_true rfl) (qk_h (fun N14 hq14 => ?_))
    obtain ⟨Tq, Kq, Fq, Sq, rfl, hm⟩ := hq14
    refine q_iload_n dX8_allBytes_17 rfl ?_
    refine q_aload_n dX8_allBytes_18 rfl ?_
    refine q_geti (j := 12) dX8_allBytes_19 fl_8_101 rfl rfl rfl ?_
    rw [mtw_12, MS_scl hS]
    refine q_iadd dX8_allBytes_22 ?_
    refine q_istore_n dX8_allBytes_23 (Nat.le_of_ble_eq_true rfl) rfl ?_
    refine q_iinc dX8_allBytes_24 rfl (Nat.le_of_ble_eq_true rfl) rfl ?_
    refine q_goto (tgt := 4) dX8_allBytes_27 rfl ?_
    exact ih (i + 1, _) _ _ ⟨by dsimp only; omega, by dsimp only; omega, MS_tr hS (MS_ft M1 L i Tq Kq Fq Sq _)⟩ (by dsimp only; omega) (by dsimp only; rw [hzs]; rfl) rfl
  refine q_iload_n dX8_allBytes_30 rfl ?_
  refine q_ireturn dX8_allBytes_31 ?_
  exact ⟨_, rfl, by rw [show i = M 37 3 by omega], hS⟩
noncomputable def cntM (M : qM) (L : Nat) (q : Int) : Int := if q = 0 then M 37 3 else if q = 1 then (L : Int) else if q = 2 then 8 * p4 L else zsum (fun k => tsz (scl M k) L 0) 0 (M 37 3).toNat
set_option maxHeartbeats 2000000 in
theorem o_count (hM : MI M) (hL : M 37 2 = (L : Int)) (hq : zR q) : qCt mX8_count 0 10 [.ref 37, .int (zI q)] M (mpx (gor (mT M) (if 0 ≤ q ∧ q ≤ 3 then 0 else 2)) (fun z M' => z = cntM M L q ∧ MS (qup M 37 0 0) M') M) := by
  have hL4 : L ≤ 4 := by have := hM.2.1; omega
  have z01 := zb_01 (0 ≤ q ∧ q ≤ 3)
  have e2 : ∀ j : Int, j ≠ 0 → qup M 37 0 0 37 j = M 37 j := fun j h => qup_k _ _ _ h
  refine q_intro (own := 8) (L := [some (.ref 37), some (.int (zI q))]) md_X8_count rfl rfl rfl (Nat.le_of_ble_eq_true rfl) (fun X => ?_)
  refine q_aload_n dX8_count_0 rfl ?_
  refine q_V0 dX8_count_1 ml_8_75 md_X8_noMaps (m_noMapsT hM.1) rfl rfl rfl (by first | decide | omega) (Nat.le_of_ble_eq_true rfl) (Nat.le_of_ble_eq_true rfl) (qk_e ?_)
  refine q_if_ne (tgt := 29) dX8_count_4 rfl (by exact zb_R _) (fun h4 => ?_) (fun h4 => ?_)
  ·
    refine q_iconst dX8_count_29 ?_
    refine q_ireturn dX8_count_30 ?_
    exact mpx_g2 (zbn h4)
  ·
    refine q_aload_n dX8_count_7 rfl ?_
    refine q_iload_n dX8_count_8 rfl ?_
    refine q_iconst dX8_count_9 ?_
    refine q_iconst dX8_count_10 ?_
    refine q_S3 dX8_count_11 ml_8_71 md_X8_in (m_in hq (by (first | (unfold zR; omega) | (unfold zLR; omega) | omega | (simp only [zR, qup] at *; omega) | (simp [zR, qup]; omega) | (simp [zR, qup]; done))) (by (first | (unfold zR; omega) | (unfold zLR; omega) | omega | (simp only [zR, qup] at *; omega) | (simp [zR, qup]; omega) | (simp [zR, qup]; done)))) rfl (by first | decide | omega) (Nat.le_of_ble_eq_true rfl) (Nat.le_of_ble_eq_true rfl) (qk_e ?_)
    refine q_if_ne (tgt := 21) dX8_count_14 rfl (by exact zb_R _) (fun h14 => ?_) (fun h14 => ?_)
    ·
      refine q_iconst dX8_count_21 ?_
      refine q_iconst dX8_count_22 ?_
      have hgb : (if (0 : Int) = 1 then (2 : Int) else 0) = (if 0 ≤ q ∧ q ≤ 3 then 0 else 2) := (if_pos (zb_1.1 (by omega))).symm
      refine q_V2 dX8_count_23 ml_8_64 md_X8_refuse (m_refH (by omega) (mT_R M) (by (first | (unfold zR; omega) | (unfold zLR; omega) | omega | (simp only [zR, qup] at *; omega) | (simp [zR, qup]; omega) | (simp [zR, qup]; done))) hgb) rfl rfl rfl (by first | decide | omega) (Nat.le_of_ble_eq_true rfl) (Nat.le_of_ble_eq_true rfl) (qk_e ?_)
      refine q_if_eq (tgt := 31) dX8_count_26 rfl (by exact zb_R _) (fun h26 => ?_) (fun h26 => ?_)
      ·
        have hg := zbz h26
        have hg2 := gor_00.1 hg
        have hq5 : 0 ≤ q ∧ q ≤ 3 := Classical.byContradiction fun w => by have := hg2.2; rw [if_neg w] at this; omega
        rw [hg]
        refine q_iload_n dX8_count_31 rfl ?_
        by_cases hs32_0 : q = 0
        ·
          refine q_tableIn (tgt := 60) dX8_count_32 (by (first | (unfold zR; omega) | (unfold zLR; omega) | omega | (simp only [zR, qup] at *; omega) | (simp [zR, qup]; omega) | (simp [zR, qup]; done))) (by omega) (by omega) (by rw [hs32_0]; rfl) rfl ?_
          refine q_aload_n dX8_count_60 rfl ?_
          refine q_geti (j := 3) dX8_count_61 fl_8_68 rfl rfl rfl ?_
          rw [e2 3 (by decide)]
          refine q_ireturn dX8_count_64 ?_
          exact mpx_k rfl ⟨by unfold cntM; rw [if_pos (by omega)], MS_rf _⟩
        by_cases hs32_1 : q = 1
        ·
          refine q_tableIn (tgt := 65) dX8_count_32 (by (first | (unfold zR; omega) | (unfold zLR; omega) | omega | (simp only [zR, qup] at *; omega) | (simp [zR, qup]; omega) | (simp [zR, qup]; done))) (by omega) (by omega) (by rw [hs32_1]; rfl) rfl ?_
          refine q_aload_n dX8_count_65 rfl ?_
          refine q_geti (j := 2) dX8_count_66 fl_8_114 rfl rfl rfl ?_
          rw [e2 2 (by decide)]
          refine q_ireturn dX8_count_69 ?_
          exact mpx_k rfl ⟨by unfold cntM; rw [if_neg (by omega), if_pos (by omega)]; exact hL, MS_rf _⟩
        by_cases hs32_2 : q = 2
        ·
          refine q_tableIn (tgt := 70) dX8_count_32 (by (first | (unfold zR; omega) | (unfold zLR; omega) | omega | (simp only [zR, qup] at *; omega) | (simp [zR, qup]; omega) | (simp [zR, qup]; done))) (by omega) (by omega) (by rw [hs32_2]; rfl) rfl ?_
          refine q_bipush dX8_count_70 rfl ?_
          refine q_iconst dX8_count_72 ?_
          refine q_aload_n dX8_count_73 rfl ?_
          refine q_geti (j := 2) dX8_count_74 fl_8_114 rfl rfl rfl ?_
          rw [e2 2 (by decide), hL]
          refine q_imul dX8_count_77 ?_
          refine q_ishl dX8_count_78 ?_
          rw [zshl_8 (by omega)]
          refine q_ireturn dX8_count_79 ?_
          exact mpx_k rfl ⟨by unfold cntM; rw [if_neg (by omega), if_neg (by omega), if_pos (by omega)], MS_rf _⟩
        refine q_tableOut (tgt := 80) dX8_count_32 (by (first | (unfold zR; omega) | (unfold zLR; omega) | omega | (simp only [zR, qup] at *; omega) | (simp [zR, qup]; omega) | (simp [zR, qup]; done))) (by omega) rfl ?_
        refine q_aload_n dX8_count_80 rfl ?_
        refine q_V0 dX8_count_81 ml_8_289 md_X8_allBytes (m_allBytes (MI_g hM 0) (by rw [e2 2 (by decide)]; exact hL)) rfl rfl rfl (by first | decide | omega) (Nat.le_of_ble_eq_true rfl) (Nat.le_of_ble_eq_true rfl) (qk_g (fun z81 N81 hq81 => ?_))
        obtain ⟨hz, hS⟩ := hq81
        rw [e2 3 (by decide)] at hz
        rw [show (fun k => tsz (scl (qup M 37 0 0) k) L 0) = fun k => tsz (scl M k) L 0 by funext k; rw [scl_g]] at hz
        refine q_ireturn dX8_count_84 ?_
        exact mpx_k rfl ⟨by unfold cntM; rw [if_neg (by omega), if_neg (by omega), if_neg (by omega)]; exact hz, hS⟩
      ·
        refine q_iconst dX8_count_29 ?_
        refine q_ireturn dX8_count_30 ?_
        exact mpx_g (zbn h26)
    ·
      refine q_iconst dX8_count_17 ?_
      refine q_goto (tgt := 22) dX8_count_18 rfl ?_
      refine q_iconst dX8_count_22 ?_
      have hgb : (if (1 : Int) = 1 then (2 : Int) else 0) = (if 0 ≤ q ∧ q ≤ 3 then 0 else 2) := (if_neg (zb_0.1 (by omega))).symm
      refine q_V2 dX8_count_23 ml_8_64 md_X8_refuse (m_refH (by omega) (mT_R M) (by (first | (unfold zR; omega) | (unfold zLR; omega) | omega | (simp only [zR, qup] at *; omega) | (simp [zR, qup]; omega) | (simp [zR, qup]; done))) hgb) rfl rfl rfl (by first | decide | omega) (Nat.le_of_ble_eq_true rfl) (Nat.le_of_ble_eq_true rfl) (qk_e ?_)
      refine q_if_eq (tgt := 31) dX8_count_26 rfl (by exact zb_R _) (fun h26 => ?_) (fun h26 => ?_)
      ·
        have hg := zbz h26
        have hg2 := gor_00.1 hg
        have hq5 : 0 ≤ q ∧ q ≤ 3 := Classical.byContradiction fun w => by have := hg2.2; rw [if_neg w] at this; omega
        rw [hg]
        refine q_iload_n dX8_count_31 rfl ?_
        by_cases hs32_0 : q = 0
        ·
          refine q_tableIn (tgt := 60) dX8_count_32 (by (first | (unfold zR; omega) | (unfold zLR; omega) | omega | (simp only [zR, qup] at *; omega) | (simp [zR, qup]; omega) | (simp [zR, qup]; done))) (by omega) (by omega) (by rw [hs32_0]; rfl) rfl ?_
          refine q_aload_n dX8_count_60 rfl ?_
          refine q_geti (j := 3) dX8_count_61 fl_8_68 rfl rfl rfl ?_
          rw [e2 3 (by decide)]
          refine q_ireturn dX8_count_64 ?_
          exact mpx_k rfl ⟨by unfold cntM; rw [if_pos (by omega)], MS_rf _⟩
        by_cases hs32_1 : q = 1
        ·
          refine q_tableIn (tgt := 65) dX8_count_32 (by (first | (unfold zR; omega) | (unfold zLR; omega) | omega | (simp only [zR, qup] at *; omega) | (simp [zR, qup]; omega) | (simp [zR, qup]; done))) (by omega) (by omega) (by rw [hs32_1]; rfl) rfl ?_
          refine q_aload_n dX8_count_65 rfl ?_
          refine q_geti (j := 2) dX8_count_66 fl_8_114 rfl rfl rfl ?_
          rw [e2 2 (by decide)]
          refine q_ireturn dX8_count_69 ?_
          exact mpx_k rfl ⟨by unfold cntM; rw [if_neg (by omega), if_pos (by omega)]; exact hL, MS_rf _⟩
        by_cases hs32_2 : q = 2
        ·
          refine q_tableIn (tgt := 70) dX8_count_32 (by (first | (unfold zR; omega) | (unfold zLR; omega) | omega | (simp only [zR, qup] at *; omega) | (simp [zR, qup]; omega) | (simp [zR, qup]; done))) (by omega) (by omega) (by rw [hs32_2]; rfl) rfl ?_
          refine q_bipush dX8_count_70 rfl ?_
          refine q_iconst dX8_count_72 ?_
          refine q_aload_n dX8_count_73 rfl ?_
          refine q_geti (j := 2) dX8_count_74 fl_8_114 rfl rfl rfl ?_
          rw [e2 2 (by decide), hL]
          refine q_imul dX8_count_77 ?_
          refine q_ishl dX8_count_78 ?_
          rw [zshl_8 (by omega)]
          refine q_ireturn dX8_count_79 ?_
          exact mpx_k rfl ⟨by unfold cntM; rw [if_neg (by omega), if_neg (by omega), if_pos (by omega)], MS_rf _⟩
        refine q_tableOut (tgt := 80) dX8_count_32 (by (first | (unfold zR; omega) | (unfold zLR; omega) | omega | (simp only [zR, qup] at *; omega) | (simp [zR, qup]; omega) | (simp [zR, qup]; done))) (by omega) rfl ?_
        refine q_aload_n dX8_count_80 rfl ?_
        refine q_V0 dX8_count_81 ml_8_289 md_X8_allBytes (m_allBytes (MI_g hM 0) (by rw [e2 2 (by decide)]; exact hL)) rfl rfl rfl (by first | decide | omega) (Nat.le_of_ble_eq_true rfl) (Nat.le_of_ble_eq_true rfl) (qk_g (fun z81 N81 hq81 => ?_))
        obtain ⟨hz, hS⟩ := hq81
        rw [e2 3 (by decide)] at hz
        rw [show (fun k => tsz (scl (qup M 37 0 0) k) L 0) = fun k => tsz (scl M k) L 0 by funext k; rw [scl_g]] at hz
        refine q_ireturn dX8_count_84 ?_
        exact mpx_k rfl ⟨by unfold cntM; rw [if_neg (by omega), if_neg (by omega), if_neg (by omega)]; exact hz, hS⟩
      ·
        refine q_iconst dX8_count_29 ?_
        refine q_ireturn dX8_count_30 ?_
        exact mpx_g (zbn h26)
set_option maxHeartbeats 2000000 in
theorem o_nearest (hM : MI M) (hk : zR k) : qCt mX8_nearest 0 4 [.ref 37, .int (zI k)] M (mpx (gG M k) (fun z M' => z = bst (fun j => unl (scl M k) (scl M j) 0 0 256) k 0 (M 37 3).toNat ∧ MS (qup M 37 0 0) M') M) := by
  have hmp := hM.2.2.2.1
  have e2 : ∀ j : Int, j ≠ 0 → qup M 37 0 0 37 j = M 37 j := fun j h => qup_k _ _ _ h
  refine q_intro (own := 8) (L := [some (.ref 37), some (.int (zI k)), none, none]) md_X8_nearest rfl rfl rfl (Nat.le_of_ble_eq_true rfl) (fun X => ?_)
  refine q_aload_n dX8_nearest_0 rfl ?_
  refine q_iload_n dX8_nearest_1 rfl ?_
  refine q_V1 dX8_nearest_2 ml_8_292 md_X8_noMap (m_noMap hM.1 hM.2.2.2.1 hk) rfl rfl rfl (by first | decide | omega) (Nat.le_of_ble_eq_true rfl) (Nat.le_of_ble_eq_true rfl) (qk_e ?_)
  refine q_if_eq (tgt := 10) dX8_nearest_5 rfl (by exact zb_R _) (fun h5 => ?_) (fun h5 => ?_)
  ·
    have hg := zbz h5
    have hgk := gG_0 hM hg
    rw [hg]
    refine q_iconst dX8_nearest_10 ?_
    refine q_istore_n dX8_nearest_11 (Nat.le_of_ble_eq_true rfl) rfl ?_
    refine q_iconst dX8_nearest_12 ?_
    refine q_istore_n dX8_nearest_13 (Nat.le_of_ble_eq_true rfl) rfl ?_
    refine q_lp (fun i : Nat => (M 37 3).toNat - i) (fun i => (i : Int) ≤ M 37 3) (fun i => [some (.ref 37), some (.int (zI k)), some (.int (zI (bst (fun j => unl (scl M k) (scl M j) 0 0 256) k 0 i))), some (.int (zI (i : Int)))]) (fun _ => qup M 37 0 0) 0 rfl rfl (by omega) (fun i hi1 ih => ?_)
    have hb := bst_in (fun j => unl (scl M k) (scl M j) 0 0 256) k (Int.le_refl 0) i
    have hbs : bst (fun j => unl (scl M k) (scl M j) 0 0 256) k 0 (i + 1) = if (0 : Int) + i ≠ k ∧ (bst (fun j => unl (scl M k) (scl M j) 0 0 256) k 0 i = -1 ∨ unl (scl M k) (scl M (0 + i)) 0 0 256 < unl (scl M k) (scl M (bst (fun j => unl (scl M k) (scl M j) 0 0 256) k 0 i)) 0 0 256) then 0 + (i : Int) else bst (fun j => unl (scl M k) (scl M j) 0 0 256) k 0 i := rfl
    rw [Int.zero_add] at hbs
    generalize hgw : bst (fun j => unl (scl M k) (scl M j) 0 0 256) k 0 i = w at hb hbs
    have hti := unl_in (scl M k) (scl M i) 0 0 (show (0 : Int) ≤ 256 by omega)
    have htw := unl_in (scl M k) (scl M w) 0 0 (show (0 : Int) ≤ 256 by omega)
    refine q_iload_n dX8_nearest_14 rfl ?_
    refine q_aload_n dX8_nearest_15 rfl ?_
    refine q_geti (j := 3) dX8_nearest_16 fl_8_68 rfl rfl rfl ?_
    rw [e2 3 (by decide)]
    refine q_icmp_ge (tgt := 59) dX8_nearest_19 rfl (by (first | (unfold zR; omega) | (unfold zLR; omega) | omega | (simp only [zR, qup] at *; omega) | (simp [zR, qup]; omega) | (simp [zR, qup]; done))) (by (first | (unfold zR; omega) | (unfold zLR; omega) | omega | (simp only [zR, qup] at *; omega) | (simp [zR, qup]; omega) | (simp [zR, qup]; done))) (fun h19 => ?_) (fun h19 => ?_)
    rotate_left
    ·
      refine q_iload_n dX8_nearest_22 rfl ?_
      refine q_iload_n dX8_nearest_23 rfl ?_
      refine q_icmp_eq (tgt := 51) dX8_nearest_24 rfl (by (first | (unfold zR; omega) | (unfold zLR; omega) | omega | (simp only [zR, qup] at *; omega) | (simp [zR, qup]; omega) | (simp [zR, qup]; done))) (by (first | (unfold zR; omega) | (unfold zLR; omega) | omega | (simp only [zR, qup] at *; omega) | (simp [zR, qup]; omega) | (simp [zR, qup]; done))) (fun h24 => ?_) (fun h24 => ?_)
      ·
        refine q_iload_n dX8_nearest_51 rfl ?_
        refine q_istore_n dX8_nearest_52 (Nat.le_of_ble_eq_true rfl) rfl ?_
        refine q_iinc dX8_nearest_53 rfl (Nat.le_of_ble_eq_true rfl) rfl ?_
        refine q_goto (tgt := 14) dX8_nearest_56 rfl ?_
        have e1 : bst (fun j => unl (scl M k) (scl M j) 0 0 256) k 0 (i + 1) = w := by rw [hbs, if_neg (fun q => q.1 h24)]
        exact ih (i + 1) _ _ (by omega) (by omega) (by rw [e1]; rfl) rfl
      ·
        refine q_iload_n dX8_nearest_27 rfl ?_
        refine q_iconst dX8_nearest_28 ?_
        refine q_icmp_eq (tgt := 47) dX8_nearest_29 rfl (by (first | (unfold zR; omega) | (unfold zLR; omega) | omega | (simp only [zR, qup] at *; omega) | (simp [zR, qup]; omega) | (simp [zR, qup]; done))) (by (first | (unfold zR; omega) | (unfold zLR; omega) | omega | (simp only [zR, qup] at *; omega) | (simp [zR, qup]; omega) | (simp [zR, qup]; done))) (fun h29 => ?_) (fun h29 => ?_)
        ·
          refine q_iload_n dX8_nearest_47 rfl ?_
          refine q_goto (tgt := 52) dX8_nearest_48 rfl ?_
          refine q_istore_n dX8_nearest_52 (Nat.le_of_ble_eq_true rfl) rfl ?_
          refine q_iinc dX8_nearest_53 rfl (Nat.le_of_ble_eq_true rfl) rfl ?_
          refine q_goto (tgt := 14) dX8_nearest_56 rfl ?_
          have e1 : bst (fun j => unl (scl M k) (scl M j) 0 0 256) k 0 (i + 1) = i := by rw [hbs, if_pos ⟨h24, Or.inl h29⟩]
          exact ih (i + 1) _ _ (by omega) (by omega) (by rw [e1]; rfl) rfl
        ·
          refine q_aload_n dX8_nearest_32 rfl ?_
          refine q_iload_n dX8_nearest_33 rfl ?_
          refine q_iload_n dX8_nearest_34 rfl ?_
          refine q_V2 dX8_nearest_35 ml_8_350 md_X8_unlike (m_unlike (MI_g hM 0) (by omega) (by omega)) rfl rfl rfl (by first | decide | omega) (Nat.le_of_ble_eq_true rfl) (Nat.le_of_ble_eq_true rfl) (qk_e ?_)
          rw [scl_g, scl_g]
          refine q_aload_n dX8_nearest_38 rfl ?_
          refine q_iload_n dX8_nearest_39 rfl ?_
          refine q_iload_n dX8_nearest_40 rfl ?_
          refine q_V2 dX8_nearest_41 ml_8_350 md_X8_unlike (m_unlike (MI_g hM 0) (by omega) (by omega)) rfl rfl rfl (by first | decide | omega) (Nat.le_of_ble_eq_true rfl) (Nat.le_of_ble_eq_true rfl) (qk_e ?_)
          rw [scl_g, scl_g]
          refine q_icmp_ge (tgt := 51) dX8_nearest_44 rfl (by (first | (unfold zR; omega) | (unfold zLR; omega) | omega | (simp only [zR, qup] at *; omega) | (simp [zR, qup]; omega) | (simp [zR, qup]; done))) (by (first | (unfold zR; omega) | (unfold zLR; omega) | omega | (simp only [zR, qup] at *; omega) | (simp [zR, qup]; omega) | (simp [zR, qup]; done))) (fun h44 => ?_) (fun h44 => ?_)
          ·
            refine q_iload_n dX8_nearest_51 rfl ?_
            refine q_istore_n dX8_nearest_52 (Nat.le_of_ble_eq_true rfl) rfl ?_
            refine q_iinc dX8_nearest_53 rfl (Nat.le_of_ble_eq_true rfl) rfl ?_
            refine q_goto (tgt := 14) dX8_nearest_56 rfl ?_
            have e1 : bst (fun j => unl (scl M k) (scl M j) 0 0 256) k 0 (i + 1) = w := by rw [hbs, if_neg (fun q => q.2.elim (fun q => h29 q) (fun q => by omega))]
            exact ih (i + 1) _ _ (by omega) (by omega) (by rw [e1]; rfl) rfl
          ·
            refine q_iload_n dX8_nearest_47 rfl ?_
            refine q_goto (tgt := 52) dX8_nearest_48 rfl ?_
            refine q_istore_n dX8_nearest_52 (Nat.le_of_ble_eq_true rfl) rfl ?_
            refine q_iinc dX8_nearest_53 rfl (Nat.le_of_ble_eq_true rfl) rfl ?_
            refine q_goto (tgt := 14) dX8_nearest_56 rfl ?_
            have e1 : bst (fun j => unl (scl M k) (scl M j) 0 0 256) k 0 (i + 1) = i := by rw [hbs, if_pos ⟨h24, Or.inr (by omega)⟩]
            exact ih (i + 1) _ _ (by omega) (by omega) (by rw [e1]; rfl) rfl
    refine q_iload_n dX8_nearest_59 rfl ?_
    refine q_ireturn dX8_nearest_60 ?_
    exact mpx_k hg ⟨by rw [← hgw, show (M 37 3).toNat = i by omega], MS_rf _⟩
  ·
    refine q_iconst dX8_nearest_8 ?_
    refine q_ireturn dX8_nearest_9 ?_
    exact mpx_g (zbn h5)
end MV


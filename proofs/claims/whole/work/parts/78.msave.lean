/-! The model: save. -/
section ND
variable {M N : qM} {L l : Nat} {k o x y a b v p q f t n g i s : Int}
theorem MI_sv (hM : MI M) (hs : 0 ≤ s ∧ s < 2) : MI (qup (kpW M (8 + s) 1536) 41 s 1) := by
  have e : ∀ o, o ≠ 40 → kpW M (8 + s) 1536 o = M o := fun o h => by funext j; unfold kpW; rw [if_neg (fun w => h w.1)]
  have e1 : ∀ o, o ≠ 41 → qup (kpW M (8 + s) 1536) 41 s 1 o = kpW M (8 + s) 1536 o := fun o h => by funext j; exact qup_o _ _ _ _ h
  obtain ⟨a1, a2, a3, a4, a5, a6, a7, a8, a9, a10, a11, a12, a13, a14⟩ := hM
  unfold MI
  rw [e1 37 (by decide), e1 38 (by decide), e1 39 (by decide), e1 40 (by decide), e1 48 (by decide), e 37 (by decide), e 38 (by decide), e 39 (by decide), e 48 (by decide)]
  refine ⟨a1, a2, a3, a4, a5, fun j h0 h1 => ?_, a7, fun j h0 h1 => ?_, a9, a10, a11, a12, a13, fun st k i h0 h1 hq k0 k1 i0 i1 => ?_⟩
  · unfold kpW
    by_cases w : (40 : Nat) = 40 ∧ 1536 * (8 + s) ≤ j ∧ j < 1536 * (8 + s) + 1536
    · rw [if_pos w]; exact a5 _ (by have := w.2; omega) (by have := w.2; omega)
    · rw [if_neg w]; exact a6 j h0 h1
  · by_cases w : j = s
    · subst w; rw [qup_s]; exact Or.inr rfl
    · rw [qup_k _ _ _ w, e 41 (by decide)]; exact a8 j h0 h1
  · have hp4 := p4_in (M 37 2)
    unfold kpW
    by_cases w : st = 8 + s
    · subst w
      rw [if_pos ⟨rfl, by omega, by omega⟩, show 1536 * (8 + s) + 256 * k + i - 1536 * (8 + s) = 256 * k + i by omega]
      exact a12 k i k0 k1 i0 i1
    · rw [if_neg (fun g => by have := g.2; omega)]
      refine a14 st k i h0 h1 (hq.elim Or.inl (fun g => Or.inr ⟨g.1, ?_⟩)) k0 k1 i0 i1
      have g2 := g.2
      rw [qup_k _ _ _ (by omega), e 41 (by decide)] at g2
      exact g2
set_option maxHeartbeats 2000000 in
theorem o_save (hM : MI M) (hL : M 37 2 = (L : Int)) (hs : zR s) : qCt mX8_save 0 10 [.ref 37, .int (zI s)] M (mpx (gor (mT M) (gSlot s)) (fun z M' => z = zsum (fun k => tsz (scl M k) L 0) 0 (M 37 3).toNat ∧ MS (qup (kpW (qup M 37 0 0) (8 + s) 1536) 41 s 1) M') M) := by
  have z01 := zb_01 (0 ≤ s ∧ s ≤ 1)
  refine q_intro (own := 8) (L := [some (.ref 37), some (.int (zI s))]) md_X8_save rfl rfl rfl (Nat.le_of_ble_eq_true rfl) (fun X => ?_)
  refine q_aload_n dX8_save_0 rfl ?_
  refine q_V0 dX8_save_1 ml_8_75 md_X8_noMaps (m_noMapsT hM.1) rfl rfl rfl (by first | decide | omega) (Nat.le_of_ble_eq_true rfl) (Nat.le_of_ble_eq_true rfl) (qk_e ?_)
  refine q_if_ne (tgt := 29) dX8_save_4 rfl (by exact zb_R _) (fun h4 => ?_) (fun h4 => ?_)
  ·
    refine q_iconst dX8_save_29 ?_
    refine q_ireturn dX8_save_30 ?_
    exact mpx_g2 (zbn h4)
  ·
    refine q_aload_n dX8_save_7 rfl ?_
    refine q_iload_n dX8_save_8 rfl ?_
    refine q_iconst dX8_save_9 ?_
    refine q_iconst dX8_save_10 ?_
    refine q_S3 dX8_save_11 ml_8_71 md_X8_in (m_in hs (by (first | (unfold zR; omega) | (unfold zLR; omega) | omega | (simp only [zR, qup] at *; omega) | (simp [zR, qup]; omega) | (simp [zR, qup]; done))) (by (first | (unfold zR; omega) | (unfold zLR; omega) | omega | (simp only [zR, qup] at *; omega) | (simp [zR, qup]; omega) | (simp [zR, qup]; done)))) rfl (by first | decide | omega) (Nat.le_of_ble_eq_true rfl) (Nat.le_of_ble_eq_true rfl) (qk_e ?_)
    refine q_if_ne (tgt := 21) dX8_save_14 rfl (by exact zb_R _) (fun h14 => ?_) (fun h14 => ?_)
    ·
      refine q_iconst dX8_save_21 ?_
      refine q_iconst dX8_save_22 ?_
      have hgb : (if (0 : Int) = 1 then (2 : Int) else 0) = gSlot s := (if_pos (by have := zb_1.1 (show zb (0 ≤ s ∧ s ≤ 1) = 1 by omega); omega)).symm
      refine q_V2 dX8_save_23 ml_8_64 md_X8_refuse (m_refH (by omega) (mT_R M) (by (first | (unfold zR; omega) | (unfold zLR; omega) | omega | (simp only [zR, qup] at *; omega) | (simp [zR, qup]; omega) | (simp [zR, qup]; done))) hgb) rfl rfl rfl (by first | decide | omega) (Nat.le_of_ble_eq_true rfl) (Nat.le_of_ble_eq_true rfl) (qk_e ?_)
      refine q_if_eq (tgt := 31) dX8_save_26 rfl (by exact zb_R _) (fun h26 => ?_) (fun h26 => ?_)
      ·
        have hg := zbz h26
        have hg2 := gor_00.1 hg
        have hsl := gSlot_0.1 hg2.2
        rw [hg]
        have hM2 : MI (qup (kpW (qup M 37 0 0) (8 + s) 1536) 41 s 1) := MI_sv (MI_g hM 0) (by omega)
        have e37 : ∀ j : Int, j ≠ 0 → qup (kpW (qup M 37 0 0) (8 + s) 1536) 41 s 1 37 j = M 37 j := fun j h => by
          rw [qup_o _ _ _ _ (by decide)]
          unfold kpW
          rw [if_neg (fun w => by have := w.1; omega), qup_k _ _ _ h]
        have hsc : ∀ r, scl (qup (kpW (qup M 37 0 0) (8 + s) 1536) 41 s 1) r = scl M r := fun r => by
          funext j
          unfold scl
          rw [qup_o _ _ _ _ (by decide)]
          unfold kpW
          rw [if_neg (fun w => by have := w.1; omega), qup_o _ _ _ _ (by decide)]
        refine q_aload_n dX8_save_31 rfl ?_
        refine q_bipush dX8_save_32 rfl ?_
        refine q_iload_n dX8_save_34 rfl ?_
        refine q_iadd dX8_save_35 ?_
        refine q_V1 dX8_save_36 ml_8_387 md_X8_keeps (m_keeps (by omega)) rfl rfl rfl (by first | decide | omega) (Nat.le_of_ble_eq_true rfl) (Nat.le_of_ble_eq_true rfl) (qk_v ?_)
        refine q_aload_n dX8_save_39 rfl ?_
        refine q_getr dX8_save_40 fl_8_19 rfl rfl ?_
        refine q_iload_n dX8_save_43 rfl ?_
        refine q_iconst dX8_save_44 ?_
        refine q_zast dX8_save_45 rfl (by (first | (unfold zR; omega) | (unfold zLR; omega) | omega | (simp only [zR, qup] at *; omega) | (simp [zR, qup]; omega) | (simp [zR, qup]; done))) (Nat.le_of_ble_eq_true rfl) (by exact Or.inr rfl) ?_
        refine q_aload_n dX8_save_46 rfl ?_
        refine q_V0 dX8_save_47 ml_8_289 md_X8_allBytes (m_allBytes hM2 (by rw [e37 2 (by decide)]; exact hL)) rfl rfl rfl (by first | decide | omega) (Nat.le_of_ble_eq_true rfl) (Nat.le_of_ble_eq_true rfl) (qk_g (fun z47 N47 hq47 => ?_))
        obtain ⟨hz, hS⟩ := hq47
        rw [e37 3 (by decide)] at hz
        rw [show (fun k => tsz (scl (qup (kpW (qup M 37 0 0) (8 + s) 1536) 41 s 1) k) L 0) = fun k => tsz (scl M k) L 0 by funext k; rw [hsc]] at hz
        refine q_ireturn dX8_save_50 ?_
        exact mpx_k rfl ⟨hz, hS⟩
      ·
        refine q_iconst dX8_save_29 ?_
        refine q_ireturn dX8_save_30 ?_
        exact mpx_g (zbn h26)
    ·
      refine q_iconst dX8_save_17 ?_
      refine q_goto (tgt := 22) dX8_save_18 rfl ?_
      refine q_iconst dX8_save_22 ?_
      have hgb : (if (1 : Int) = 1 then (2 : Int) else 0) = gSlot s := (if_neg (by have := zb_0.1 (show zb (0 ≤ s ∧ s ≤ 1) = 0 by omega); omega)).symm
      refine q_V2 dX8_save_23 ml_8_64 md_X8_refuse (m_refH (by omega) (mT_R M) (by (first | (unfold zR; omega) | (unfold zLR; omega) | omega | (simp only [zR, qup] at *; omega) | (simp [zR, qup]; omega) | (simp [zR, qup]; done))) hgb) rfl rfl rfl (by first | decide | omega) (Nat.le_of_ble_eq_true rfl) (Nat.le_of_ble_eq_true rfl) (qk_e ?_)
      refine q_if_eq (tgt := 31) dX8_save_26 rfl (by exact zb_R _) (fun h26 => ?_) (fun h26 => ?_)
      ·
        have hg := zbz h26
        have hg2 := gor_00.1 hg
        have hsl := gSlot_0.1 hg2.2
        rw [hg]
        have hM2 : MI (qup (kpW (qup M 37 0 0) (8 + s) 1536) 41 s 1) := MI_sv (MI_g hM 0) (by omega)
        have e37 : ∀ j : Int, j ≠ 0 → qup (kpW (qup M 37 0 0) (8 + s) 1536) 41 s 1 37 j = M 37 j := fun j h => by
          rw [qup_o _ _ _ _ (by decide)]
          unfold kpW
          rw [if_neg (fun w => by have := w.1; omega), qup_k _ _ _ h]
        have hsc : ∀ r, scl (qup (kpW (qup M 37 0 0) (8 + s) 1536) 41 s 1) r = scl M r := fun r => by
          funext j
          unfold scl
          rw [qup_o _ _ _ _ (by decide)]
          unfold kpW
          rw [if_neg (fun w => by have := w.1; omega), qup_o _ _ _ _ (by decide)]
        refine q_aload_n dX8_save_31 rfl ?_
        refine q_bipush dX8_save_32 rfl ?_
        refine q_iload_n dX8_save_34 rfl ?_
        refine q_iadd dX8_save_35 ?_
        refine q_V1 dX8_save_36 ml_8_387 md_X8_keeps (m_keeps (by omega)) rfl rfl rfl (by first | decide | omega) (Nat.le_of_ble_eq_true rfl) (Nat.le_of_ble_eq_true rfl) (qk_v ?_)
        refine q_aload_n dX8_save_39 rfl ?_
        refine q_getr dX8_save_40 fl_8_19 rfl rfl ?_
        refine q_iload_n dX8_save_43 rfl ?_
        refine q_iconst dX8_save_44 ?_
        refine q_zast dX8_save_45 rfl (by (first | (unfold zR; omega) | (unfold zLR; omega) | omega | (simp only [zR, qup] at *; omega) | (simp [zR, qup]; omega) | (simp [zR, qup]; done))) (Nat.le_of_ble_eq_true rfl) (by exact Or.inr rfl) ?_
        refine q_aload_n dX8_save_46 rfl ?_
        refine q_V0 dX8_save_47 ml_8_289 md_X8_allBytes (m_allBytes hM2 (by rw [e37 2 (by decide)]; exact hL)) rfl rfl rfl (by first | decide | omega) (Nat.le_of_ble_eq_true rfl) (Nat.le_of_ble_eq_true rfl) (qk_g (fun z47 N47 hq47 => ?_))
        obtain ⟨hz, hS⟩ := hq47
        rw [e37 3 (by decide)] at hz
        rw [show (fun k => tsz (scl (qup (kpW (qup M 37 0 0) (8 + s) 1536) 41 s 1) k) L 0) = fun k => tsz (scl M k) L 0 by funext k; rw [hsc]] at hz
        refine q_ireturn dX8_save_50 ?_
        exact mpx_k rfl ⟨hz, hS⟩
      ·
        refine q_iconst dX8_save_29 ?_
        refine q_ireturn dX8_save_30 ?_
        exact mpx_g (zbn h26)
end ND


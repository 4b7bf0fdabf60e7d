/-! The model: cheapest. -/
section NC
variable {M N : qM} {L l : Nat} {k o x y a b v p q f t n g i : Int}
set_option maxHeartbeats 4000000 in
theorem o_cheapest (hM : MI M) (hL : M 37 2 = (L : Int)) : qCt mX8_cheapest 0 9 [.ref 37] M (mpx (mT M) (fun z M' => z = bst (fun k => tsz (scl M k) L 0) (-1) 0 (M 37 3).toNat ∧ MS (qup M 37 0 0) M') M) := by
  have hL4 : L ≤ 4 := by have := hM.2.1; omega
  have hmp := hM.2.2.2.1
  have ht2 := tmax_in L hL4
  have e2 : ∀ j : Int, j ≠ 0 → qup M 37 0 0 37 j = M 37 j := fun j h => qup_k _ _ _ h
  refine q_intro (own := 8) (L := [some (.ref 37), none, none, none]) md_X8_cheapest rfl rfl rfl (Nat.le_of_ble_eq_true rfl) (fun X => ?_)
  refine q_aload_n dX8_cheapest_0 rfl ?_
  refine q_V0 dX8_cheapest_1 ml_8_75 md_X8_noMaps (m_noMapsT hM.1) rfl rfl rfl (by first | decide | omega) (Nat.le_of_ble_eq_true rfl) (Nat.le_of_ble_eq_true rfl) (qk_e ?_)
  refine q_if_eq (tgt := 9) dX8_cheapest_4 rfl (by exact zb_R _) (fun h4 => ?_) (fun h4 => ?_)
  ·
    have hg := zbz h4
    rw [hg]
    refine q_iconst dX8_cheapest_9 ?_
    refine q_istore_n dX8_cheapest_10 (Nat.le_of_ble_eq_true rfl) rfl ?_
    refine q_iconst dX8_cheapest_11 ?_
    refine q_istore_n dX8_cheapest_12 (Nat.le_of_ble_eq_true rfl) rfl ?_
    refine q_iconst dX8_cheapest_13 ?_
    refine q_istore_n dX8_cheapest_14 (Nat.le_of_ble_eq_true rfl) rfl ?_
    refine q_lp (α := Nat × qM) (fun x => (M 37 3).toNat - x.1) (fun x => (x.1 : Int) ≤ M 37 3 ∧ MS (qup M 37 0 0) x.2) (fun x => [some (.ref 37), some (.int (zI (bst (fun k => tsz (scl M k) L 0) (-1) 0 x.1))), some (.int (zI (if bst (fun k => tsz (scl M k) L 0) (-1) 0 x.1 = -1 then 0 else tsz (scl M (bst (fun k => tsz (scl M k) L 0) (-1) 0 x.1)) L 0))), some (.int (zI (x.1 : Int)))]) (fun x => x.2) (0, qup M 37 0 0) rfl rfl ⟨by dsimp only; omega, MS_rf _⟩ (fun x hx ih => ?_)
    obtain ⟨i, M1⟩ := x
    obtain ⟨hi1, hS⟩ := hx
    dsimp only at hi1 hS ih ⊢
    have hb := bst_in (fun k => tsz (scl M k) L 0) (-1) (Int.le_refl 0) i
    have hbs : bst (fun k => tsz (scl M k) L 0) (-1) 0 (i + 1) = if (0 : Int) + i ≠ -1 ∧ (bst (fun k => tsz (scl M k) L 0) (-1) 0 i = -1 ∨ tsz (scl M (0 + i)) L 0 < tsz (scl M (bst (fun k => tsz (scl M k) L 0) (-1) 0 i)) L 0) then 0 + (i : Int) else bst (fun k => tsz (scl M k) L 0) (-1) 0 i := rfl
    rw [Int.zero_add] at hbs
    generalize hgw : bst (fun k => tsz (scl M k) L 0) (-1) 0 i = w at hb hbs
    have hti := tsz_in (scl M i) L 0
    have htw := tsz_in (scl M w) L 0
    have e9 : (if (i : Int) = -1 then 0 else tsz (scl M i) L 0) = tsz (scl M i) L 0 := if_neg (by omega)
    have hiw : 0 ≤ (if w = -1 then 0 else tsz (scl M w) L 0) ∧ (if w = -1 then 0 else tsz (scl M w) L 0) ≤ 341 := by
      by_cases e : w = -1
      · rw [if_pos e]; omega
      · rw [if_neg e]; omega
    have hMI := MS_MI hS (MI_g hM 0)
    have hsc : ∀ r, scl M1 r = scl M r := fun r => (MS_scl hS r).trans scl_g
    refine q_iload_n dX8_cheapest_15 rfl ?_
    refine q_aload_n dX8_cheapest_16 rfl ?_
    refine q_geti (j := 3) dX8_cheapest_17 fl_8_68 rfl rfl rfl ?_
    rw [hS.2 3 (by omega), e2 3 (by decide)]
    refine q_icmp_ge (tgt := 67) dX8_cheapest_20 rfl (by (first | (unfold zR; omega) | (unfold zLR; omega) | omega | (simp only [zR, qup] at *; omega) | (simp [zR, qup]; omega) | (simp [zR, qup]; done))) (by (first | (unfold zR; omega) | (unfold zLR; omega) | omega | (simp only [zR, qup] at *; omega) | (simp [zR, qup]; omega) | (simp [zR, qup]; done))) (fun h20 => ?_) (fun h20 => ?_)
    rotate_left
    ·
      refine q_aload_n dX8_cheapest_23 rfl ?_
      refine q_iload_n dX8_cheapest_24 rfl ?_
      refine q_V1 dX8_cheapest_25 ml_8_286 md_X8_fetchesTree (m_fetchesTreeN hMI (by rw [hS.2 2 (by omega), e2 2 (by decide)]; exact hL) (by omega)) rfl rfl rfl (by first | decide | omega) (Nat.le_of_ble_eq_true rfl) (Nat.le_of_ble_eq_true rfl) (qk_h (fun N25 hq25 => ?_))
      obtain ⟨Tq, Kq, Fq, Sq, rfl, hm⟩ := hq25
      have hS2 := MS_tr hS (MS_ft M1 L i Tq Kq Fq Sq (tsz (scl M1 i) L 0))
      rw [hsc] at hS2 ⊢
      refine q_iload_n dX8_cheapest_28 rfl ?_
      refine q_iconst dX8_cheapest_29 ?_
      refine q_icmp_eq (tgt := 41) dX8_cheapest_30 rfl (by (first | (unfold zR; omega) | (unfold zLR; omega) | omega | (simp only [zR, qup] at *; omega) | (simp [zR, qup]; omega) | (simp [zR, qup]; done))) (by (first | (unfold zR; omega) | (unfold zLR; omega) | omega | (simp only [zR, qup] at *; omega) | (simp [zR, qup]; omega) | (simp [zR, qup]; done))) (fun h30 => ?_) (fun h30 => ?_)
      ·
        refine q_iload_n dX8_cheapest_41 rfl ?_
        refine q_goto (tgt := 46) dX8_cheapest_42 rfl ?_
        refine q_istore_n dX8_cheapest_46 (Nat.le_of_ble_eq_true rfl) rfl ?_
        refine q_iload_n dX8_cheapest_47 rfl ?_
        refine q_iload_n dX8_cheapest_48 rfl ?_
        refine q_icmp_ne (tgt := 59) dX8_cheapest_49 rfl (by (first | (unfold zR; omega) | (unfold zLR; omega) | omega | (simp only [zR, qup] at *; omega) | (simp [zR, qup]; omega) | (simp [zR, qup]; done))) (by (first | (unfold zR; omega) | (unfold zLR; omega) | omega | (simp only [zR, qup] at *; omega) | (simp [zR, qup]; omega) | (simp [zR, qup]; done))) (fun h49 => ?_) (fun h49 => ?_)
        ·
          refine q_iload_n dX8_cheapest_59 rfl ?_
          refine q_istore_n dX8_cheapest_60 (Nat.le_of_ble_eq_true rfl) rfl ?_
          refine q_iinc dX8_cheapest_61 rfl (Nat.le_of_ble_eq_true rfl) rfl ?_
          refine q_goto (tgt := 15) dX8_cheapest_64 rfl ?_
          exact absurd rfl h49
        ·
          refine q_aload_n dX8_cheapest_52 rfl ?_
          refine q_geti (j := 12) dX8_cheapest_53 fl_8_101 rfl rfl rfl ?_
          rw [mtw_12]
          refine q_goto (tgt := 60) dX8_cheapest_56 rfl ?_
          refine q_istore_n dX8_cheapest_60 (Nat.le_of_ble_eq_true rfl) rfl ?_
          refine q_iinc dX8_cheapest_61 rfl (Nat.le_of_ble_eq_true rfl) rfl ?_
          refine q_goto (tgt := 15) dX8_cheapest_64 rfl ?_
          have e1 : bst (fun k => tsz (scl M k) L 0) (-1) 0 (i + 1) = i := by rw [hbs, if_pos ⟨by omega, Or.inl h30⟩]
          exact ih (i + 1, mtw (fW M1 (M1 37 0) L i) Tq Kq Fq Sq (tsz (scl M i) L 0)) _ _ ⟨by dsimp only; omega, hS2⟩ (by dsimp only; omega) (by dsimp only; rw [e1, e9]; rfl) rfl
      ·
        refine q_aload_n dX8_cheapest_33 rfl ?_
        refine q_geti (j := 12) dX8_cheapest_34 fl_8_101 rfl rfl rfl ?_
        rw [mtw_12]
        refine q_iload_n dX8_cheapest_37 rfl ?_
        refine q_icmp_ge (tgt := 45) dX8_cheapest_38 rfl (by (first | (unfold zR; omega) | (unfold zLR; omega) | omega | (simp only [zR, qup] at *; omega) | (simp [zR, qup]; omega) | (simp [zR, qup]; done))) (by (first | (unfold zR; omega) | (unfold zLR; omega) | omega | (simp only [zR, qup] at *; omega) | (simp [zR, qup]; omega) | (simp [zR, qup]; done))) (fun h38 => ?_) (fun h38 => ?_)
        ·
          refine q_iload_n dX8_cheapest_45 rfl ?_
          refine q_istore_n dX8_cheapest_46 (Nat.le_of_ble_eq_true rfl) rfl ?_
          refine q_iload_n dX8_cheapest_47 rfl ?_
          refine q_iload_n dX8_cheapest_48 rfl ?_
          refine q_icmp_ne (tgt := 59) dX8_cheapest_49 rfl (by (first | (unfold zR; omega) | (unfold zLR; omega) | omega | (simp only [zR, qup] at *; omega) | (simp [zR, qup]; omega) | (simp [zR, qup]; done))) (by (first | (unfold zR; omega) | (unfold zLR; omega) | omega | (simp only [zR, qup] at *; omega) | (simp [zR, qup]; omega) | (simp [zR, qup]; done))) (fun h49 => ?_) (fun h49 => ?_)
          ·
            refine q_iload_n dX8_cheapest_59 rfl ?_
            refine q_istore_n dX8_cheapest_60 (Nat.le_of_ble_eq_true rfl) rfl ?_
            refine q_iinc dX8_cheapest_61 rfl (Nat.le_of_ble_eq_true rfl) rfl ?_
            refine q_goto (tgt := 15) dX8_cheapest_64 rfl ?_
            have e1 : bst (fun k => tsz (scl M k) L 0) (-1) 0 (i + 1) = w := by rw [hbs, if_neg (fun q => q.2.elim (fun q => h30 q) (fun q => by rw [if_neg h30] at h38; omega))]
            exact ih (i + 1, mtw (fW M1 (M1 37 0) L i) Tq Kq Fq Sq (tsz (scl M i) L 0)) _ _ ⟨by dsimp only; omega, hS2⟩ (by dsimp only; omega) (by dsimp only; rw [e1]; rfl) rfl
          ·
            refine q_aload_n dX8_cheapest_52 rfl ?_
            refine q_geti (j := 12) dX8_cheapest_53 fl_8_101 rfl rfl rfl ?_
            rw [mtw_12]
            refine q_goto (tgt := 60) dX8_cheapest_56 rfl ?_
            refine q_istore_n dX8_cheapest_60 (Nat.le_of_ble_eq_true rfl) rfl ?_
            refine q_iinc dX8_cheapest_61 rfl (Nat.le_of_ble_eq_true rfl) rfl ?_
            refine q_goto (tgt := 15) dX8_cheapest_64 rfl ?_
            exfalso
            omega
        ·
          refine q_iload_n dX8_cheapest_41 rfl ?_
          refine q_goto (tgt := 46) dX8_cheapest_42 rfl ?_
          refine q_istore_n dX8_cheapest_46 (Nat.le_of_ble_eq_true rfl) rfl ?_
          refine q_iload_n dX8_cheapest_47 rfl ?_
          refine q_iload_n dX8_cheapest_48 rfl ?_
          refine q_icmp_ne (tgt := 59) dX8_cheapest_49 rfl (by (first | (unfold zR; omega) | (unfold zLR; omega) | omega | (simp only [zR, qup] at *; omega) | (simp [zR, qup]; omega) | (simp [zR, qup]; done))) (by (first | (unfold zR; omega) | (unfold zLR; omega) | omega | (simp only [zR, qup] at *; omega) | (simp [zR, qup]; omega) | (simp [zR, qup]; done))) (fun h49 => ?_) (fun h49 => ?_)
          ·
            refine q_iload_n dX8_cheapest_59 rfl ?_
            refine q_istore_n dX8_cheapest_60 (Nat.le_of_ble_eq_true rfl) rfl ?_
            refine q_iinc dX8_cheapest_61 rfl (Nat.le_of_ble_eq_true rfl) rfl ?_
            refine q_goto (tgt := 15) dX8_cheapest_64 rfl ?_
            exact absurd rfl h49
          ·
            refine q_aload_n dX8_cheapest_52 rfl ?_
            refine q_geti (j := 12) dX8_cheapest_53 fl_8_101 rfl rfl rfl ?_
            rw [mtw_12]
            refine q_goto (tgt := 60) dX8_cheapest_56 rfl ?_
            refine q_istore_n dX8_cheapest_60 (Nat.le_of_ble_eq_true rfl) rfl ?_
            refine q_iinc dX8_cheapest_61 rfl (Nat.le_of_ble_eq_true rfl) rfl ?_
            refine q_goto (tgt := 15) dX8_cheapest_64 rfl ?_
            have e1 : bst (fun k => tsz (scl M k) L 0) (-1) 0 (i + 1) = i := by rw [hbs, if_pos ⟨by omega, Or.inr (by rw [if_neg h30] at h38; omega)⟩]
            exact ih (i + 1, mtw (fW M1 (M1 37 0) L i) Tq Kq Fq Sq (tsz (scl M i) L 0)) _ _ ⟨by dsimp only; omega, hS2⟩ (by dsimp only; omega) (by dsimp only; rw [e1, e9]; rfl) rfl
    refine q_iload_n dX8_cheapest_67 rfl ?_
    refine q_ireturn dX8_cheapest_68 ?_
    exact mpx_k rfl ⟨by rw [← hgw, show (M 37 3).toNat = i by omega], hS⟩
  ·
    refine q_iconst dX8_cheapest_7 ?_
    refine q_ireturn dX8_cheapest_8 ?_
    exact mpx_g (zbn h4)
end NC


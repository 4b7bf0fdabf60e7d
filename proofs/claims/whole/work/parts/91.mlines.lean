/-! The model: the lines map, fill, clear, flip, or. -/
def nmW (M : qM) (I : Int → Int) (m s e i : Int) : qM := fun o j => if o = 49 ∧ 6 * m ≤ j ∧ j < 6 * m + i then (if s + (j - 6 * m) < e then I (s + (j - 6 * m)) else 0) else M o j
def zrW (M : qM) (m i : Int) : qM := fun o j => if o = 50 ∧ 256 * m ≤ j ∧ j < 256 * m + i then 0 else M o j
theorem nmW_o {M : qM} {I : Int → Int} {m s e i : Int} {o : Nat} (h : o ≠ 49) : nmW M I m s e i o = M o := by
  funext j
  unfold nmW
  rw [if_neg (fun w => h w.1)]
theorem zrW_o {M : qM} {m i : Int} {o : Nat} (h : o ≠ 50) : zrW M m i o = M o := by
  funext j
  unfold zrW
  rw [if_neg (fun w => h w.1)]
theorem nmW_MS (M : qM) (I : Int → Int) (m s e i : Int) : MS M (nmW M I m s e i) := ⟨fun o _ _ _ _ _ _ _ h _ => nmW_o h, fun k _ => by rw [nmW_o (by decide)]⟩
theorem zrW_MS (M : qM) (m i : Int) : MS M (zrW M m i) := ⟨fun o _ _ _ _ _ _ _ _ h => zrW_o h, fun k _ => by rw [zrW_o (by decide)]⟩
section MLN
variable {M M0 : qM} {I : Int → Int} {n Lq c q b k : Int} {L : Nat} {σ : qσ} {e : Int × Int}
/-- a map more -/
theorem PS_map (h : PS M0 I n Lq σ M) (hm : σ.2.1 < 6) (hw : tK I n σ.1 = 1) : PS M0 I n Lq (σ.1, σ.2.1 + 1, fup σ.2.2.1 σ.2.1 (tV I n σ.1), fun k => if k = σ.2.1 then fun _ => 0 else σ.2.2.2 k) (qup (zrW (nmW M I σ.2.1 (tS I n σ.1) (tE I n σ.1) 6) σ.2.1 256) 37 31 (σ.2.1 + 1)) := by
  obtain ⟨a1, a2, a3, a4, a5, a6, a7, a8, a9, a10, a11, a12, a13, a14, a15, a16, a17⟩ := h
  obtain ⟨w1, w2, w3⟩ := word_tok a6.2 hw
  have e37 : ∀ j : Int, j ≠ 31 → qup (zrW (nmW M I σ.2.1 (tS I n σ.1) (tE I n σ.1) 6) σ.2.1 256) 37 31 (σ.2.1 + 1) 37 j = M 37 j := fun j h => by rw [qup_k _ _ _ h, zrW_o (by decide), nmW_o (by decide)]
  have e48 : qup (zrW (nmW M I σ.2.1 (tS I n σ.1) (tE I n σ.1) 6) σ.2.1 256) 37 31 (σ.2.1 + 1) 48 = M 48 := by funext j; rw [qup_o _ _ _ _ (by decide), zrW_o (by decide), nmW_o (by decide)]
  have e49 : ∀ j, qup (zrW (nmW M I σ.2.1 (tS I n σ.1) (tE I n σ.1) 6) σ.2.1 256) 37 31 (σ.2.1 + 1) 49 j = if 6 * σ.2.1 ≤ j ∧ j < 6 * σ.2.1 + 6 then (if tS I n σ.1 + (j - 6 * σ.2.1) < tE I n σ.1 then I (tS I n σ.1 + (j - 6 * σ.2.1)) else 0) else M 49 j := fun j => by
    rw [qup_o _ _ _ _ (by decide), zrW_o (by decide)]
    unfold nmW
    by_cases g : 6 * σ.2.1 ≤ j ∧ j < 6 * σ.2.1 + 6
    · rw [if_pos ⟨rfl, g⟩, if_pos g]
    · rw [if_neg (fun w => g w.2), if_neg g]
  have e50 : ∀ j, qup (zrW (nmW M I σ.2.1 (tS I n σ.1) (tE I n σ.1) 6) σ.2.1 256) 37 31 (σ.2.1 + 1) 50 j = if 256 * σ.2.1 ≤ j ∧ j < 256 * σ.2.1 + 256 then 0 else M 50 j := fun j => by
    rw [qup_o _ _ _ _ (by decide)]
    unfold zrW
    by_cases g : 256 * σ.2.1 ≤ j ∧ j < 256 * σ.2.1 + 256
    · rw [if_pos ⟨rfl, g⟩, if_pos g]
    · rw [if_neg (fun w => g w.2), if_neg g, nmW_o (by decide)]
  refine ⟨MS_up (MS_tr (MS_tr a1 (nmW_MS _ _ _ _ _ _)) (zrW_MS _ _ _)) (by omega), ⟨a2.1, a2.2.1, fun i i0 i1 => by rw [e48]; exact a2.2.2 i i0 i1⟩, by rw [e37 _ (by decide)]; exact a3, by rw [e37 _ (by decide)]; exact a4, by rw [e37 _ (by decide)]; exact a5, a6, by rw [e37 _ (by decide)]; exact a7, by rw [e37 _ (by decide)]; exact a8, by rw [e37 _ (by decide)]; exact a9, fun h => by rw [e37 _ (by decide)]; exact a10 h, fun h => by rw [e37 _ (by decide)]; exact a11 h, qup_s _ _ _ _, ⟨by dsimp only; omega, by dsimp only; omega⟩, fun k k0 k1 => ?_, fun i i0 i1 => ?_, fun k i k0 k1 i0 i1 => ?_, fun k i k0 k1 i0 i1 => ?_⟩
  · dsimp only at k1
    show nmR (fun j => qup (zrW (nmW M I σ.2.1 (tS I n σ.1) (tE I n σ.1) 6) σ.2.1 256) 37 31 (σ.2.1 + 1) 49 (6 * k + j)) (fup σ.2.2.1 σ.2.1 (tV I n σ.1) k)
    by_cases g : k = σ.2.1
    · subst g
      rw [fup_s, w3]
      refine ⟨fun j => I (tS I n σ.1 + j), (tE I n σ.1 - tS I n σ.1).toNat, by omega, by omega, fun j hj => w2 _ (by omega) (by omega), wc_cg _ (fun j hj => by rw [Int.zero_add]), fun j j0 j1 => ?_⟩
      dsimp only
      rw [e49, if_pos (by omega), show 6 * σ.2.1 + j - 6 * σ.2.1 = j by omega]
      by_cases g2 : tS I n σ.1 + j < tE I n σ.1
      · rw [if_pos g2, if_pos (by omega)]
      · rw [if_neg g2, if_neg (by omega)]
    · rw [fup_n _ g]
      obtain ⟨J, len, q1, q2, q3, q4, q5⟩ := a14 k k0 (by omega)
      exact ⟨J, len, q1, q2, q3, q4, fun j j0 j1 => by dsimp only; rw [e49, if_neg (by omega)]; exact q5 j j0 j1⟩
  · dsimp only at i1
    rw [e50]
    by_cases g : 256 * σ.2.1 ≤ i ∧ i < 256 * σ.2.1 + 256
    · rw [if_pos g]; omega
    · rw [if_neg g]; exact a15 i i0 (by omega)
  · dsimp only at k1
    have hp4 := p4_in Lq
    rw [e50]
    dsimp only
    by_cases g : k = σ.2.1
    · subst g; rw [if_pos (by omega), if_pos rfl]
    · rw [if_neg (by omega), if_neg g]; exact a16 k i k0 (by omega) i0 i1
  · dsimp only at k1
    rw [e50]
    by_cases g : k = σ.2.1
    · subst g
      have hp4 := p4_in Lq
      rw [if_pos (by omega)]
    · have hp4 := p4_in Lq
      rw [if_neg (by omega)]; exact a17 k i k0 (by omega) i0 i1
set_option maxHeartbeats 2000000 in
theorem m_mapLine (h : PS M0 I n Lq σ M) : qCt mX8_mapLine 0 3 [.ref 37] M (qph (XS M0 I n Lq (lnMap I n σ))) := by
  obtain ⟨a1, a2, a3, a4, a5, a6, a7, a8, a9, a10, a11, a12, a13, a14⟩ := id h
  refine q_intro (own := 8) (L := [some (.ref 37), none]) md_X8_mapLine rfl rfl rfl (Nat.le_of_ble_eq_true rfl) (fun X => ?_)
  refine q_aload_n dX8_mapLine_0 rfl ?_
  refine q_aload_n dX8_mapLine_1 rfl ?_
  refine q_geti (j := 31) dX8_mapLine_2 fl_8_208 rfl rfl rfl ?_
  refine q_bipush dX8_mapLine_5 rfl ?_
  rw [a12]
  refine q_icmp_ne (tgt := 14) dX8_mapLine_7 rfl (by (first | (unfold zR; omega) | (unfold zLR; omega) | omega | (simp only [zR, qup] at *; omega) | (simp [zR, qup]; omega) | (simp [zR, qup]; done))) (by (first | (unfold zR; omega) | (unfold zLR; omega) | omega | (simp only [zR, qup] at *; omega) | (simp [zR, qup]; omega) | (simp [zR, qup]; done))) (fun h7 => ?_) (fun h7 => ?_)
  ·
    refine q_iconst dX8_mapLine_14 ?_
    refine q_iconst dX8_mapLine_15 ?_
    have hn6 : ¬ 6 ≤ σ.2.1 := by omega
    refine q_V2 dX8_mapLine_16 ml_8_215 md_X8_failsIf m_failsIf0 rfl rfl rfl (by first | decide | omega) (Nat.le_of_ble_eq_true rfl) (Nat.le_of_ble_eq_true rfl) (qk_v ?_)
    refine q_aload_n dX8_mapLine_19 rfl ?_
    refine q_V0 dX8_mapLine_20 ml_8_205 md_X8_goesOn (m_goesOnP h) rfl rfl rfl (by first | decide | omega) (Nat.le_of_ble_eq_true rfl) (Nat.le_of_ble_eq_true rfl) (qk_h (fun N20 hq20 => ?_))
    obtain ⟨b1, b2, b3, b4, b5, b6, b7, b8, b9, b10, b11, b12, b13, b14, b15⟩ := id hq20
    have hkb := tK_in I n (tE I n σ.1)
    have hn7 : n ≤ 700 := b2.2.1
    have hln : lnMap I n σ = if tK I n (tE I n σ.1) ≠ 1 then flS I n 1 (tE I n σ.1) else if mn σ.2.2.1 (tV I n (tE I n σ.1)) σ.2.1.toNat ≠ -1 then flS I n 3 (tE I n σ.1) else .inr (tE I n (tE I n σ.1), σ.2.1 + 1, fup σ.2.2.1 σ.2.1 (tV I n (tE I n σ.1)), fun k => if k = σ.2.1 then fun _ => 0 else σ.2.2.2 k) := by unfold lnMap; rw [if_neg hn6]
    have hE2 := tE_in (I := I) b6.2
    have hS2 := tS_in (I := I) b6.2
    dsimp only at b6 b7 b8 b9 b10 b12 b13 b14 b15 hE2 hS2
    refine q_aload_n dX8_mapLine_23 rfl ?_
    refine q_aload_n dX8_mapLine_24 rfl ?_
    refine q_geti (j := 27) dX8_mapLine_25 fl_8_170 rfl rfl rfl ?_
    refine q_iconst dX8_mapLine_28 ?_
    rw [b9]
    refine q_icmp_eq (tgt := 36) dX8_mapLine_29 rfl (by (first | (unfold zR; omega) | (unfold zLR; omega) | omega | (simp only [zR, qup] at *; omega) | (simp [zR, qup]; omega) | (simp [zR, qup]; done))) (by (first | (unfold zR; omega) | (unfold zLR; omega) | omega | (simp only [zR, qup] at *; omega) | (simp [zR, qup]; omega) | (simp [zR, qup]; done))) (fun h29 => ?_) (fun h29 => ?_)
    ·
      refine q_iconst dX8_mapLine_36 ?_
      refine q_iconst dX8_mapLine_37 ?_
      obtain ⟨w1, w2, w3⟩ := word_tok b6.2 h29
      have hmn := mn_in σ.2.2.1 (tV I n (tE I n σ.1)) σ.2.1.toNat
      rw [if_neg (fun g => g h29)] at hln
      refine q_V2 dX8_mapLine_38 ml_8_215 md_X8_failsIf m_failsIf0 rfl rfl rfl (by first | decide | omega) (Nat.le_of_ble_eq_true rfl) (Nat.le_of_ble_eq_true rfl) (qk_v ?_)
      refine q_aload_n dX8_mapLine_41 rfl ?_
      refine q_aload_n dX8_mapLine_42 rfl ?_
      refine q_geti (j := 29) dX8_mapLine_43 fl_8_182 rfl rfl rfl ?_
      rw [b5]
      refine q_if_ne (tgt := 61) dX8_mapLine_46 rfl (by (first | (unfold zR; omega) | (unfold zLR; omega) | omega | (simp only [zR, qup] at *; omega) | (simp [zR, qup]; omega) | (simp [zR, qup]; done))) (fun h46 => absurd h46 (by exact fun g => g rfl)) (fun h46 => ?_)
      refine q_aload_n dX8_mapLine_49 rfl ?_
      refine q_V0 dX8_mapLine_50 ml_8_219 md_X8_named (m_named (N := σ.2.2.1) b2 b12 b13 b8 b7 ⟨by omega, by omega⟩ w1 w2 b14) rfl rfl rfl (by first | decide | omega) (Nat.le_of_ble_eq_true rfl) (Nat.le_of_ble_eq_true rfl) (qk_e ?_)
      rw [← w3]
      refine q_iconst dX8_mapLine_53 ?_
      refine q_icmp_eq (tgt := 61) dX8_mapLine_54 rfl (by (first | (unfold zR; omega) | (unfold zLR; omega) | omega | (simp only [zR, qup] at *; omega) | (simp [zR, qup]; omega) | (simp [zR, qup]; done))) (by (first | (unfold zR; omega) | (unfold zLR; omega) | omega | (simp only [zR, qup] at *; omega) | (simp [zR, qup]; omega) | (simp [zR, qup]; done))) (fun h54 => ?_) (fun h54 => ?_)
      ·
        refine q_iconst dX8_mapLine_61 ?_
        refine q_iconst dX8_mapLine_62 ?_
        rw [if_neg (fun g => g h54)] at hln
        refine q_V2 dX8_mapLine_63 ml_8_215 md_X8_failsIf m_failsIf0 rfl rfl rfl (by first | decide | omega) (Nat.le_of_ble_eq_true rfl) (Nat.le_of_ble_eq_true rfl) (qk_v ?_)
        refine q_aload_n dX8_mapLine_66 rfl ?_
        refine q_geti (j := 29) dX8_mapLine_67 fl_8_182 rfl rfl rfl ?_
        rw [b5]
        refine q_if_ne (tgt := 169) dX8_mapLine_70 rfl (by (first | (unfold zR; omega) | (unfold zLR; omega) | omega | (simp only [zR, qup] at *; omega) | (simp [zR, qup]; omega) | (simp [zR, qup]; done))) (fun h70 => absurd h70 (by exact fun g => g rfl)) (fun h70 => ?_)
        refine q_iconst dX8_mapLine_73 ?_
        refine q_istore_n dX8_mapLine_74 (Nat.le_of_ble_eq_true rfl) rfl ?_
        refine q_lp (fun i : Int => (6 - i).toNat) (fun i => 0 ≤ i ∧ i ≤ 6) (fun i => [some (.ref 37), some (.int (zI i))]) (fun i => nmW N20 I σ.2.1 (tS I n (tE I n σ.1)) (tE I n (tE I n σ.1)) i) 0 rfl (by funext u j; unfold nmW; rw [if_neg (by omega)]) ⟨by omega, by omega⟩ (fun i hi ih => ?_)
        have e37 : ∀ j, nmW N20 I σ.2.1 (tS I n (tE I n σ.1)) (tE I n (tE I n σ.1)) i 37 j = N20 37 j := fun j => by rw [nmW_o (by decide)]
        have hnx : ∀ v, v = (if tS I n (tE I n σ.1) + i < tE I n (tE I n σ.1) then I (tS I n (tE I n σ.1) + i) else 0) → qup (nmW N20 I σ.2.1 (tS I n (tE I n σ.1)) (tE I n (tE I n σ.1)) i) 49 (6 * σ.2.1 + i) v = nmW N20 I σ.2.1 (tS I n (tE I n σ.1)) (tE I n (tE I n σ.1)) (i + 1) := fun v hv => by
          funext u j
          unfold nmW
          by_cases g : u = 49
          · subst g
            by_cases g2 : j = 6 * σ.2.1 + i
            · subst g2
              rw [qup_s, if_pos ⟨rfl, by omega, by omega⟩, hv, show 6 * σ.2.1 + i - 6 * σ.2.1 = i by omega]
            · rw [qup_k _ _ _ g2]
              by_cases g3 : 6 * σ.2.1 ≤ j ∧ j < 6 * σ.2.1 + i
              · rw [if_pos ⟨rfl, g3⟩, if_pos (show (49 : Nat) = 49 ∧ 6 * σ.2.1 ≤ j ∧ j < 6 * σ.2.1 + (i + 1) from ⟨rfl, g3.1, by omega⟩)]
              · rw [if_neg (fun w => g3 w.2), if_neg (by omega)]
          · rw [qup_o _ _ _ _ g, if_neg (fun w => g w.1), if_neg (fun w => g w.1)]
        refine q_iload_n dX8_mapLine_75 rfl ?_
        refine q_bipush dX8_mapLine_76 rfl ?_
        refine q_icmp_ge (tgt := 128) dX8_mapLine_78 rfl (by (first | (unfold zR; omega) | (unfold zLR; omega) | omega | (simp only [zR, qup] at *; omega) | (simp [zR, qup]; omega) | (simp [zR, qup]; done))) (by (first | (unfold zR; omega) | (unfold zLR; omega) | omega | (simp only [zR, qup] at *; omega) | (simp [zR, qup]; omega) | (simp [zR, qup]; done))) (fun h78 => ?_) (fun h78 => ?_)
        rotate_left
        ·
          refine q_aload_n dX8_mapLine_81 rfl ?_
          refine q_getr dX8_mapLine_82 fl_8_48 rfl rfl ?_
          refine q_bipush dX8_mapLine_85 rfl ?_
          refine q_aload_n dX8_mapLine_87 rfl ?_
          refine q_geti (j := 31) dX8_mapLine_88 fl_8_208 rfl rfl rfl ?_
          rw [e37, b12]
          refine q_imul dX8_mapLine_91 ?_
          refine q_iload_n dX8_mapLine_92 rfl ?_
          refine q_iadd dX8_mapLine_93 ?_
          refine q_aload_n dX8_mapLine_94 rfl ?_
          refine q_geti (j := 26) dX8_mapLine_95 fl_8_167 rfl rfl rfl ?_
          rw [e37, b8]
          refine q_iload_n dX8_mapLine_98 rfl ?_
          refine q_iadd dX8_mapLine_99 ?_
          refine q_aload_n dX8_mapLine_100 rfl ?_
          refine q_geti (j := 25) dX8_mapLine_101 fl_8_161 rfl rfl rfl ?_
          rw [e37, b7]
          refine q_icmp_ge (tgt := 120) dX8_mapLine_104 rfl (by (first | (unfold zR; omega) | (unfold zLR; omega) | omega | (simp only [zR, qup] at *; omega) | (simp [zR, qup]; omega) | (simp [zR, qup]; done))) (by (first | (unfold zR; omega) | (unfold zLR; omega) | omega | (simp only [zR, qup] at *; omega) | (simp [zR, qup]; omega) | (simp [zR, qup]; done))) (fun h104 => ?_) (fun h104 => ?_)
          ·
            refine q_iconst dX8_mapLine_120 ?_
            refine q_iast dX8_mapLine_121 rfl (by (first | (unfold zR; omega) | (unfold zLR; omega) | omega | (simp only [zR, qup] at *; omega) | (simp [zR, qup]; omega) | (simp [zR, qup]; done))) (Nat.le_of_ble_eq_true rfl) ?_
            rw [hnx _ (if_neg (by omega)).symm]
            refine q_iinc dX8_mapLine_122 rfl (Nat.le_of_ble_eq_true rfl) rfl ?_
            refine q_goto (tgt := 75) dX8_mapLine_125 rfl ?_
            exact ih (i + 1) _ _ ⟨by omega, by omega⟩ (by omega) rfl rfl
          ·
            refine q_aload_n dX8_mapLine_107 rfl ?_
            refine q_aload_n dX8_mapLine_108 rfl ?_
            refine q_geti (j := 26) dX8_mapLine_109 fl_8_167 rfl rfl rfl ?_
            rw [e37, b8]
            refine q_iload_n dX8_mapLine_112 rfl ?_
            refine q_iadd dX8_mapLine_113 ?_
            refine q_V1 dX8_mapLine_114 ml_8_164 md_X8_seen (m_seen (I := I) (n := n) ⟨b2.1, b2.2.1, fun j j0 j1 => by rw [nmW_o (by decide)]; exact b2.2.2 j j0 j1⟩ (by rw [e37]; exact b3) (by omega)) rfl rfl rfl (by first | decide | omega) (Nat.le_of_ble_eq_true rfl) (Nat.le_of_ble_eq_true rfl) (qk_e ?_)
            refine q_goto (tgt := 121) dX8_mapLine_117 rfl ?_
            refine q_iast dX8_mapLine_121 rfl (by (first | (unfold zR; omega) | (unfold zLR; omega) | omega | (simp only [zR, qup] at *; omega) | (simp [zR, qup]; omega) | (simp [zR, qup]; done))) (Nat.le_of_ble_eq_true rfl) ?_
            rw [hnx _ (by rw [if_pos h104]; exact if_pos (by omega))]
            refine q_iinc dX8_mapLine_122 rfl (Nat.le_of_ble_eq_true rfl) rfl ?_
            refine q_goto (tgt := 75) dX8_mapLine_125 rfl ?_
            exact ih (i + 1) _ _ ⟨by omega, by omega⟩ (by omega) rfl rfl
        refine q_iconst dX8_mapLine_128 ?_
        refine q_istore_n dX8_mapLine_129 (Nat.le_of_ble_eq_true rfl) rfl ?_
        have hi6 : i = 6 := by omega
        subst hi6
        refine q_lp (fun i : Int => (256 - i).toNat) (fun i => 0 ≤ i ∧ i ≤ 256) (fun i => [some (.ref 37), some (.int (zI i))]) (fun i => zrW (nmW N20 I σ.2.1 (tS I n (tE I n σ.1)) (tE I n (tE I n σ.1)) 6) σ.2.1 i) 0 rfl (by funext u j; unfold zrW; rw [if_neg (by omega)]) ⟨by omega, by omega⟩ (fun i hi ih2 => ?_)
        have f37 : ∀ j, zrW (nmW N20 I σ.2.1 (tS I n (tE I n σ.1)) (tE I n (tE I n σ.1)) 6) σ.2.1 i 37 j = N20 37 j := fun j => by rw [zrW_o (by decide), nmW_o (by decide)]
        refine q_iload_n dX8_mapLine_130 rfl ?_
        refine q_sipush dX8_mapLine_131 rfl ?_
        refine q_icmp_ge (tgt := 159) dX8_mapLine_134 rfl (by (first | (unfold zR; omega) | (unfold zLR; omega) | omega | (simp only [zR, qup] at *; omega) | (simp [zR, qup]; omega) | (simp [zR, qup]; done))) (by (first | (unfold zR; omega) | (unfold zLR; omega) | omega | (simp only [zR, qup] at *; omega) | (simp [zR, qup]; omega) | (simp [zR, qup]; done))) (fun h134 => ?_) (fun h134 => ?_)
        rotate_left
        ·
          refine q_aload_n dX8_mapLine_137 rfl ?_
          refine q_getr dX8_mapLine_138 fl_8_51 rfl rfl ?_
          refine q_sipush dX8_mapLine_141 rfl ?_
          refine q_aload_n dX8_mapLine_144 rfl ?_
          refine q_geti (j := 31) dX8_mapLine_145 fl_8_208 rfl rfl rfl ?_
          rw [f37, b12]
          refine q_imul dX8_mapLine_148 ?_
          refine q_iload_n dX8_mapLine_149 rfl ?_
          refine q_iadd dX8_mapLine_150 ?_
          refine q_iconst dX8_mapLine_151 ?_
          refine q_iast dX8_mapLine_152 rfl (by (first | (unfold zR; omega) | (unfold zLR; omega) | omega | (simp only [zR, qup] at *; omega) | (simp [zR, qup]; omega) | (simp [zR, qup]; done))) (Nat.le_of_ble_eq_true rfl) ?_
          refine q_iinc dX8_mapLine_153 rfl (Nat.le_of_ble_eq_true rfl) rfl ?_
          refine q_goto (tgt := 130) dX8_mapLine_156 rfl ?_
          exact ih2 (i + 1) _ _ ⟨by omega, by omega⟩ (by omega) rfl (by
            funext u j
            unfold zrW
            by_cases g : u = 50
            · subst g
              by_cases g2 : j = 256 * σ.2.1 + i
              · subst g2; rw [qup_s, if_pos ⟨rfl, by omega, by omega⟩]
              · rw [qup_k _ _ _ g2]
                by_cases g3 : 256 * σ.2.1 ≤ j ∧ j < 256 * σ.2.1 + i
                · rw [if_pos ⟨rfl, g3⟩, if_pos ⟨rfl, g3.1, by omega⟩]
                · rw [if_neg (fun w => g3 w.2), if_neg (by omega)]
            · rw [qup_o _ _ _ _ g, if_neg (fun w => g w.1), if_neg (fun w => g w.1)])
        have hi256 : i = 256 := by omega
        subst hi256
        refine q_aload_n dX8_mapLine_159 rfl ?_
        refine q_dup dX8_mapLine_160 rfl ?_
        refine q_geti (j := 31) dX8_mapLine_161 fl_8_208 rfl rfl rfl ?_
        rw [f37, b12]
        refine q_iconst dX8_mapLine_164 ?_
        refine q_iadd dX8_mapLine_165 ?_
        refine q_puti (j := 31) dX8_mapLine_166 fl_8_208 rfl rfl rfl rfl rfl ?_
        refine q_aload_n dX8_mapLine_169 rfl ?_
        refine q_V0 dX8_mapLine_170 ml_8_205 md_X8_goesOn (m_goesOnP (PS_map hq20 (by dsimp only; omega) h29)) rfl rfl rfl (by first | decide | omega) (Nat.le_of_ble_eq_true rfl) (Nat.le_of_ble_eq_true rfl) (qk_h (fun N170 hq170 => ?_))
        refine q_return dX8_mapLine_173 ?_
        exact ⟨rfl, by rw [hln]; exact hq170⟩
      ·
        refine q_iconst dX8_mapLine_57 ?_
        refine q_goto (tgt := 62) dX8_mapLine_58 rfl ?_
        refine q_iconst dX8_mapLine_62 ?_
        rw [if_pos h54] at hln
        refine q_V2 dX8_mapLine_63 ml_8_215 md_X8_failsIf (m_failsIf1 hq20 (by decide) (by (first | (unfold zR; omega) | (unfold zLR; omega) | omega | (simp only [zR, qup] at *; omega) | (simp [zR, qup]; omega) | (simp [zR, qup]; done)))) rfl rfl rfl (by first | decide | omega) (Nat.le_of_ble_eq_true rfl) (Nat.le_of_ble_eq_true rfl) (qk_h (fun N63 hq63 => ?_))
        refine q_aload_n dX8_mapLine_66 rfl ?_
        refine q_geti (j := 29) dX8_mapLine_67 fl_8_182 rfl rfl rfl ?_
        rw [hq63.2.2.1]
        refine q_if_ne (tgt := 169) dX8_mapLine_70 rfl (by (first | (unfold zR; omega) | (unfold zLR; omega) | omega | (simp only [zR, qup] at *; omega) | (simp [zR, qup]; omega) | (simp [zR, qup]; done))) (fun h70 => ?_) (fun h70 => absurd h70 (by show ¬ (3 : Int) = 0; decide))
        refine q_aload_n dX8_mapLine_169 rfl ?_
        refine q_V0 dX8_mapLine_170 ml_8_205 md_X8_goesOn (m_goesOnF hq63) rfl rfl rfl (by first | decide | omega) (Nat.le_of_ble_eq_true rfl) (Nat.le_of_ble_eq_true rfl) (qk_h (fun N170 hq170 => ?_))
        refine q_return dX8_mapLine_173 ?_
        exact ⟨rfl, by rw [hln]; exact hq170⟩
    ·
      refine q_iconst dX8_mapLine_32 ?_
      refine q_goto (tgt := 37) dX8_mapLine_33 rfl ?_
      refine q_iconst dX8_mapLine_37 ?_
      rw [if_pos h29] at hln
      refine q_V2 dX8_mapLine_38 ml_8_215 md_X8_failsIf (m_failsIf1 hq20 (by decide) (by (first | (unfold zR; omega) | (unfold zLR; omega) | omega | (simp only [zR, qup] at *; omega) | (simp [zR, qup]; omega) | (simp [zR, qup]; done)))) rfl rfl rfl (by first | decide | omega) (Nat.le_of_ble_eq_true rfl) (Nat.le_of_ble_eq_true rfl) (qk_h (fun N38 hq38 => ?_))
      refine q_aload_n dX8_mapLine_41 rfl ?_
      refine q_aload_n dX8_mapLine_42 rfl ?_
      refine q_geti (j := 29) dX8_mapLine_43 fl_8_182 rfl rfl rfl ?_
      rw [hq38.2.2.1]
      refine q_if_ne (tgt := 61) dX8_mapLine_46 rfl (by (first | (unfold zR; omega) | (unfold zLR; omega) | omega | (simp only [zR, qup] at *; omega) | (simp [zR, qup]; omega) | (simp [zR, qup]; done))) (fun h46 => ?_) (fun h46 => absurd h46 (by show ¬ (1 : Int) = 0; decide))
      refine q_iconst dX8_mapLine_61 ?_
      refine q_iconst dX8_mapLine_62 ?_
      refine q_V2 dX8_mapLine_63 ml_8_215 md_X8_failsIf (m_failsIfF hq38 (Or.inl rfl)) rfl rfl rfl (by first | decide | omega) (Nat.le_of_ble_eq_true rfl) (Nat.le_of_ble_eq_true rfl) (qk_h (fun N63 hq63 => ?_))
      refine q_aload_n dX8_mapLine_66 rfl ?_
      refine q_geti (j := 29) dX8_mapLine_67 fl_8_182 rfl rfl rfl ?_
      rw [hq63.2.2.1]
      refine q_if_ne (tgt := 169) dX8_mapLine_70 rfl (by (first | (unfold zR; omega) | (unfold zLR; omega) | omega | (simp only [zR, qup] at *; omega) | (simp [zR, qup]; omega) | (simp [zR, qup]; done))) (fun h70 => ?_) (fun h70 => absurd h70 (by show ¬ (1 : Int) = 0; decide))
      refine q_aload_n dX8_mapLine_169 rfl ?_
      refine q_V0 dX8_mapLine_170 ml_8_205 md_X8_goesOn (m_goesOnF hq63) rfl rfl rfl (by first | decide | omega) (Nat.le_of_ble_eq_true rfl) (Nat.le_of_ble_eq_true rfl) (qk_h (fun N170 hq170 => ?_))
      refine q_return dX8_mapLine_173 ?_
      exact ⟨rfl, by rw [hln]; exact hq170⟩
  ·
    refine q_iconst dX8_mapLine_10 ?_
    refine q_goto (tgt := 15) dX8_mapLine_11 rfl ?_
    refine q_iconst dX8_mapLine_15 ?_
    have hn6 : 6 ≤ σ.2.1 := by omega
    refine q_V2 dX8_mapLine_16 ml_8_215 md_X8_failsIf (m_failsIf1 h (by decide) (by (first | (unfold zR; omega) | (unfold zLR; omega) | omega | (simp only [zR, qup] at *; omega) | (simp [zR, qup]; omega) | (simp [zR, qup]; done)))) rfl rfl rfl (by first | decide | omega) (Nat.le_of_ble_eq_true rfl) (Nat.le_of_ble_eq_true rfl) (qk_h (fun N16 hq16 => ?_))
    refine q_aload_n dX8_mapLine_19 rfl ?_
    refine q_V0 dX8_mapLine_20 ml_8_205 md_X8_goesOn (m_goesOnF hq16) rfl rfl rfl (by first | decide | omega) (Nat.le_of_ble_eq_true rfl) (Nat.le_of_ble_eq_true rfl) (qk_h (fun N20 hq20 => ?_))
    refine q_aload_n dX8_mapLine_23 rfl ?_
    refine q_aload_n dX8_mapLine_24 rfl ?_
    refine q_geti (j := 27) dX8_mapLine_25 fl_8_170 rfl rfl rfl ?_
    refine q_iconst dX8_mapLine_28 ?_
    have hz27 := hq20.2.2.2.2.2.2.1
    refine q_icmp_eq (tgt := 36) dX8_mapLine_29 rfl (by (first | (unfold zR; omega) | (unfold zLR; omega) | omega | (simp only [zR, qup] at *; omega) | (simp [zR, qup]; omega) | (simp [zR, qup]; done))) (by (first | (unfold zR; omega) | (unfold zLR; omega) | omega | (simp only [zR, qup] at *; omega) | (simp [zR, qup]; omega) | (simp [zR, qup]; done))) (fun h29 => ?_) (fun h29 => ?_)
    ·
      refine q_iconst dX8_mapLine_36 ?_
      refine q_iconst dX8_mapLine_37 ?_
      refine q_V2 dX8_mapLine_38 ml_8_215 md_X8_failsIf (m_failsIfF hq20 (by first | exact Or.inl rfl | exact Or.inr rfl)) rfl rfl rfl (by first | decide | omega) (Nat.le_of_ble_eq_true rfl) (Nat.le_of_ble_eq_true rfl) (qk_h (fun N38 hq38 => ?_))
      refine q_aload_n dX8_mapLine_41 rfl ?_
      refine q_aload_n dX8_mapLine_42 rfl ?_
      refine q_geti (j := 29) dX8_mapLine_43 fl_8_182 rfl rfl rfl ?_
      rw [hq38.2.2.1]
      refine q_if_ne (tgt := 61) dX8_mapLine_46 rfl (by (first | (unfold zR; omega) | (unfold zLR; omega) | omega | (simp only [zR, qup] at *; omega) | (simp [zR, qup]; omega) | (simp [zR, qup]; done))) (fun h46 => ?_) (fun h46 => absurd h46 (by show ¬ (4 : Int) = 0; decide))
      refine q_iconst dX8_mapLine_61 ?_
      refine q_iconst dX8_mapLine_62 ?_
      refine q_V2 dX8_mapLine_63 ml_8_215 md_X8_failsIf (m_failsIfF hq38 (Or.inl rfl)) rfl rfl rfl (by first | decide | omega) (Nat.le_of_ble_eq_true rfl) (Nat.le_of_ble_eq_true rfl) (qk_h (fun N63 hq63 => ?_))
      refine q_aload_n dX8_mapLine_66 rfl ?_
      refine q_geti (j := 29) dX8_mapLine_67 fl_8_182 rfl rfl rfl ?_
      rw [hq63.2.2.1]
      refine q_if_ne (tgt := 169) dX8_mapLine_70 rfl (by (first | (unfold zR; omega) | (unfold zLR; omega) | omega | (simp only [zR, qup] at *; omega) | (simp [zR, qup]; omega) | (simp [zR, qup]; done))) (fun h70 => ?_) (fun h70 => absurd h70 (by show ¬ (4 : Int) = 0; decide))
      refine q_aload_n dX8_mapLine_169 rfl ?_
      refine q_V0 dX8_mapLine_170 ml_8_205 md_X8_goesOn (m_goesOnF hq63) rfl rfl rfl (by first | decide | omega) (Nat.le_of_ble_eq_true rfl) (Nat.le_of_ble_eq_true rfl) (qk_h (fun N170 hq170 => ?_))
      refine q_return dX8_mapLine_173 ?_
      exact ⟨rfl, by unfold lnMap; rw [if_pos hn6]; exact hq170⟩
    ·
      refine q_iconst dX8_mapLine_32 ?_
      refine q_goto (tgt := 37) dX8_mapLine_33 rfl ?_
      refine q_iconst dX8_mapLine_37 ?_
      refine q_V2 dX8_mapLine_38 ml_8_215 md_X8_failsIf (m_failsIfF hq20 (by first | exact Or.inl rfl | exact Or.inr rfl)) rfl rfl rfl (by first | decide | omega) (Nat.le_of_ble_eq_true rfl) (Nat.le_of_ble_eq_true rfl) (qk_h (fun N38 hq38 => ?_))
      refine q_aload_n dX8_mapLine_41 rfl ?_
      refine q_aload_n dX8_mapLine_42 rfl ?_
      refine q_geti (j := 29) dX8_mapLine_43 fl_8_182 rfl rfl rfl ?_
      rw [hq38.2.2.1]
      refine q_if_ne (tgt := 61) dX8_mapLine_46 rfl (by (first | (unfold zR; omega) | (unfold zLR; omega) | omega | (simp only [zR, qup] at *; omega) | (simp [zR, qup]; omega) | (simp [zR, qup]; done))) (fun h46 => ?_) (fun h46 => absurd h46 (by show ¬ (4 : Int) = 0; decide))
      refine q_iconst dX8_mapLine_61 ?_
      refine q_iconst dX8_mapLine_62 ?_
      refine q_V2 dX8_mapLine_63 ml_8_215 md_X8_failsIf (m_failsIfF hq38 (Or.inl rfl)) rfl rfl rfl (by first | decide | omega) (Nat.le_of_ble_eq_true rfl) (Nat.le_of_ble_eq_true rfl) (qk_h (fun N63 hq63 => ?_))
      refine q_aload_n dX8_mapLine_66 rfl ?_
      refine q_geti (j := 29) dX8_mapLine_67 fl_8_182 rfl rfl rfl ?_
      rw [hq63.2.2.1]
      refine q_if_ne (tgt := 169) dX8_mapLine_70 rfl (by (first | (unfold zR; omega) | (unfold zLR; omega) | omega | (simp only [zR, qup] at *; omega) | (simp [zR, qup]; omega) | (simp [zR, qup]; done))) (fun h70 => ?_) (fun h70 => absurd h70 (by show ¬ (4 : Int) = 0; decide))
      refine q_aload_n dX8_mapLine_169 rfl ?_
      refine q_V0 dX8_mapLine_170 ml_8_205 md_X8_goesOn (m_goesOnF hq63) rfl rfl rfl (by first | decide | omega) (Nat.le_of_ble_eq_true rfl) (Nat.le_of_ble_eq_true rfl) (qk_h (fun N170 hq170 => ?_))
      refine q_return dX8_mapLine_173 ?_
      exact ⟨rfl, by unfold lnMap; rw [if_pos hn6]; exact hq170⟩
end MLN


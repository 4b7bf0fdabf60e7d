/-! The model: its stores; combined; small ones. -/
def kpW (M : qM) (st n : Int) : qM := fun o i => if o = 40 ∧ 1536 * st ≤ i ∧ i < 1536 * st + n then M 39 (i - 1536 * st) else M o i
def stW (M : qM) (st n : Int) : qM := fun o i => if o = 39 ∧ 0 ≤ i ∧ i < n then M 40 (1536 * st + i) else M o i
section MY
variable {M N : qM} {L l : Nat} {c T K F S : Int → Int} {k o x y a b v p q f t n g i : Int}
set_option maxHeartbeats 2000000 in
theorem m_keeps (hk : 0 ≤ k ∧ k < 10) : qCt mX8_keeps 0 0 [.ref 37, .int (zI k)] M (qpv (kpW M k 1536)) := by
  refine q_intro (own := 8) (L := [some (.ref 37), some (.int (zI k)), none]) md_X8_keeps rfl rfl rfl (Nat.le_of_ble_eq_true rfl) (fun X => ?_)
  refine q_iconst dX8_keeps_0 ?_
  refine q_istore_n dX8_keeps_1 (Nat.le_of_ble_eq_true rfl) rfl ?_
  refine q_lp (fun i : Int => (1536 - i).toNat) (fun i => 0 ≤ i ∧ i ≤ 1536) (fun i => [some (.ref 37), some (.int (zI k)), some (.int (zI i))]) (fun i => kpW M k i) 0 rfl (by funext o j; unfold kpW; rw [if_neg (by omega)]) ⟨by omega, by omega⟩ (fun i hi ih => ?_)
  refine q_iload_n dX8_keeps_2 rfl ?_
  refine q_sipush dX8_keeps_3 rfl ?_
  refine q_icmp_ge (tgt := 33) dX8_keeps_6 rfl (by (first | (unfold zR; omega) | (unfold zLR; omega) | omega | (simp only [zR, qup] at *; omega) | (simp [zR, qup]; omega) | (simp [zR, qup]; done))) (by (first | (unfold zR; omega) | (unfold zLR; omega) | omega | (simp only [zR, qup] at *; omega) | (simp [zR, qup]; omega) | (simp [zR, qup]; done))) (fun h6 => ?_) (fun h6 => ?_)
  rotate_left
  ·
    refine q_aload_n dX8_keeps_9 rfl ?_
    refine q_getr dX8_keeps_10 fl_8_16 rfl rfl ?_
    refine q_sipush dX8_keeps_13 rfl ?_
    refine q_iload_n dX8_keeps_16 rfl ?_
    refine q_imul dX8_keeps_17 ?_
    refine q_iload_n dX8_keeps_18 rfl ?_
    refine q_iadd dX8_keeps_19 ?_
    refine q_aload_n dX8_keeps_20 rfl ?_
    refine q_getr dX8_keeps_21 fl_8_13 rfl rfl ?_
    refine q_iload_n dX8_keeps_24 rfl ?_
    refine q_iald dX8_keeps_25 rfl (by (first | (unfold zR; omega) | (unfold zLR; omega) | omega | (simp only [zR, qup] at *; omega) | (simp [zR, qup]; omega) | (simp [zR, qup]; done))) (Nat.le_of_ble_eq_true rfl) ?_
    rw [show kpW M k i 39 i = M 39 i by unfold kpW; rw [if_neg (by omega)]]
    refine q_iast dX8_keeps_26 rfl (by (first | (unfold zR; omega) | (unfold zLR; omega) | omega | (simp only [zR, qup] at *; omega) | (simp [zR, qup]; omega) | (simp [zR, qup]; done))) (Nat.le_of_ble_eq_true rfl) ?_
    refine q_iinc dX8_keeps_27 rfl (Nat.le_of_ble_eq_true rfl) rfl ?_
    refine q_goto (tgt := 2) dX8_keeps_30 rfl ?_
    exact ih (i + 1) _ _ ⟨by omega, by omega⟩ (by omega) rfl (by
      funext o j
      by_cases g : o = 40
      · subst g
        by_cases g2 : j = 1536 * k + i
        · subst g2; rw [qup_s]; unfold kpW; rw [if_pos ⟨rfl, by omega, by omega⟩, show 1536 * k + i - 1536 * k = i by omega]
        · rw [qup_k _ _ _ g2]; unfold kpW
          by_cases g3 : 1536 * k ≤ j ∧ j < 1536 * k + i
          · rw [if_pos ⟨rfl, g3⟩, if_pos ⟨rfl, g3.1, by omega⟩]
          · rw [if_neg (fun w => g3 w.2), if_neg (by omega)]
      · rw [qup_o _ _ _ _ g]; unfold kpW; rw [if_neg (fun w => g w.1), if_neg (fun w => g w.1)])
  refine q_return dX8_keeps_33 ?_
  exact ⟨rfl, by rw [show i = 1536 by omega]⟩
set_option maxHeartbeats 2000000 in
theorem m_fetchesState (hk : 0 ≤ k ∧ k < 10) : qCt mX8_fetchesState 0 0 [.ref 37, .int (zI k)] M (qpv (stW M k 1536)) := by
  refine q_intro (own := 8) (L := [some (.ref 37), some (.int (zI k)), none]) md_X8_fetchesState rfl rfl rfl (Nat.le_of_ble_eq_true rfl) (fun X => ?_)
  refine q_iconst dX8_fetchesState_0 ?_
  refine q_istore_n dX8_fetchesState_1 (Nat.le_of_ble_eq_true rfl) rfl ?_
  refine q_lp (fun i : Int => (1536 - i).toNat) (fun i => 0 ≤ i ∧ i ≤ 1536) (fun i => [some (.ref 37), some (.int (zI k)), some (.int (zI i))]) (fun i => stW M k i) 0 rfl (by funext o j; unfold stW; rw [if_neg (by omega)]) ⟨by omega, by omega⟩ (fun i hi ih => ?_)
  refine q_iload_n dX8_fetchesState_2 rfl ?_
  refine q_sipush dX8_fetchesState_3 rfl ?_
  refine q_icmp_ge (tgt := 33) dX8_fetchesState_6 rfl (by (first | (unfold zR; omega) | (unfold zLR; omega) | omega | (simp only [zR, qup] at *; omega) | (simp [zR, qup]; omega) | (simp [zR, qup]; done))) (by (first | (unfold zR; omega) | (unfold zLR; omega) | omega | (simp only [zR, qup] at *; omega) | (simp [zR, qup]; omega) | (simp [zR, qup]; done))) (fun h6 => ?_) (fun h6 => ?_)
  rotate_left
  ·
    refine q_aload_n dX8_fetchesState_9 rfl ?_
    refine q_getr dX8_fetchesState_10 fl_8_13 rfl rfl ?_
    refine q_iload_n dX8_fetchesState_13 rfl ?_
    refine q_aload_n dX8_fetchesState_14 rfl ?_
    refine q_getr dX8_fetchesState_15 fl_8_16 rfl rfl ?_
    refine q_sipush dX8_fetchesState_18 rfl ?_
    refine q_iload_n dX8_fetchesState_21 rfl ?_
    refine q_imul dX8_fetchesState_22 ?_
    refine q_iload_n dX8_fetchesState_23 rfl ?_
    refine q_iadd dX8_fetchesState_24 ?_
    refine q_iald dX8_fetchesState_25 rfl (by (first | (unfold zR; omega) | (unfold zLR; omega) | omega | (simp only [zR, qup] at *; omega) | (simp [zR, qup]; omega) | (simp [zR, qup]; done))) (Nat.le_of_ble_eq_true rfl) ?_
    rw [show stW M k i 40 (1536 * k + i) = M 40 (1536 * k + i) by unfold stW; rw [if_neg (by omega)]]
    refine q_iast dX8_fetchesState_26 rfl (by (first | (unfold zR; omega) | (unfold zLR; omega) | omega | (simp only [zR, qup] at *; omega) | (simp [zR, qup]; omega) | (simp [zR, qup]; done))) (Nat.le_of_ble_eq_true rfl) ?_
    refine q_iinc dX8_fetchesState_27 rfl (Nat.le_of_ble_eq_true rfl) rfl ?_
    refine q_goto (tgt := 2) dX8_fetchesState_30 rfl ?_
    exact ih (i + 1) _ _ ⟨by omega, by omega⟩ (by omega) rfl (by
      funext o j
      by_cases g : o = 39
      · subst g
        by_cases g2 : j = i
        · subst g2; rw [qup_s]; unfold stW; rw [if_pos ⟨rfl, by omega, by omega⟩]
        · rw [qup_k _ _ _ g2]; unfold stW
          by_cases g3 : 0 ≤ j ∧ j < i
          · rw [if_pos ⟨rfl, g3⟩, if_pos ⟨rfl, g3.1, by omega⟩]
          · rw [if_neg (fun w => g3 w.2), if_neg (by omega)]
      · rw [qup_o _ _ _ _ g]; unfold stW; rw [if_neg (fun w => g w.1), if_neg (fun w => g w.1)])
  refine q_return dX8_fetchesState_33 ?_
  exact ⟨rfl, by rw [show i = 1536 by omega]⟩
set_option maxHeartbeats 1000000 in
theorem o_parseError : qCt mX8_parseError 0 0 [.ref 37] M (qpe (M 37 22) (qup M 37 0 0)) := by
  refine q_intro (own := 8) (L := [some (.ref 37)]) md_X8_parseError rfl rfl rfl (Nat.le_of_ble_eq_true rfl) (fun X => ?_)
  refine q_aload_n dX8_parseError_0 rfl ?_
  refine q_iconst dX8_parseError_1 ?_
  refine q_puti (j := 0) dX8_parseError_2 fl_8_57 rfl rfl rfl rfl rfl ?_
  refine q_aload_n dX8_parseError_5 rfl ?_
  refine q_geti (j := 22) dX8_parseError_6 fl_8_155 rfl rfl rfl ?_
  refine q_ireturn dX8_parseError_9 ?_
  exact ⟨by rw [qup_k _ _ _ (by decide)], rfl⟩
set_option maxHeartbeats 1000000 in
theorem o_errorPosition : qCt mX8_errorPosition 0 0 [.ref 37] M (qpe (M 37 23) (qup M 37 0 0)) := by
  refine q_intro (own := 8) (L := [some (.ref 37)]) md_X8_errorPosition rfl rfl rfl (Nat.le_of_ble_eq_true rfl) (fun X => ?_)
  refine q_aload_n dX8_errorPosition_0 rfl ?_
  refine q_iconst dX8_errorPosition_1 ?_
  refine q_puti (j := 0) dX8_errorPosition_2 fl_8_57 rfl rfl rfl rfl rfl ?_
  refine q_aload_n dX8_errorPosition_5 rfl ?_
  refine q_geti (j := 23) dX8_errorPosition_6 fl_8_44 rfl rfl rfl ?_
  refine q_ireturn dX8_errorPosition_9 ?_
  exact ⟨by rw [qup_k _ _ _ (by decide)], rfl⟩
set_option maxHeartbeats 1000000 in
theorem o_buffered : qCt mX8_buffered 0 0 [.ref 37] M (qpe (M 37 21) (qup M 37 0 0)) := by
  refine q_intro (own := 8) (L := [some (.ref 37)]) md_X8_buffered rfl rfl rfl (Nat.le_of_ble_eq_true rfl) (fun X => ?_)
  refine q_aload_n dX8_buffered_0 rfl ?_
  refine q_iconst dX8_buffered_1 ?_
  refine q_puti (j := 0) dX8_buffered_2 fl_8_57 rfl rfl rfl rfl rfl ?_
  refine q_aload_n dX8_buffered_5 rfl ?_
  refine q_geti (j := 21) dX8_buffered_6 fl_8_152 rfl rfl rfl ?_
  refine q_ireturn dX8_buffered_9 ?_
  exact ⟨by rw [qup_k _ _ _ (by decide)], rfl⟩
set_option maxHeartbeats 1000000 in
theorem o_undoable : qCt mX8_undoable 0 0 [.ref 37] M (qpe (M 37 7) (qup M 37 0 0)) := by
  refine q_intro (own := 8) (L := [some (.ref 37)]) md_X8_undoable rfl rfl rfl (Nat.le_of_ble_eq_true rfl) (fun X => ?_)
  refine q_aload_n dX8_undoable_0 rfl ?_
  refine q_iconst dX8_undoable_1 ?_
  refine q_puti (j := 0) dX8_undoable_2 fl_8_57 rfl rfl rfl rfl rfl ?_
  refine q_aload_n dX8_undoable_5 rfl ?_
  refine q_geti (j := 7) dX8_undoable_6 fl_8_280 rfl rfl rfl ?_
  refine q_ireturn dX8_undoable_9 ?_
  exact ⟨by rw [qup_k _ _ _ (by decide)], rfl⟩
set_option maxHeartbeats 2000000 in
theorem o_textByte (hM : MI M) (hi : zR i) : qCt mX8_textByte 0 1 [.ref 37, .int (zI i)] M (mpx (if 0 ≤ i ∧ i < M 37 35 then 0 else 1) (fun z M' => z = M 51 i ∧ M' = qup M 37 0 0) M) := by
  have hl := hM.2.2.2.2.2.2.2.2.2.2.1
  have z01 := zb_01 (0 ≤ i ∧ i ≤ M 37 35 - 1)
  have g0 : ∀ w : Int, gor 0 w = w := fun w => gor_0 rfl
  refine q_intro (own := 8) (L := [some (.ref 37), some (.int (zI i))]) md_X8_textByte rfl rfl rfl (Nat.le_of_ble_eq_true rfl) (fun X => ?_)
  refine q_aload_n dX8_textByte_0 rfl ?_
  refine q_iconst dX8_textByte_1 ?_
  refine q_puti (j := 0) dX8_textByte_2 fl_8_57 rfl rfl rfl rfl rfl ?_
  refine q_aload_n dX8_textByte_5 rfl ?_
  refine q_iload_n dX8_textByte_6 rfl ?_
  refine q_iconst dX8_textByte_7 ?_
  refine q_aload_n dX8_textByte_8 rfl ?_
  refine q_geti (j := 35) dX8_textByte_9 fl_8_372 rfl rfl rfl ?_
  rw [show qup M 37 0 0 37 35 = M 37 35 from qup_k _ _ _ (by decide)]
  refine q_iconst dX8_textByte_12 ?_
  refine q_isub dX8_textByte_13 ?_
  refine q_S3 dX8_textByte_14 ml_8_71 md_X8_in (m_in hi (by (first | (unfold zR; omega) | (unfold zLR; omega) | omega | (simp only [zR, qup] at *; omega) | (simp [zR, qup]; omega) | (simp [zR, qup]; done))) (by (first | (unfold zR; omega) | (unfold zLR; omega) | omega | (simp only [zR, qup] at *; omega) | (simp [zR, qup]; omega) | (simp [zR, qup]; done)))) rfl (by first | decide | omega) (Nat.le_of_ble_eq_true rfl) (Nat.le_of_ble_eq_true rfl) (qk_e ?_)
  refine q_if_ne (tgt := 24) dX8_textByte_17 rfl (by exact zb_R _) (fun h17 => ?_) (fun h17 => ?_)
  ·
    refine q_iconst dX8_textByte_24 ?_
    refine q_iconst dX8_textByte_25 ?_
    have hgb : (if (0 : Int) = 1 then (1 : Int) else 0) = (if 0 ≤ i ∧ i < M 37 35 then 0 else 1) := (if_pos (by have := zb_1.1 (show zb (0 ≤ i ∧ i ≤ M 37 35 - 1) = 1 by omega); omega)).symm
    refine q_V2 dX8_textByte_26 ml_8_64 md_X8_refuse (m_refH (by omega) (by unfold zR; omega) (by (first | (unfold zR; omega) | (unfold zLR; omega) | omega | (simp only [zR, qup] at *; omega) | (simp [zR, qup]; omega) | (simp [zR, qup]; done))) hgb) rfl rfl rfl (by first | decide | omega) (Nat.le_of_ble_eq_true rfl) (Nat.le_of_ble_eq_true rfl) (qk_e ?_)
    refine q_if_eq (tgt := 36) dX8_textByte_29 rfl (by exact zb_R _) (fun h29 => ?_) (fun h29 => ?_)
    ·
      have hg := zbz h29
      rw [g0] at hg
      have hin : 0 ≤ i ∧ i < M 37 35 := Classical.byContradiction fun w => by rw [if_neg w] at hg; omega
      rw [g0, hg]
      refine q_aload_n dX8_textByte_36 rfl ?_
      refine q_getr dX8_textByte_37 fl_8_54 rfl rfl ?_
      refine q_iload_n dX8_textByte_40 rfl ?_
      refine q_iald dX8_textByte_41 rfl (by (first | (unfold zR; omega) | (unfold zLR; omega) | omega | (simp only [zR, qup] at *; omega) | (simp [zR, qup]; omega) | (simp [zR, qup]; done))) (Nat.le_of_ble_eq_true rfl) ?_
      refine q_ireturn dX8_textByte_42 ?_
      exact mpx_k rfl ⟨by rw [qup_o _ _ _ _ (by decide)], rfl⟩
    ·
      refine q_iconst dX8_textByte_32 ?_
      refine q_goto (tgt := 42) dX8_textByte_33 rfl ?_
      refine q_ireturn dX8_textByte_42 ?_
      have hg := zbn h29
      rw [g0] at hg ⊢
      exact mpx_g hg
  ·
    refine q_iconst dX8_textByte_20 ?_
    refine q_goto (tgt := 25) dX8_textByte_21 rfl ?_
    refine q_iconst dX8_textByte_25 ?_
    have hgb : (if (1 : Int) = 1 then (1 : Int) else 0) = (if 0 ≤ i ∧ i < M 37 35 then 0 else 1) := (if_neg (by have := zb_0.1 (show zb (0 ≤ i ∧ i ≤ M 37 35 - 1) = 0 by omega); omega)).symm
    refine q_V2 dX8_textByte_26 ml_8_64 md_X8_refuse (m_refH (by omega) (by unfold zR; omega) (by (first | (unfold zR; omega) | (unfold zLR; omega) | omega | (simp only [zR, qup] at *; omega) | (simp [zR, qup]; omega) | (simp [zR, qup]; done))) hgb) rfl rfl rfl (by first | decide | omega) (Nat.le_of_ble_eq_true rfl) (Nat.le_of_ble_eq_true rfl) (qk_e ?_)
    refine q_if_eq (tgt := 36) dX8_textByte_29 rfl (by exact zb_R _) (fun h29 => ?_) (fun h29 => ?_)
    ·
      have hg := zbz h29
      rw [g0] at hg
      have hin : 0 ≤ i ∧ i < M 37 35 := Classical.byContradiction fun w => by rw [if_neg w] at hg; omega
      rw [g0, hg]
      refine q_aload_n dX8_textByte_36 rfl ?_
      refine q_getr dX8_textByte_37 fl_8_54 rfl rfl ?_
      refine q_iload_n dX8_textByte_40 rfl ?_
      refine q_iald dX8_textByte_41 rfl (by (first | (unfold zR; omega) | (unfold zLR; omega) | omega | (simp only [zR, qup] at *; omega) | (simp [zR, qup]; omega) | (simp [zR, qup]; done))) (Nat.le_of_ble_eq_true rfl) ?_
      refine q_ireturn dX8_textByte_42 ?_
      exact mpx_k rfl ⟨by rw [qup_o _ _ _ _ (by decide)], rfl⟩
    ·
      refine q_iconst dX8_textByte_32 ?_
      refine q_goto (tgt := 42) dX8_textByte_33 rfl ?_
      refine q_ireturn dX8_textByte_42 ?_
      have hg := zbn h29
      rw [g0] at hg ⊢
      exact mpx_g hg
set_option maxHeartbeats 2000000 in
theorem o_undo (hM : MI M) : qCt mX8_undo 0 1 [.ref 37] M (mpx (if 0 < M 37 7 then 0 else 1) (fun z M' => z = M 37 7 - 1 ∧ M' = stW (qup (qup M 37 0 0) 37 7 (M 37 7 - 1)) (M 37 7 - 1) 1536) M) := by
  have hl := hM.2.2.2.2.2.2.1
  have g0 : ∀ w : Int, gor 0 w = w := fun w => gor_0 rfl
  refine q_intro (own := 8) (L := [some (.ref 37)]) md_X8_undo rfl rfl rfl (Nat.le_of_ble_eq_true rfl) (fun X => ?_)
  refine q_aload_n dX8_undo_0 rfl ?_
  refine q_iconst dX8_undo_1 ?_
  refine q_puti (j := 0) dX8_undo_2 fl_8_57 rfl rfl rfl rfl rfl ?_
  refine q_aload_n dX8_undo_5 rfl ?_
  refine q_aload_n dX8_undo_6 rfl ?_
  refine q_geti (j := 7) dX8_undo_7 fl_8_280 rfl rfl rfl ?_
  rw [show qup M 37 0 0 37 7 = M 37 7 from qup_k _ _ _ (by decide)]
  refine q_if_ne (tgt := 17) dX8_undo_10 rfl (by (first | (unfold zR; omega) | (unfold zLR; omega) | omega | (simp only [zR, qup] at *; omega) | (simp [zR, qup]; omega) | (simp [zR, qup]; done))) (fun h10 => ?_) (fun h10 => ?_)
  ·
    refine q_iconst dX8_undo_17 ?_
    refine q_iconst dX8_undo_18 ?_
    have hgb : (if (0 : Int) = 1 then (1 : Int) else 0) = (if 0 < M 37 7 then 0 else 1) := (if_pos (by omega)).symm
    refine q_V2 dX8_undo_19 ml_8_64 md_X8_refuse (m_refH (by omega) (by unfold zR; omega) (by (first | (unfold zR; omega) | (unfold zLR; omega) | omega | (simp only [zR, qup] at *; omega) | (simp [zR, qup]; omega) | (simp [zR, qup]; done))) hgb) rfl rfl rfl (by first | decide | omega) (Nat.le_of_ble_eq_true rfl) (Nat.le_of_ble_eq_true rfl) (qk_e ?_)
    refine q_if_eq (tgt := 27) dX8_undo_22 rfl (by exact zb_R _) (fun h22 => ?_) (fun h22 => ?_)
    ·
      have hg := zbz h22
      rw [g0] at hg
      have hin : 0 < M 37 7 := Classical.byContradiction fun w => by rw [if_neg w] at hg; omega
      rw [g0, hg]
      have e7 : qup M 37 0 0 37 7 = M 37 7 := qup_k _ _ _ (by decide)
      refine q_aload_n dX8_undo_27 rfl ?_
      refine q_dup dX8_undo_28 rfl ?_
      refine q_geti (j := 7) dX8_undo_29 fl_8_280 rfl rfl rfl ?_
      rw [e7]
      refine q_iconst dX8_undo_32 ?_
      refine q_isub dX8_undo_33 ?_
      refine q_puti (j := 7) dX8_undo_34 fl_8_280 rfl rfl rfl rfl rfl ?_
      refine q_aload_n dX8_undo_37 rfl ?_
      refine q_iconst dX8_undo_38 ?_
      refine q_aload_n dX8_undo_39 rfl ?_
      refine q_geti (j := 7) dX8_undo_40 fl_8_280 rfl rfl rfl ?_
      rw [qup_s]
      refine q_iadd dX8_undo_43 ?_
      rw [Int.zero_add]
      refine q_V1 dX8_undo_44 ml_8_396 md_X8_fetchesState (m_fetchesState (by omega)) rfl rfl rfl (by first | decide | omega) (Nat.le_of_ble_eq_true rfl) (Nat.le_of_ble_eq_true rfl) (qk_v ?_)
      refine q_aload_n dX8_undo_47 rfl ?_
      refine q_geti (j := 7) dX8_undo_48 fl_8_280 rfl rfl rfl ?_
      refine q_ireturn dX8_undo_51 ?_
      exact mpx_k rfl ⟨by unfold stW; rw [if_neg (by omega), qup_s], rfl⟩
    ·
      refine q_iconst dX8_undo_25 ?_
      refine q_ireturn dX8_undo_26 ?_
      have hg := zbn h22
      rw [g0] at hg ⊢
      exact mpx_g hg
  ·
    refine q_iconst dX8_undo_13 ?_
    refine q_goto (tgt := 18) dX8_undo_14 rfl ?_
    refine q_iconst dX8_undo_18 ?_
    have hgb : (if (1 : Int) = 1 then (1 : Int) else 0) = (if 0 < M 37 7 then 0 else 1) := (if_neg (by omega)).symm
    refine q_V2 dX8_undo_19 ml_8_64 md_X8_refuse (m_refH (by omega) (by unfold zR; omega) (by (first | (unfold zR; omega) | (unfold zLR; omega) | omega | (simp only [zR, qup] at *; omega) | (simp [zR, qup]; omega) | (simp [zR, qup]; done))) hgb) rfl rfl rfl (by first | decide | omega) (Nat.le_of_ble_eq_true rfl) (Nat.le_of_ble_eq_true rfl) (qk_e ?_)
    refine q_if_eq (tgt := 27) dX8_undo_22 rfl (by exact zb_R _) (fun h22 => ?_) (fun h22 => ?_)
    ·
      have hg := zbz h22
      rw [g0] at hg
      have hin : 0 < M 37 7 := Classical.byContradiction fun w => by rw [if_neg w] at hg; omega
      rw [g0, hg]
      have e7 : qup M 37 0 0 37 7 = M 37 7 := qup_k _ _ _ (by decide)
      refine q_aload_n dX8_undo_27 rfl ?_
      refine q_dup dX8_undo_28 rfl ?_
      refine q_geti (j := 7) dX8_undo_29 fl_8_280 rfl rfl rfl ?_
      rw [e7]
      refine q_iconst dX8_undo_32 ?_
      refine q_isub dX8_undo_33 ?_
      refine q_puti (j := 7) dX8_undo_34 fl_8_280 rfl rfl rfl rfl rfl ?_
      refine q_aload_n dX8_undo_37 rfl ?_
      refine q_iconst dX8_undo_38 ?_
      refine q_aload_n dX8_undo_39 rfl ?_
      refine q_geti (j := 7) dX8_undo_40 fl_8_280 rfl rfl rfl ?_
      rw [qup_s]
      refine q_iadd dX8_undo_43 ?_
      rw [Int.zero_add]
      refine q_V1 dX8_undo_44 ml_8_396 md_X8_fetchesState (m_fetchesState (by omega)) rfl rfl rfl (by first | decide | omega) (Nat.le_of_ble_eq_true rfl) (Nat.le_of_ble_eq_true rfl) (qk_v ?_)
      refine q_aload_n dX8_undo_47 rfl ?_
      refine q_geti (j := 7) dX8_undo_48 fl_8_280 rfl rfl rfl ?_
      refine q_ireturn dX8_undo_51 ?_
      exact mpx_k rfl ⟨by unfold stW; rw [if_neg (by omega), qup_s], rfl⟩
    ·
      refine q_iconst dX8_undo_25 ?_
      refine q_ireturn dX8_undo_26 ?_
      have hg := zbn h22
      rw [g0] at hg ⊢
      exact mpx_g hg
end MY


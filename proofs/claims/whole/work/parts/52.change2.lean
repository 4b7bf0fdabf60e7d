/-! The class: shift, mirror, read; undo; slots. -/
def rdP (M : qM) (L : Nat) (k n : Int) : qP := (fun v M' => gText M = 0 ∧ gMap M k = 0 ∧ gBuf M n = 0 ∧ (oj (M 2) L n).1 = -1 ∧ v = some (.int (zI (onesI (oj (M 2) L n).2 0 (8 * p4 L - 1)))) ∧ ∃ F : Int → Int, (∀ i, 0 ≤ i → i < p4 L → F i = (oj (M 2) L n).2 i) ∧ (∀ i, 0 ≤ i → i < 256 → 0 ≤ F i ∧ F i < 256) ∧ Scr (qrow (rem (qup M 1 1 0) k) k F) M', fun E M' => ((gor (gText M) (gor (gMap M k) (gor (gBuf M n) 0))) ≠ 0 ∧ E = exN (gor (gText M) (gor (gMap M k) (gor (gBuf M n) 0))) ∧ M' = M) ∨ (gText M = 0 ∧ gMap M k = 0 ∧ gBuf M n = 0 ∧ (oj (M 2) L n).1 ≠ -1 ∧ E = qEIAE ∧ Scr (qup M 1 1 0) M'))
theorem onesI_p {c c' : Int → Int} {f t n : Int} (hn : n ≤ 256) (ht : t < 8 * n) (hf : 0 ≤ f) (h : ∀ i, 0 ≤ i → i < n → c i = c' i) : onesI c f t = onesI c' f t := zsum_congr (fun p h0 h1 => by
  unfold ind bitP
  by_cases g : f ≤ p ∧ p ≤ t
  · rw [if_pos g, if_pos g, h (p / 8) (by omega) (by omega)]
  · rw [if_neg g, if_neg g])
theorem rem_Scr {M M' : qM} {k : Int} (hC : CI M) (h : Scr M M') (hk : 0 ≤ k ∧ k < 6) : Scr (rem M k) (rem M' k) := by
  have g28 : M' 28 = M 28 := h.1 28 (by unfold sfr; decide)
  have hl : 0 ≤ (if M 28 2 + 1 < 8 then M 28 2 + 1 else 0) ∧ (if M 28 2 + 1 < 8 then M 28 2 + 1 else 0) < 8 := by
    have := hC.2.2.2.2.2.2.2.2.1
    by_cases g : M 28 2 + 1 < 8
    · rw [if_pos g]; omega
    · rw [if_neg g]; omega
  unfold rem
  rw [g28]
  generalize (if M 28 2 + 1 < 8 then M 28 2 + 1 else 0) = l at hl
  have e1 : ∀ (N : qM), qrow (qup (qup N 28 2 l) 30 l k) (12 + l) (rowc N k) = qup (qup (qrow N (12 + l) (rowc N k)) 28 2 l) 30 l k := fun N => by
    funext o j
    simp only [qrow, qup]
    by_cases h4 : o = 4
    · subst h4
      simp
    · simp [h4]
  rw [e1, e1]
  have hcb := CI_ok hC (show 0 ≤ k ∧ k < 33 by omega)
  have e2 : qrow M' (12 + l) (rowc M' k) = qrow M' (12 + l) (rowc M k) := qrow_congr _ (Scr_cell h hk)
  rw [e2]
  exact Scr_up (Scr_up (Scr_up (Scr_row h (by omega) hcb) (by unfold sfr; decide) 2 l) (by unfold sfr; decide) l k) (by unfold sfr; decide) 3 _
theorem rc_R (n : Int) (src : Int → Int) (hn : 0 ≤ n ∧ n < 1000) : ∀ (l : Nat) (b p : Int) (w : Int → Int) (k : qKt), 0 ≤ p → p ≤ n → (∀ p' w', 1 ≤ p' → p' ≤ n → -1 ≤ (k p' w').1 ∧ (k p' w').1 < 1000) → -1 ≤ (rc n src l b p w k).1 ∧ (rc n src l b p w k).1 < 1000 := by
  intro l
  induction l with
  | zero =>
    intro b p w k h0 h1 hk
    rw [rc]
    by_cases g : p = n
    · rw [if_pos g]; exact ⟨by show -1 ≤ n; omega, by show n < 1000; omega⟩
    · rw [if_neg g]; exact hk _ _ (by omega) (by omega)
  | succ l ih =>
    intro b p w k h0 h1 hk
    rw [rc]
    by_cases g : p = n
    · rw [if_pos g]; exact ⟨by show -1 ≤ n; omega, by show n < 1000; omega⟩
    · rw [if_neg g]
      by_cases g2 : hdOk (src p)
      · rw [qif_t g2]
        have hrl : ∀ (v : Int) (j : Nat) (p : Int) (w : Int → Int), 1 ≤ p → p ≤ n → -1 ≤ (rl (rc n src l) l b v j p w k).1 ∧ (rl (rc n src l) l b v j p w k).1 < 1000 := by
          intro v j
          induction j with
          | zero => intro p w a1 a2; rw [rl]; exact hk p w a1 a2
          | succ j ih2 =>
            intro p w a1 a2
            rw [rl]
            by_cases c1 : hcode v ((3 - j : Nat) : Int) < 2
            · rw [if_pos c1]; exact ih2 _ _ a1 a2
            · rw [if_neg c1]
              by_cases c2 : hcode v ((3 - j : Nat) : Int) = 3
              · rw [if_pos c2]; exact ih2 _ _ a1 a2
              · rw [if_neg c2]
                refine ih _ p w _ (by omega) a2 (fun p' w' b1 b2 => ?_)
                by_cases c3 : bad w' l (4 * b + ((3 - j : Nat) : Int)) (lastB b v (3 - j))
                · rw [qif_t c3]; exact ⟨by show -1 ≤ p' - 1; omega, by show p' - 1 < 1000; omega⟩
                · rw [qif_f c3]; exact ih2 _ _ b1 b2
        exact hrl _ 4 (p + 1) w (by omega) (by omega)
      · rw [qif_f g2]; exact ⟨by show -1 ≤ p; omega, by show p < 1000; omega⟩
theorem oj_in {src : Int → Int} {L : Nat} {n : Int} (hn : 0 ≤ n ∧ n < 1000) : -1 ≤ (oj src L n).1 ∧ (oj src L n).1 < 1000 := rc_R n src hn L 0 0 _ _ (Int.le_refl 0) hn.1 (fun p' w' h1 h2 => by
  unfold rfin
  by_cases g : p' < n
  · rw [if_pos g]; exact ⟨by show -1 ≤ p'; omega, by show p' < 1000; omega⟩
  · rw [if_neg g]; exact ⟨by show (-1 : Int) ≤ -1; omega, by show (-1 : Int) < 1000; omega⟩)
section GN
variable {M : qM} {L : Nat} {k p q f t b n s : Int}
set_option maxHeartbeats 2000000 in
theorem k_shift (hC : CI M) (hL : M 0 10 = (L : Int)) (hk : zR k) (hb : zR b) : qCt mX7_shift 2 9 [.ref 0, .int (zI k), .int (zI b)] M (qpx (gor (gText M) (gor (gMap M k) 0)) (fun z M' => z = onesI (rowc M k) 0 (8 * p4 L - 1) - onesI (mkF (shS (rowc M k) b (8 * p4 L)) 0 (8 * p4 L)) 0 (8 * p4 L - 1) ∧ Scr (qrow (rem M k) k (mkF (shS (rowc M k) b (8 * p4 L)) 0 (8 * p4 L))) M') (Scr M)) := by
  have hpin := p4_in (L : Int)
  refine q_intro (own := 7) (L := [some (.ref 0), some (.int (zI k)), some (.int (zI b)), none]) md_X7_shift rfl rfl rfl (Nat.le_of_ble_eq_true rfl) (fun X => ?_)
  refine q_aload_n dX7_shift_0 rfl ?_
  refine q_V0 dX7_shift_1 ml_7_141 md_X7_requireText (c_requireText hC) rfl rfl rfl (by first | decide | omega) (Nat.le_of_ble_eq_true rfl) (Nat.le_of_ble_eq_true rfl) (qk_G (fun hq1 => ?_) (Scr_rf hC))
  have hLv := CI_lv hC hL hq1
  refine q_aload_n dX7_shift_4 rfl ?_
  refine q_iload_n dX7_shift_5 rfl ?_
  refine q_V1 dX7_shift_6 ml_7_172 md_X7_requireMap (c_requireMap hC hk) rfl rfl rfl (by first | decide | omega) (Nat.le_of_ble_eq_true rfl) (Nat.le_of_ble_eq_true rfl) (qk_G (fun hq6 => ?_) (Scr_rf hC))
  have hmk := CI_mp hC hq6
  have hCr := rem_CI hC hmk
  have hLr : rem M k 0 10 = (L : Int) := by rw [rem_o (by decide) (by decide) (by decide)]; exact hL
  have hrr := rem_row (k := k) hC (show 0 ≤ k ∧ k < 12 by omega)
  have hmb : ∀ i, 0 ≤ i → i < 256 → 0 ≤ mkF (shS (rowc M k) b (8 * p4 L)) 0 (8 * p4 L) i ∧ mkF (shS (rowc M k) b (8 * p4 L)) 0 (8 * p4 L) i < 256 := fun i h0 h1 => mkF_in (shS_01 _ _ _)
  have hmc : ∀ i, 0 ≤ i → i < 256 → mkF (shS (rowc (rem M k) k) b (8 * p4 L)) 0 (8 * p4 L) i = mkF (shS (rowc M k) b (8 * p4 L)) 0 (8 * p4 L) i := fun i h0 h1 => by
    unfold mkF
    refine ofBits_congr (fun j j0 j1 => ?_)
    by_cases g : 0 ≤ 8 * i + j ∧ 8 * i + j < 8 * p4 L
    · rw [if_pos g, if_pos g]
      unfold shS
      by_cases g2 : 0 ≤ 8 * i + j - b ∧ 8 * i + j - b < 8 * p4 L
      · rw [if_pos g2, if_pos g2]
        unfold bitP
        rw [hrr _ (by omega) (by omega)]
      · rw [if_neg g2, if_neg g2]
    · rw [if_neg g, if_neg g]
  have hS1 : Scr (rem M k) (qrow (rem M k) 32 (mkF (shS (rowc M k) b (8 * p4 L)) 0 (8 * p4 L))) := Scr_32 hCr hmb
  have hW : qrow (qrow (rem M k) 32 (mkF (shS (rowc (rem M k) k) b (8 * p4 L)) 0 (8 * p4 L))) k (rowc (qrow (rem M k) 32 (mkF (shS (rowc (rem M k) k) b (8 * p4 L)) 0 (8 * p4 L))) 32) = qrow (qrow (rem M k) 32 (mkF (shS (rowc M k) b (8 * p4 L)) 0 (8 * p4 L))) k (mkF (shS (rowc M k) b (8 * p4 L)) 0 (8 * p4 L)) := by
    rw [qrow_congr (rem M k) hmc]
    exact qrow_congr _ row_at
  have hS2 := Scr_row hS1 (show 0 ≤ k ∧ k < 33 by omega) hmb
  have hC2 : CI (qrow (qrow (rem M k) 32 (mkF (shS (rowc M k) b (8 * p4 L)) 0 (8 * p4 L))) k (mkF (shS (rowc M k) b (8 * p4 L)) 0 (8 * p4 L))) := CI_row (Scr_CI hCr hS1) (by omega) hmb
  refine q_aload_n dX7_shift_9 rfl ?_
  refine q_getr dX7_shift_10 fl_7_53 rfl rfl ?_
  refine q_iload_n dX7_shift_13 rfl ?_
  refine q_V1 dX7_shift_14 ml_7_297 md_X2_remember (c_remember hC hmk) rfl rfl rfl (by first | decide | omega) (Nat.le_of_ble_eq_true rfl) (Nat.le_of_ble_eq_true rfl) (qk_v ?_)
  refine q_aload_n dX7_shift_17 rfl ?_
  refine q_iload_n dX7_shift_18 rfl ?_
  refine q_V1 dX7_shift_19 ml_7_254 md_X7_onesOfRow (c_onesOfRow hCr hLr hLv (by omega)) rfl rfl rfl (by first | decide | omega) (Nat.le_of_ble_eq_true rfl) (Nat.le_of_ble_eq_true rfl) (qk_e ?_)
  rw [onesI_c hrr]
  refine q_istore_n dX7_shift_22 (Nat.le_of_ble_eq_true rfl) rfl ?_
  refine q_aload_n dX7_shift_23 rfl ?_
  refine q_getr dX7_shift_24 fl_7_26 rfl rfl ?_
  refine q_iload_n dX7_shift_27 rfl ?_
  refine q_iload_n dX7_shift_28 rfl ?_
  refine q_bipush dX7_shift_29 rfl ?_
  refine q_aload_n dX7_shift_31 rfl ?_
  refine q_geti (j := 10) dX7_shift_32 fl_7_121 rfl rfl rfl ?_
  rw [hLr]
  refine q_S1 dX7_shift_35 ml_7_164 md_X7_cellsIn (c_cellsIn (by omega)) rfl (by first | decide | omega) (Nat.le_of_ble_eq_true rfl) (Nat.le_of_ble_eq_true rfl) (qk_e ?_)
  refine q_imul dX7_shift_38 ?_
  refine q_bipush dX7_shift_39 rfl ?_
  refine q_V4 dX7_shift_41 ml_7_280 md_X0_slide (c_slide (by omega) (by omega) (by omega) (by omega) hb (CI_ok hCr (by omega))) rfl rfl rfl (by first | decide | omega) (Nat.le_of_ble_eq_true rfl) (Nat.le_of_ble_eq_true rfl) (qk_v ?_)
  refine q_aload_n dX7_shift_44 rfl ?_
  refine q_getr dX7_shift_45 fl_7_26 rfl rfl ?_
  refine q_bipush dX7_shift_48 rfl ?_
  refine q_iload_n dX7_shift_50 rfl ?_
  refine q_V2 dX7_shift_51 ml_7_135 md_X0_copyRow (c_copyRow (by omega) (by omega)) rfl rfl rfl (by first | decide | omega) (Nat.le_of_ble_eq_true rfl) (Nat.le_of_ble_eq_true rfl) (qk_v ?_)
  rw [hW]
  refine q_iload_n dX7_shift_54 rfl ?_
  refine q_aload_n dX7_shift_55 rfl ?_
  refine q_iload_n dX7_shift_56 rfl ?_
  refine q_V1 dX7_shift_57 ml_7_254 md_X7_onesOfRow (c_onesOfRow hC2 (by rw [qrow_o _ _ (by decide), qrow_o _ _ (by decide)]; exact hLr) hLv (by omega)) rfl rfl rfl (by first | decide | omega) (Nat.le_of_ble_eq_true rfl) (Nat.le_of_ble_eq_true rfl) (qk_e ?_)
  refine q_isub dX7_shift_60 ?_
  refine q_ireturn dX7_shift_61 ?_
  exact gxk rfl ⟨by rw [onesI_c row_at], hS2⟩
set_option maxHeartbeats 2000000 in
theorem k_mirror (hC : CI M) (hL : M 0 10 = (L : Int)) (hk : zR k) : qCt mX7_mirror 2 9 [.ref 0, .int (zI k)] M (qpx (gor (gText M) (gor (gMap M k) 0)) (fun z M' => z = tsz (mkF (miS (rowc M k) (8 * p4 L)) 0 (8 * p4 L)) L 0 ∧ Scr (qrow (rem M k) k (mkF (miS (rowc M k) (8 * p4 L)) 0 (8 * p4 L))) M') (Scr M)) := by
  have hpin := p4_in (L : Int)
  refine q_intro (own := 7) (L := [some (.ref 0), some (.int (zI k))]) md_X7_mirror rfl rfl rfl (Nat.le_of_ble_eq_true rfl) (fun X => ?_)
  refine q_aload_n dX7_mirror_0 rfl ?_
  refine q_V0 dX7_mirror_1 ml_7_141 md_X7_requireText (c_requireText hC) rfl rfl rfl (by first | decide | omega) (Nat.le_of_ble_eq_true rfl) (Nat.le_of_ble_eq_true rfl) (qk_G (fun hq1 => ?_) (Scr_rf hC))
  have hLv := CI_lv hC hL hq1
  refine q_aload_n dX7_mirror_4 rfl ?_
  refine q_iload_n dX7_mirror_5 rfl ?_
  refine q_V1 dX7_mirror_6 ml_7_172 md_X7_requireMap (c_requireMap hC hk) rfl rfl rfl (by first | decide | omega) (Nat.le_of_ble_eq_true rfl) (Nat.le_of_ble_eq_true rfl) (qk_G (fun hq6 => ?_) (Scr_rf hC))
  have hmk := CI_mp hC hq6
  have hCr := rem_CI hC hmk
  have hLr : rem M k 0 10 = (L : Int) := by rw [rem_o (by decide) (by decide) (by decide)]; exact hL
  have hrr := rem_row (k := k) hC (show 0 ≤ k ∧ k < 12 by omega)
  have hmb : ∀ i, 0 ≤ i → i < 256 → 0 ≤ mkF (miS (rowc M k) (8 * p4 L)) 0 (8 * p4 L) i ∧ mkF (miS (rowc M k) (8 * p4 L)) 0 (8 * p4 L) i < 256 := fun i h0 h1 => mkF_in (miS_01 _ _)
  have hmc : ∀ i, 0 ≤ i → i < 256 → mkF (miS (rowc (rem M k) k) (8 * p4 L)) 0 (8 * p4 L) i = mkF (miS (rowc M k) (8 * p4 L)) 0 (8 * p4 L) i := fun i h0 h1 => by
    unfold mkF
    refine ofBits_congr (fun j j0 j1 => ?_)
    by_cases g : 0 ≤ 8 * i + j ∧ 8 * i + j < 8 * p4 L
    · rw [if_pos g, if_pos g]
      unfold miS bitP
      rw [hrr _ (by omega) (by omega)]
    · rw [if_neg g, if_neg g]
  have hS1 : Scr (rem M k) (qrow (rem M k) 32 (mkF (miS (rowc M k) (8 * p4 L)) 0 (8 * p4 L))) := Scr_32 hCr hmb
  have hW : qrow (qrow (rem M k) 32 (mkF (miS (rowc (rem M k) k) (8 * p4 L)) 0 (8 * p4 L))) k (rowc (qrow (rem M k) 32 (mkF (miS (rowc (rem M k) k) (8 * p4 L)) 0 (8 * p4 L))) 32) = qrow (qrow (rem M k) 32 (mkF (miS (rowc M k) (8 * p4 L)) 0 (8 * p4 L))) k (mkF (miS (rowc M k) (8 * p4 L)) 0 (8 * p4 L)) := by
    rw [qrow_congr (rem M k) hmc]
    exact qrow_congr _ row_at
  have hS2 := Scr_row hS1 (show 0 ≤ k ∧ k < 33 by omega) hmb
  have hC2 : CI (qrow (qrow (rem M k) 32 (mkF (miS (rowc M k) (8 * p4 L)) 0 (8 * p4 L))) k (mkF (miS (rowc M k) (8 * p4 L)) 0 (8 * p4 L))) := CI_row (Scr_CI hCr hS1) (by omega) hmb
  refine q_aload_n dX7_mirror_9 rfl ?_
  refine q_getr dX7_mirror_10 fl_7_53 rfl rfl ?_
  refine q_iload_n dX7_mirror_13 rfl ?_
  refine q_V1 dX7_mirror_14 ml_7_297 md_X2_remember (c_remember hC hmk) rfl rfl rfl (by first | decide | omega) (Nat.le_of_ble_eq_true rfl) (Nat.le_of_ble_eq_true rfl) (qk_v ?_)
  refine q_aload_n dX7_mirror_17 rfl ?_
  refine q_getr dX7_mirror_18 fl_7_26 rfl rfl ?_
  refine q_iload_n dX7_mirror_21 rfl ?_
  refine q_bipush dX7_mirror_22 rfl ?_
  refine q_aload_n dX7_mirror_24 rfl ?_
  refine q_geti (j := 10) dX7_mirror_25 fl_7_121 rfl rfl rfl ?_
  rw [hLr]
  refine q_S1 dX7_mirror_28 ml_7_164 md_X7_cellsIn (c_cellsIn (by omega)) rfl (by first | decide | omega) (Nat.le_of_ble_eq_true rfl) (Nat.le_of_ble_eq_true rfl) (qk_e ?_)
  refine q_imul dX7_mirror_31 ?_
  refine q_bipush dX7_mirror_32 rfl ?_
  refine q_V3 dX7_mirror_34 ml_7_307 md_X0_reflect (c_reflect (by omega) (by omega) (by omega) (by omega) (CI_ok hCr (by omega))) rfl rfl rfl (by first | decide | omega) (Nat.le_of_ble_eq_true rfl) (Nat.le_of_ble_eq_true rfl) (qk_v ?_)
  refine q_aload_n dX7_mirror_37 rfl ?_
  refine q_getr dX7_mirror_38 fl_7_26 rfl rfl ?_
  refine q_bipush dX7_mirror_41 rfl ?_
  refine q_iload_n dX7_mirror_43 rfl ?_
  refine q_V2 dX7_mirror_44 ml_7_135 md_X0_copyRow (c_copyRow (by omega) (by omega)) rfl rfl rfl (by first | decide | omega) (Nat.le_of_ble_eq_true rfl) (Nat.le_of_ble_eq_true rfl) (qk_v ?_)
  rw [hW]
  refine q_aload_n dX7_mirror_47 rfl ?_
  refine q_iload_n dX7_mirror_48 rfl ?_
  refine q_V1 dX7_mirror_49 ml_7_202 md_X7_sizeOfRow (c_sizeR hC2 (by rw [qrow_o _ _ (by decide), qrow_o _ _ (by decide)]; exact hLr) hLv (by omega)) rfl rfl rfl (by first | decide | omega) (Nat.le_of_ble_eq_true rfl) (Nat.le_of_ble_eq_true rfl) (qk_g (fun z49 N49 hq49 => ?_))
  obtain ⟨hz, hS3⟩ := hq49
  rw [tsz_row hLv.2 row_at] at hz
  refine q_ireturn dX7_mirror_52 ?_
  exact gxk rfl ⟨hz, Scr_tr hS2 hS3⟩
set_option maxHeartbeats 2000000 in
theorem k_undo (hC : CI M) : qCt mX7_undo 1 9 [.ref 0] M (qpx (gor (if 0 < M 28 3 then 0 else 1) 0) (fun z M' => z = M 28 3 - 1 ∧ M' = gob M) (Scr M)) := by
  have hn2 := hC.2.2.2.2.2.2.2.2.2.1
  refine q_intro (own := 7) (L := [some (.ref 0)]) md_X7_undo rfl rfl rfl (Nat.le_of_ble_eq_true rfl) (fun X => ?_)
  refine q_aload_n dX7_undo_0 rfl ?_
  refine q_getr dX7_undo_1 fl_7_53 rfl rfl ?_
  refine q_V0 dX7_undo_4 ml_7_312 md_X2_length c_hlength rfl rfl rfl (by first | decide | omega) (Nat.le_of_ble_eq_true rfl) (Nat.le_of_ble_eq_true rfl) (qk_e ?_)
  refine q_if_ne (tgt := 21) dX7_undo_7 rfl (by (first | (unfold zR; omega) | (unfold zLR; omega) | omega | (simp only [zR, qup] at *; omega) | (simp [zR, qup]; omega) | (simp [zR, qup]; done))) (fun h7 => ?_) (fun h7 => ?_)
  ·
    refine q_G0 (if_pos (by omega)) ?_
    refine q_aload_n dX7_undo_21 rfl ?_
    refine q_getr dX7_undo_22 fl_7_53 rfl rfl ?_
    refine q_V0 dX7_undo_25 ml_7_318 md_X2_goBack (c_goBack hC (by omega)) rfl rfl rfl (by first | decide | omega) (Nat.le_of_ble_eq_true rfl) (Nat.le_of_ble_eq_true rfl) (qk_v ?_)
    refine q_aload_n dX7_undo_28 rfl ?_
    refine q_getr dX7_undo_29 fl_7_53 rfl rfl ?_
    refine q_V0 dX7_undo_32 ml_7_312 md_X2_length c_hlength rfl rfl rfl (by first | decide | omega) (Nat.le_of_ble_eq_true rfl) (Nat.le_of_ble_eq_true rfl) (qk_e ?_)
    refine q_ireturn dX7_undo_35 ?_
    exact gxk rfl ⟨by unfold gob; rw [qup_s], rfl⟩
  ·
    refine qt_X7_undo_10 (Nat.le_of_ble_eq_true rfl) ?_
    exact gxt1 (by rw [if_neg (by omega)]; rfl) (Scr_rf hC)
/-- j rows from a on become those from r on -/
def rws (M : qM) (r a j : Int) : qM := fun o k => if o = 4 ∧ a * 256 ≤ k ∧ k < (a + j) * 256 then M 4 (k - a * 256 + r * 256) else M o k
theorem rws_s (M : qM) {r a j : Int} (h : r + j < a ∨ a + 6 ≤ r + j) (hj : 0 ≤ j ∧ j < 6) (h' : a + j < r ∨ r + 6 ≤ a) : qrow (rws M r a j) (a + j) (rowc (rws M r a j) (r + j)) = rws M r a (j + 1) := by
  funext o k
  by_cases h4 : o = 4
  · subst h4
    simp only [qrow, rws, rowc]
    by_cases g : (a + j) * 256 ≤ k ∧ k < (a + j) * 256 + 256
    · rw [if_pos ⟨trivial, g⟩, if_neg (fun q => by have := q.2; omega), if_pos ⟨trivial, by omega, by omega⟩, show (r + j) * 256 + (k - (a + j) * 256) = k - a * 256 + r * 256 by omega]
    · rw [if_neg (fun q => g q.2)]
      by_cases g2 : a * 256 ≤ k ∧ k < (a + j) * 256
      · rw [if_pos ⟨trivial, g2⟩, if_pos ⟨trivial, by omega, by omega⟩]
      · rw [if_neg (fun q => g2 q.2), if_neg (fun q => by have := q.2; omega)]
  · rw [qrow_o _ _ h4]
    simp [rws, h4]
theorem rws_0 (M : qM) (r a : Int) : M = rws M r a 0 := by
  funext o k
  unfold rws
  rw [if_neg (by omega)]
theorem rws_o {M : qM} {r a j : Int} {o : Nat} (h : o ≠ 4) : rws M r a j o = M o := by
  funext k
  simp [rws, h]
theorem rws_CI {M : qM} {r a : Int} (hC : CI M) (hr : 0 ≤ r ∧ r + 6 ≤ 33) (ha : 0 ≤ a ∧ a + 6 ≤ 33) : CI (rws M r a 6) := by
  unfold CI
  rw [rws_o (o := 13) (by decide), rws_o (o := 18) (by decide), rws_o (o := 1) (by decide), rws_o (o := 2) (by decide), rws_o (o := 0) (by decide), rws_o (o := 28) (by decide), rws_o (o := 30) (by decide), rws_o (o := 31) (by decide), rws_o (o := 34) (by decide), rws_o (o := 36) (by decide)]
  refine ⟨fun i h0 h1 => ?_, hC.2⟩
  unfold rws
  by_cases g : (4 : Nat) = 4 ∧ a * 256 ≤ i ∧ i < (a + 6) * 256
  · rw [if_pos g]; exact hC.1 _ (by have := g.2; omega) (by have := g.2; omega)
  · rw [if_neg g]; exact hC.1 i h0 h1
theorem CI_sv {M : qM} {s : Int} (hC : CI M) (hs : 0 ≤ s ∧ s < 2) (h9 : M 0 9 = 1) : CI (qup M 36 s 1) := by
  obtain ⟨a1, a2, a3, a4, a5, a6, a7, a8, a9, a10, a11, a12, a13, a14, a15⟩ := hC
  have e : ∀ o, o ≠ 36 → qup M 36 s 1 o = M o := fun o h1 => by funext j; exact qup_o _ _ _ _ h1
  unfold CI
  rw [e 4 (by decide), e 13 (by decide), e 18 (by decide), e 1 (by decide), e 2 (by decide), e 0 (by decide), e 28 (by decide), e 30 (by decide), e 31 (by decide), e 34 (by decide)]
  refine ⟨a1, a2, a3, a4, a5, a6, a7, a8, a9, a10, a11, a12, a13, fun j h0 h1 => ?_, fun _ _ _ _ => h9⟩
  by_cases g : j = s
  · subst g; rw [qup_s]; exact Or.inr rfl
  · rw [qup_k _ _ _ g]; exact a14 j h0 h1
theorem CI_fg {M : qM} (hC : CI M) : CI (qup M 28 3 0) := by
  obtain ⟨a1, a2, a3, a4, a5, a6, a7, a8, a9, a10, a11, a12, a13, a14⟩ := hC
  have e : ∀ o, o ≠ 28 → qup M 28 3 0 o = M o := fun o h1 => by funext j; exact qup_o _ _ _ _ h1
  unfold CI
  rw [e 4 (by decide), e 13 (by decide), e 18 (by decide), e 1 (by decide), e 2 (by decide), e 0 (by decide), e 30 (by decide), e 31 (by decide), e 34 (by decide), e 36 (by decide), qup_s, qup_k _ _ _ (by decide)]
  exact ⟨a1, a2, a3, a4, a5, a6, a7, a8, a9, ⟨by omega, by omega⟩, a11, a12, a13, a14⟩
set_option maxHeartbeats 2000000 in
theorem k_save (hC : CI M) (hL : M 0 10 = (L : Int)) (hs : zR s) : qCt mX7_save 2 9 [.ref 0, .int (zI s)] M (qpx (gor (gText M) (gor (gSlot s) 0)) (fun z M' => z = zsum (fun k => tsz (rowc M k) L 0) 0 (M 0 11).toNat ∧ Scr (qup (rws M 0 (20 + s * 6) 6) 36 s 1) M') (Scr M)) := by
  have hmp := CI_maps hC
  refine q_intro (own := 7) (L := [some (.ref 0), some (.int (zI s)), none]) md_X7_save rfl rfl rfl (Nat.le_of_ble_eq_true rfl) (fun X => ?_)
  refine q_aload_n dX7_save_0 rfl ?_
  refine q_V0 dX7_save_1 ml_7_141 md_X7_requireText (c_requireText hC) rfl rfl rfl (by first | decide | omega) (Nat.le_of_ble_eq_true rfl) (Nat.le_of_ble_eq_true rfl) (qk_G (fun hq1 => ?_) (Scr_rf hC))
  have hLv := CI_lv hC hL hq1
  refine q_aload_n dX7_save_4 rfl ?_
  refine q_iload_n dX7_save_5 rfl ?_
  refine q_V1 dX7_save_6 ml_7_321 md_X7_requireSlot (c_requireSlot hs) rfl rfl rfl (by first | decide | omega) (Nat.le_of_ble_eq_true rfl) (Nat.le_of_ble_eq_true rfl) (qk_G (fun hq6 => ?_) (Scr_rf hC))
  have hsl := gSlot_0.1 hq6
  have hC2 : CI (qup (rws M 0 (20 + s * 6) 6) 36 s 1) := CI_sv (rws_CI hC (by omega) (by omega)) hsl (by rw [rws_o (by decide)]; exact gText_0.1 hq1)
  have hL2 : qup (rws M 0 (20 + s * 6) 6) 36 s 1 0 10 = (L : Int) := by rw [qup_o _ _ _ _ (by decide), rws_o (by decide)]; exact hL
  have hM2 : qup (rws M 0 (20 + s * 6) 6) 36 s 1 0 11 = M 0 11 := by rw [qup_o _ _ _ _ (by decide), rws_o (by decide)]
  have hrw : ∀ k, 0 ≤ k → k < M 0 11 → tsz (rowc (qup (rws M 0 (20 + s * 6) 6) 36 s 1) k) L 0 = tsz (rowc M k) L 0 := fun k h0 h1 => tsz_row hLv.2 (fun i i0 i1 => by
    unfold rowc
    rw [qup_o _ _ _ _ (by decide)]
    unfold rws
    rw [if_neg (fun q => by have := q.2; omega)])
  refine q_iconst dX7_save_9 ?_
  refine q_istore_n dX7_save_10 (Nat.le_of_ble_eq_true rfl) rfl ?_
  refine q_lp (fun j : Int => (6 - j).toNat) (fun j => 0 ≤ j ∧ j ≤ 6) (fun j => [some (.ref 0), some (.int (zI s)), some (.int (zI j))]) (fun j => rws M 0 (20 + s * 6) j) 0 rfl (rws_0 M 0 (20 + s * 6)) ⟨by omega, by omega⟩ (fun j hj ih => ?_)
  refine q_iload_n dX7_save_11 rfl ?_
  refine q_bipush dX7_save_12 rfl ?_
  refine q_icmp_ge (tgt := 40) dX7_save_14 rfl (by (first | (unfold zR; omega) | (unfold zLR; omega) | omega | (simp only [zR, qup] at *; omega) | (simp [zR, qup]; omega) | (simp [zR, qup]; done))) (by (first | (unfold zR; omega) | (unfold zLR; omega) | omega | (simp only [zR, qup] at *; omega) | (simp [zR, qup]; omega) | (simp [zR, qup]; done))) (fun h14 => ?_) (fun h14 => ?_)
  rotate_left
  ·
    refine q_aload_n dX7_save_17 rfl ?_
    refine q_getr dX7_save_18 fl_7_26 rfl rfl ?_
    refine q_iload_n dX7_save_21 rfl ?_
    refine q_bipush dX7_save_22 rfl ?_
    refine q_iload_n dX7_save_24 rfl ?_
    refine q_bipush dX7_save_25 rfl ?_
    refine q_imul dX7_save_27 ?_
    refine q_iadd dX7_save_28 ?_
    refine q_iload_n dX7_save_29 rfl ?_
    refine q_iadd dX7_save_30 ?_
    refine q_V2 dX7_save_31 ml_7_135 md_X0_copyRow (c_copyRow (by omega) (by omega)) rfl rfl rfl (by first | decide | omega) (Nat.le_of_ble_eq_true rfl) (Nat.le_of_ble_eq_true rfl) (qk_v ?_)
    refine q_iinc dX7_save_34 rfl (Nat.le_of_ble_eq_true rfl) rfl ?_
    refine q_goto (tgt := 11) dX7_save_37 rfl ?_
    exact ih (j + 1) _ _ ⟨by omega, by omega⟩ (by omega) rfl (by
      have := rws_s M (r := 0) (a := 20 + s * 6) (j := j) (by omega) ⟨hj.1, h14⟩ (by omega)
      rw [Int.zero_add] at this
      exact this)
  refine q_aload_n dX7_save_40 rfl ?_
  refine q_getr dX7_save_41 fl_7_67 rfl rfl ?_
  refine q_iload_n dX7_save_44 rfl ?_
  refine q_iconst dX7_save_45 ?_
  refine q_V2 dX7_save_46 ml_7_131 md_X5_set (c_rset (o := 35) (r := 36) (n := 2) rfl rfl (by decide) (by omega)) rfl rfl rfl (by first | decide | omega) (Nat.le_of_ble_eq_true rfl) (Nat.le_of_ble_eq_true rfl) (qk_v ?_)
  rw [show j = 6 by omega]
  refine q_aload_n dX7_save_49 rfl ?_
  refine q_V0 dX7_save_50 ml_7_167 md_X7_sizeOfAll (c_sizeOfAll hC2 hL2 hLv) rfl rfl rfl (by first | decide | omega) (Nat.le_of_ble_eq_true rfl) (Nat.le_of_ble_eq_true rfl) (qk_g (fun z50 N50 hq50 => ?_))
  obtain ⟨hz, hS⟩ := hq50
  rw [hM2, zsum_congr (fun k h0 h1 => hrw k h0 (by omega))] at hz
  refine q_ireturn dX7_save_53 ?_
  exact gxk rfl ⟨hz, hS⟩
set_option maxHeartbeats 2000000 in
theorem k_restore (hC : CI M) (hL : M 0 10 = (L : Int)) (hs : zR s) : qCt mX7_restore 2 9 [.ref 0, .int (zI s)] M (qpx (gor (gSlot s) (gor (if M 36 s ≠ 0 then 0 else 1) 0)) (fun z M' => z = zsum (fun k => tsz (rowc M (20 + s * 6 + k)) L 0) 0 (M 0 11).toNat ∧ Scr (qup (rws M (20 + s * 6) 0 6) 28 3 0) M') (Scr M)) := by
  have hmp := CI_maps hC
  refine q_intro (own := 7) (L := [some (.ref 0), some (.int (zI s)), none]) md_X7_restore rfl rfl rfl (Nat.le_of_ble_eq_true rfl) (fun X => ?_)
  refine q_aload_n dX7_restore_0 rfl ?_
  refine q_iload_n dX7_restore_1 rfl ?_
  refine q_V1 dX7_restore_2 ml_7_321 md_X7_requireSlot (c_requireSlot hs) rfl rfl rfl (by first | decide | omega) (Nat.le_of_ble_eq_true rfl) (Nat.le_of_ble_eq_true rfl) (qk_G (fun hq2 => ?_) (Scr_rf hC))
  have hsl := gSlot_0.1 hq2
  have hsv := hC.2.2.2.2.2.2.2.2.2.2.2.2.2.1 s hsl.1 hsl.2
  refine q_aload_n dX7_restore_5 rfl ?_
  refine q_getr dX7_restore_6 fl_7_67 rfl rfl ?_
  refine q_iload_n dX7_restore_9 rfl ?_
  refine q_V1 dX7_restore_10 ml_7_147 md_X5_get (c_rget (o := 35) (r := 36) (n := 2) rfl rfl (by decide) (by omega)) rfl rfl rfl (by first | decide | omega) (Nat.le_of_ble_eq_true rfl) (Nat.le_of_ble_eq_true rfl) (qk_e ?_)
  refine q_if_ne (tgt := 27) dX7_restore_13 rfl (by (first | (unfold zR; omega) | (unfold zLR; omega) | omega | (simp only [zR, qup] at *; omega) | (simp [zR, qup]; omega) | (simp [zR, qup]; done))) (fun h13 => ?_) (fun h13 => ?_)
  ·
    refine q_G0 (if_pos (by omega)) ?_
    have hLv := CI_lv hC hL (gText_0.2 (hC.2.2.2.2.2.2.2.2.2.2.2.2.2.2 s hsl.1 hsl.2 (by omega)))
    have hC2 : CI (qup (rws M (20 + s * 6) 0 6) 28 3 0) := CI_fg (rws_CI hC (by omega) (by omega))
    have hL2 : qup (rws M (20 + s * 6) 0 6) 28 3 0 0 10 = (L : Int) := by rw [qup_o _ _ _ _ (by decide), rws_o (by decide)]; exact hL
    have hM2 : qup (rws M (20 + s * 6) 0 6) 28 3 0 0 11 = M 0 11 := by rw [qup_o _ _ _ _ (by decide), rws_o (by decide)]
    have hrw : ∀ k, 0 ≤ k → k < M 0 11 → tsz (rowc (qup (rws M (20 + s * 6) 0 6) 28 3 0) k) L 0 = tsz (rowc M (20 + s * 6 + k)) L 0 := fun k h0 h1 => tsz_row hLv.2 (fun i i0 i1 => by
      unfold rowc
      rw [qup_o _ _ _ _ (by decide)]
      unfold rws
      rw [if_pos ⟨rfl, by omega, by omega⟩, show k * 256 + i - 0 * 256 + (20 + s * 6) * 256 = (20 + s * 6 + k) * 256 + i by omega])
    refine q_iconst dX7_restore_27 ?_
    refine q_istore_n dX7_restore_28 (Nat.le_of_ble_eq_true rfl) rfl ?_
    refine q_lp (fun j : Int => (6 - j).toNat) (fun j => 0 ≤ j ∧ j ≤ 6) (fun j => [some (.ref 0), some (.int (zI s)), some (.int (zI j))]) (fun j => rws M (20 + s * 6) 0 j) 0 rfl (rws_0 M (20 + s * 6) 0) ⟨by omega, by omega⟩ (fun j hj ih => ?_)
    refine q_iload_n dX7_restore_29 rfl ?_
    refine q_bipush dX7_restore_30 rfl ?_
    refine q_icmp_ge (tgt := 58) dX7_restore_32 rfl (by (first | (unfold zR; omega) | (unfold zLR; omega) | omega | (simp only [zR, qup] at *; omega) | (simp [zR, qup]; omega) | (simp [zR, qup]; done))) (by (first | (unfold zR; omega) | (unfold zLR; omega) | omega | (simp only [zR, qup] at *; omega) | (simp [zR, qup]; omega) | (simp [zR, qup]; done))) (fun h32 => ?_) (fun h32 => ?_)
    rotate_left
    ·
      refine q_aload_n dX7_restore_35 rfl ?_
      refine q_getr dX7_restore_36 fl_7_26 rfl rfl ?_
      refine q_bipush dX7_restore_39 rfl ?_
      refine q_iload_n dX7_restore_41 rfl ?_
      refine q_bipush dX7_restore_42 rfl ?_
      refine q_imul dX7_restore_44 ?_
      refine q_iadd dX7_restore_45 ?_
      refine q_iload_n dX7_restore_46 rfl ?_
      refine q_iadd dX7_restore_47 ?_
      refine q_iload_n dX7_restore_48 rfl ?_
      refine q_V2 dX7_restore_49 ml_7_135 md_X0_copyRow (c_copyRow (by omega) (by omega)) rfl rfl rfl (by first | decide | omega) (Nat.le_of_ble_eq_true rfl) (Nat.le_of_ble_eq_true rfl) (qk_v ?_)
      refine q_iinc dX7_restore_52 rfl (Nat.le_of_ble_eq_true rfl) rfl ?_
      refine q_goto (tgt := 29) dX7_restore_55 rfl ?_
      exact ih (j + 1) _ _ ⟨by omega, by omega⟩ (by omega) rfl (by
        have := rws_s M (r := 20 + s * 6) (a := 0) (j := j) (by omega) ⟨hj.1, h32⟩ (by omega)
        rw [Int.zero_add] at this
        exact this)
    refine q_aload_n dX7_restore_58 rfl ?_
    refine q_getr dX7_restore_59 fl_7_53 rfl rfl ?_
    refine q_V0 dX7_restore_62 ml_7_138 md_X2_forget c_forget rfl rfl rfl (by first | decide | omega) (Nat.le_of_ble_eq_true rfl) (Nat.le_of_ble_eq_true rfl) (qk_v ?_)
    rw [show j = 6 by omega]
    refine q_aload_n dX7_restore_65 rfl ?_
    refine q_V0 dX7_restore_66 ml_7_167 md_X7_sizeOfAll (c_sizeOfAll hC2 hL2 hLv) rfl rfl rfl (by first | decide | omega) (Nat.le_of_ble_eq_true rfl) (Nat.le_of_ble_eq_true rfl) (qk_g (fun z66 N66 hq66 => ?_))
    obtain ⟨hz, hS⟩ := hq66
    rw [hM2, zsum_congr (fun k h0 h1 => hrw k h0 (by omega))] at hz
    refine q_ireturn dX7_restore_69 ?_
    exact gxk rfl ⟨hz, hS⟩
  ·
    refine qt_X7_restore_16 (Nat.le_of_ble_eq_true rfl) ?_
    exact gxt1 (by rw [if_neg (by omega)]; rfl) (Scr_rf hC)
set_option maxHeartbeats 2000000 in
theorem k_read (hC : CI M) (hL : M 0 10 = (L : Int)) (hk : zR k) (hn : zR n) : qCt mX7_read 4 9 [.ref 0, .int (zI k), .int (zI n)] M (rdP M L k n) := by
  have hlen := CI_len hC
  have hpin := p4_in (L : Int)
  refine q_intro (own := 7) (L := [some (.ref 0), some (.int (zI k)), some (.int (zI n)), none]) md_X7_read rfl rfl rfl (Nat.le_of_ble_eq_true rfl) (fun X => ?_)
  refine q_aload_n dX7_read_0 rfl ?_
  refine q_V0 dX7_read_1 ml_7_141 md_X7_requireText (c_requireText hC) rfl rfl rfl (by first | decide | omega) (Nat.le_of_ble_eq_true rfl) (Nat.le_of_ble_eq_true rfl) (qk_Gp (fun hq1 => ?_) (fun hg => Or.inl ⟨by rw [gor_n hg]; exact hg, by rw [gor_n hg], rfl⟩))
  have hLv := CI_lv hC hL hq1
  refine q_aload_n dX7_read_4 rfl ?_
  refine q_iload_n dX7_read_5 rfl ?_
  refine q_V1 dX7_read_6 ml_7_172 md_X7_requireMap (c_requireMap hC hk) rfl rfl rfl (by first | decide | omega) (Nat.le_of_ble_eq_true rfl) (Nat.le_of_ble_eq_true rfl) (qk_Gp (fun hq6 => ?_) (fun hg => Or.inl ⟨by rw [gor_0 hq1, gor_n hg]; exact hg, by rw [gor_0 hq1, gor_n hg], rfl⟩))
  refine q_aload_n dX7_read_9 rfl ?_
  refine q_iload_n dX7_read_10 rfl ?_
  refine q_V1 dX7_read_11 ml_7_85 md_X7_requireBuffered (c_requireBuffered hC hn) rfl rfl rfl (by first | decide | omega) (Nat.le_of_ble_eq_true rfl) (Nat.le_of_ble_eq_true rfl) (qk_Gp (fun hq11 => ?_) (fun hg => Or.inl ⟨by rw [gor_0 hq1, gor_0 hq6, gor_n hg]; exact hg, by rw [gor_0 hq1, gor_0 hq6, gor_n hg], rfl⟩))
  have hnb := gBuf_0.1 hq11
  have hmk := CI_mp hC hq6
  refine q_aload_n dX7_read_14 rfl ?_
  refine q_iload_n dX7_read_15 rfl ?_
  refine q_V1 dX7_read_16 ml_7_150 md_X7_readToScratch (c_readToScratch hC hL hLv hnb) rfl rfl rfl (by first | decide | omega) (Nat.le_of_ble_eq_true rfl) (Nat.le_of_ble_eq_true rfl) (qk_g (fun z16 N16 hq16 => ?_))
  obtain ⟨hz, hS, hcell⟩ := hq16
  have hC1 := Scr_CI hC hS
  have hS0 : Scr (qup M 1 1 0) (qup N16 1 1 0) := Scr_up hS (by unfold sfr; decide) 1 0
  have hC0 : CI (qup M 1 1 0) := CI_clr hC
  have hCn : CI (qup N16 1 1 0) := CI_clr hC1
  have hzr : zR z16 := by have := oj_in (src := M 2) (L := L) (n := n) (by omega); unfold zR; omega
  refine q_istore_n dX7_read_19 (Nat.le_of_ble_eq_true rfl) rfl ?_
  refine q_aload_n dX7_read_20 rfl ?_
  refine q_getr dX7_read_21 fl_7_22 rfl rfl ?_
  refine q_V0 dX7_read_24 ml_7_91 md_X1_clear (c_bclear (o := 1) (r := 2) rfl) rfl rfl rfl (by first | decide | omega) (Nat.le_of_ble_eq_true rfl) (Nat.le_of_ble_eq_true rfl) (qk_v ?_)
  refine q_iload_n dX7_read_27 rfl ?_
  refine q_iconst dX7_read_28 ?_
  refine q_icmp_eq (tgt := 43) dX7_read_29 rfl (by (first | (unfold zR; omega) | (unfold zLR; omega) | omega | (simp only [zR, qup] at *; omega) | (simp [zR, qup]; omega) | (simp [zR, qup]; done))) (by (first | (unfold zR; omega) | (unfold zLR; omega) | omega | (simp only [zR, qup] at *; omega) | (simp [zR, qup]; omega) | (simp [zR, qup]; done))) (fun h29 => ?_) (fun h29 => ?_)
  ·
    have hz1 : z16 = -1 := by omega
    have hCr : CI (rem (qup N16 1 1 0) k) := rem_CI hCn hmk
    have hLr : rem (qup N16 1 1 0) k 0 10 = (L : Int) := by rw [rem_o (by decide) (by decide) (by decide), qup_o _ _ _ _ (by decide), Scr_lv hS]; exact hL
    have hFb : ∀ i, 0 ≤ i → i < 256 → 0 ≤ rowc (rem (qup N16 1 1 0) k) 32 i ∧ rowc (rem (qup N16 1 1 0) k) 32 i < 256 := CI_ok hCr (by omega)
    have hF : ∀ i, 0 ≤ i → i < p4 L → rowc (rem (qup N16 1 1 0) k) 32 i = (oj (M 2) L n).2 i := fun i i0 i1 => by
      rw [← hcell hz1 i i0 i1]
      have hl : (if (qup N16 1 1 0) 28 2 + 1 < 8 then (qup N16 1 1 0) 28 2 + 1 else 0) < 8 := by
        have := hCn.2.2.2.2.2.2.2.2.1
        by_cases g : (qup N16 1 1 0) 28 2 + 1 < 8
        · rw [if_pos g]; exact g
        · rw [if_neg g]; omega
      unfold rowc rem
      generalize (if (qup N16 1 1 0) 28 2 + 1 < 8 then (qup N16 1 1 0) 28 2 + 1 else 0) = l at hl
      rw [qup_o _ _ _ _ (by decide)]
      simp only [qrow]
      rw [if_neg (fun q => by have := q.2; omega), qup_o _ _ _ _ (by decide), qup_o _ _ _ _ (by decide), qup_o _ _ _ _ (by decide)]
    have hC2 := CI_row hCr (show 0 ≤ k ∧ k < 33 by omega) hFb
    have hSw : Scr (qrow (rem (qup M 1 1 0) k) k (rowc (rem (qup N16 1 1 0) k) 32)) (qrow (rem (qup N16 1 1 0) k) k (rowc (rem (qup N16 1 1 0) k) 32)) := Scr_row (rem_Scr hC0 hS0 hmk) (by omega) hFb
    refine q_aload_n dX7_read_43 rfl ?_
    refine q_getr dX7_read_44 fl_7_53 rfl rfl ?_
    refine q_iload_n dX7_read_47 rfl ?_
    refine q_V1 dX7_read_48 ml_7_297 md_X2_remember (c_remember hCn hmk) rfl rfl rfl (by first | decide | omega) (Nat.le_of_ble_eq_true rfl) (Nat.le_of_ble_eq_true rfl) (qk_v ?_)
    refine q_aload_n dX7_read_51 rfl ?_
    refine q_getr dX7_read_52 fl_7_26 rfl rfl ?_
    refine q_bipush dX7_read_55 rfl ?_
    refine q_iload_n dX7_read_57 rfl ?_
    refine q_V2 dX7_read_58 ml_7_135 md_X0_copyRow (c_copyRow (by omega) (by omega)) rfl rfl rfl (by first | decide | omega) (Nat.le_of_ble_eq_true rfl) (Nat.le_of_ble_eq_true rfl) (qk_v ?_)
    refine q_aload_n dX7_read_61 rfl ?_
    refine q_iload_n dX7_read_62 rfl ?_
    refine q_V1 dX7_read_63 ml_7_254 md_X7_onesOfRow (c_onesOfRow hC2 (by rw [qrow_o _ _ (by decide)]; exact hLr) hLv (by omega)) rfl rfl rfl (by first | decide | omega) (Nat.le_of_ble_eq_true rfl) (Nat.le_of_ble_eq_true rfl) (qk_e ?_)
    refine q_ireturn dX7_read_66 ?_
    exact ⟨hq1, hq6, hq11, by rw [← hz]; exact hz1, by rw [onesI_c row_at, onesI_p (n := p4 L) (by omega) (by omega) (by omega) hF], _, hF, hFb, hSw⟩
  ·
    refine qt_X7_read_32 (Nat.le_of_ble_eq_true rfl) ?_
    exact Or.inr ⟨hq1, hq6, hq11, by rw [← hz]; exact h29, rfl, hS0⟩
end GN


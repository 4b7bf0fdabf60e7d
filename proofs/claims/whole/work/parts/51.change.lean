/-! The class: its changes. -/
theorem rem_row {M : qM} {k r : Int} (h : CI M) (hr : 0 ≤ r ∧ r < 12) : ∀ i, 0 ≤ i → i < 256 → rowc (rem M k) r i = rowc M r i := fun i h0 h1 => by
  have hl : 0 ≤ (if M 28 2 + 1 < 8 then M 28 2 + 1 else 0) := by
    have := h.2.2.2.2.2.2.2.2.1
    by_cases g : M 28 2 + 1 < 8
    · rw [if_pos g]; omega
    · rw [if_neg g]; omega
  unfold rowc rem
  generalize (if M 28 2 + 1 < 8 then M 28 2 + 1 else 0) = l at hl
  rw [qup_o _ _ _ _ (by decide)]
  simp only [qrow]
  rw [if_neg (fun q => by have := q.2; omega), qup_o _ _ _ _ (by decide), qup_o _ _ _ _ (by decide)]
theorem rem_o {M : qM} {k : Int} {o : Nat} (h4 : o ≠ 4) (h28 : o ≠ 28) (h30 : o ≠ 30) : rem M k o = M o := by
  funext j
  unfold rem
  rw [qup_o _ _ _ _ h28, qrow_o _ _ h4, qup_o _ _ _ _ h30, qup_o _ _ _ _ h28]
theorem cpy_row (M : qM) {r f t n : Int} (hf : 0 ≤ f ∧ f + n ≤ 256) (ht : 0 ≤ t ∧ t + n ≤ 256) : qcpy M 4 (r * 256 + f) (r * 256 + t) n = qrow M r (fcpy (rowc M r) f t n) := by
  funext o k
  simp only [qcpy, qrow, fcpy, rowc]
  by_cases h4 : o = 4
  · subst h4
    by_cases g : r * 256 ≤ k ∧ k < r * 256 + 256
    · by_cases g2 : r * 256 + t ≤ k ∧ k < r * 256 + t + n
      · rw [if_pos ⟨rfl, g2⟩, if_pos ⟨rfl, g⟩, if_pos ⟨by omega, by omega⟩, show r * 256 + f + (k - (r * 256 + t)) = r * 256 + (f + (k - r * 256 - t)) by omega]
      · rw [if_neg (fun q => g2 q.2), if_pos ⟨rfl, g⟩, if_neg (by omega), show r * 256 + (k - r * 256) = k by omega]
    · rw [if_neg (fun q => g ⟨by have := q.2; omega, by have := q.2; omega⟩), if_neg (fun q => g q.2)]
  · rw [if_neg (fun q => h4 q.1), if_neg (fun q => h4 q.1)]
theorem fcpy_c {c c' : Int → Int} {f t n : Int} (hf : 0 ≤ f ∧ f + n ≤ 256) (ht : 0 ≤ t ∧ t + n ≤ 256) (h : ∀ i, 0 ≤ i → i < 256 → c i = c' i) : ∀ i, 0 ≤ i → i < 256 → fcpy c f t n i = fcpy c' f t n i := fun i h0 h1 => by
  unfold fcpy
  by_cases g : t ≤ i ∧ i < t + n
  · rw [if_pos g, if_pos g, h _ (by omega) (by omega)]
  · rw [if_neg g, if_neg g, h i h0 h1]
section GM
variable {M : qM} {L : Nat} {k o w l x y p q f t b n : Int}
set_option maxHeartbeats 2000000 in
theorem k_fill (hC : CI M) (hL : M 0 10 = (L : Int)) (hk : zR k) (hf : zR f) (ht : zR t) (hb : zR b) : qCt mX7_fill 6 9 [.ref 0, .int (zI k), .int (zI f), .int (zI t), .int (zI b)] M (qpx (gor (gText M) (gor (gMap M k) (gor (gRng M f t) (gor (gBit b) 0)))) (fun z M' => z = (if b = 1 then t - f + 1 - onesI (rowc M k) f t else onesI (rowc M k) f t) ∧ Scr (qrow (rem M k) k (covF (rowc M k) f t b)) M') (Scr M)) := by
  refine q_intro (own := 7) (L := [some (.ref 0), some (.int (zI k)), some (.int (zI f)), some (.int (zI t)), some (.int (zI b)), none]) md_X7_fill rfl rfl rfl (Nat.le_of_ble_eq_true rfl) (fun X => ?_)
  refine q_aload_n dX7_fill_0 rfl ?_
  refine q_V0 dX7_fill_1 ml_7_141 md_X7_requireText (c_requireText hC) rfl rfl rfl (by first | decide | omega) (Nat.le_of_ble_eq_true rfl) (Nat.le_of_ble_eq_true rfl) (qk_G (fun hq1 => ?_) (Scr_rf hC))
  have hLv := CI_lv hC hL hq1
  refine q_aload_n dX7_fill_4 rfl ?_
  refine q_iload_n dX7_fill_5 rfl ?_
  refine q_V1 dX7_fill_6 ml_7_172 md_X7_requireMap (c_requireMap hC hk) rfl rfl rfl (by first | decide | omega) (Nat.le_of_ble_eq_true rfl) (Nat.le_of_ble_eq_true rfl) (qk_G (fun hq6 => ?_) (Scr_rf hC))
  refine q_aload_n dX7_fill_9 rfl ?_
  refine q_iload_n dX7_fill_10 rfl ?_
  refine q_iload_n dX7_fill_11 rfl ?_
  refine q_V2 dX7_fill_12 ml_7_182 md_X7_requireRange (c_requireRange hL hLv hf ht) rfl rfl rfl (by first | decide | omega) (Nat.le_of_ble_eq_true rfl) (Nat.le_of_ble_eq_true rfl) (qk_G (fun hq12 => ?_) (Scr_rf hC))
  refine q_aload_n dX7_fill_15 rfl ?_
  refine q_iload dX7_fill_16 rfl ?_
  refine q_V1 dX7_fill_18 ml_7_189 md_X7_requireBit (c_requireBit hb) rfl rfl rfl (by first | decide | omega) (Nat.le_of_ble_eq_true rfl) (Nat.le_of_ble_eq_true rfl) (qk_G (fun hq18 => ?_) (Scr_rf hC))
  have hmk := CI_mp hC hq6
  have hps := CI_rg hL hq12
  have hbb := gBit_0.1 hq18
  have hCr := rem_CI hC hmk
  have hrr := rem_row (k := k) hC (show 0 ≤ k ∧ k < 12 by omega)
  have hW : qrow (rem M k) k (covF (rowc (rem M k) k) f t b) = qrow (rem M k) k (covF (rowc M k) f t b) := qrow_congr _ (cov_c hrr f t b)
  have hoi := zsum_in (f := ind (rowc M k) f t) (a := 0) (B := 1) (n := 2048) (fun p _ _ => by have := ind_01 (rowc M k) f t p; omega)
  refine q_aload_n dX7_fill_21 rfl ?_
  refine q_getr dX7_fill_22 fl_7_53 rfl rfl ?_
  refine q_iload_n dX7_fill_25 rfl ?_
  refine q_V1 dX7_fill_26 ml_7_297 md_X2_remember (c_remember hC hmk) rfl rfl rfl (by first | decide | omega) (Nat.le_of_ble_eq_true rfl) (Nat.le_of_ble_eq_true rfl) (qk_v ?_)
  refine q_aload_n dX7_fill_29 rfl ?_
  refine q_getr dX7_fill_30 fl_7_26 rfl rfl ?_
  refine q_iload_n dX7_fill_33 rfl ?_
  refine q_iload_n dX7_fill_34 rfl ?_
  refine q_iload_n dX7_fill_35 rfl ?_
  refine q_V3 dX7_fill_36 ml_7_185 md_X0_onesIn (c_onesIn (by omega) (by omega) (by omega) (by omega) (CI_ok hCr (by omega))) rfl rfl rfl (by first | decide | omega) (Nat.le_of_ble_eq_true rfl) (Nat.le_of_ble_eq_true rfl) (qk_e ?_)
  rw [onesI_c hrr]
  refine q_istore dX7_fill_39 (Nat.le_of_ble_eq_true rfl) rfl ?_
  refine q_aload_n dX7_fill_41 rfl ?_
  refine q_getr dX7_fill_42 fl_7_26 rfl rfl ?_
  refine q_iload_n dX7_fill_45 rfl ?_
  refine q_iload_n dX7_fill_46 rfl ?_
  refine q_iload_n dX7_fill_47 rfl ?_
  refine q_iload dX7_fill_48 rfl ?_
  refine q_V4 dX7_fill_50 ml_7_277 md_X0_cover (c_cover (by omega) (by omega) (by omega) (by omega) hbb (CI_ok hCr (by omega))) rfl rfl rfl (by first | decide | omega) (Nat.le_of_ble_eq_true rfl) (Nat.le_of_ble_eq_true rfl) (qk_v ?_)
  rw [hW]
  have hSf := Scr_rf (CI_row hCr (show 0 ≤ k ∧ k < 33 by omega) (fun i h0 h1 => covF_in (c := rowc M k) (f := f) (t := t) (k := i) hbb))
  refine q_iload dX7_fill_53 rfl ?_
  refine q_iconst dX7_fill_55 ?_
  refine q_icmp_ne (tgt := 70) dX7_fill_56 rfl (by (first | (unfold zR; omega) | (unfold zLR; omega) | omega | (simp only [zR, qup] at *; omega) | (simp [zR, qup]; omega) | (simp [zR, qup]; done))) (by (first | (unfold zR; omega) | (unfold zLR; omega) | omega | (simp only [zR, qup] at *; omega) | (simp [zR, qup]; omega) | (simp [zR, qup]; done))) (fun h56 => ?_) (fun h56 => ?_)
  ·
    refine q_iload dX7_fill_70 rfl ?_
    refine q_ireturn dX7_fill_72 ?_
    exact gxk rfl ⟨by rw [if_neg (by omega)], hSf⟩
  ·
    refine q_iload_n dX7_fill_59 rfl ?_
    refine q_iload_n dX7_fill_60 rfl ?_
    refine q_isub dX7_fill_61 ?_
    refine q_iconst dX7_fill_62 ?_
    refine q_iadd dX7_fill_63 ?_
    refine q_iload dX7_fill_64 rfl ?_
    refine q_isub dX7_fill_66 ?_
    refine q_goto (tgt := 72) dX7_fill_67 rfl ?_
    refine q_ireturn dX7_fill_72 ?_
    exact gxk rfl ⟨by rw [if_pos (by omega)], hSf⟩
set_option maxHeartbeats 2000000 in
theorem k_flip (hC : CI M) (hL : M 0 10 = (L : Int)) (hk : zR k) (hf : zR f) (ht : zR t) : qCt mX7_flip 5 9 [.ref 0, .int (zI k), .int (zI f), .int (zI t)] M (qpx (gor (gText M) (gor (gMap M k) (gor (gRng M f t) 0))) (fun z M' => z = tsz (flpF (rowc M k) f t) L 0 - tsz (rowc M k) L 0 ∧ Scr (qrow (rem M k) k (flpF (rowc M k) f t)) M') (Scr M)) := by
  refine q_intro (own := 7) (L := [some (.ref 0), some (.int (zI k)), some (.int (zI f)), some (.int (zI t)), none]) md_X7_flip rfl rfl rfl (Nat.le_of_ble_eq_true rfl) (fun X => ?_)
  refine q_aload_n dX7_flip_0 rfl ?_
  refine q_V0 dX7_flip_1 ml_7_141 md_X7_requireText (c_requireText hC) rfl rfl rfl (by first | decide | omega) (Nat.le_of_ble_eq_true rfl) (Nat.le_of_ble_eq_true rfl) (qk_G (fun hq1 => ?_) (Scr_rf hC))
  have hLv := CI_lv hC hL hq1
  refine q_aload_n dX7_flip_4 rfl ?_
  refine q_iload_n dX7_flip_5 rfl ?_
  refine q_V1 dX7_flip_6 ml_7_172 md_X7_requireMap (c_requireMap hC hk) rfl rfl rfl (by first | decide | omega) (Nat.le_of_ble_eq_true rfl) (Nat.le_of_ble_eq_true rfl) (qk_G (fun hq6 => ?_) (Scr_rf hC))
  refine q_aload_n dX7_flip_9 rfl ?_
  refine q_iload_n dX7_flip_10 rfl ?_
  refine q_iload_n dX7_flip_11 rfl ?_
  refine q_V2 dX7_flip_12 ml_7_182 md_X7_requireRange (c_requireRange hL hLv hf ht) rfl rfl rfl (by first | decide | omega) (Nat.le_of_ble_eq_true rfl) (Nat.le_of_ble_eq_true rfl) (qk_G (fun hq12 => ?_) (Scr_rf hC))
  have hmk := CI_mp hC hq6
  have hps := CI_rg hL hq12
  have hCr := rem_CI hC hmk
  have hLr : rem M k 0 10 = (L : Int) := by rw [rem_o (by decide) (by decide) (by decide)]; exact hL
  have hrr := rem_row (k := k) hC (show 0 ≤ k ∧ k < 12 by omega)
  refine q_aload_n dX7_flip_15 rfl ?_
  refine q_getr dX7_flip_16 fl_7_53 rfl rfl ?_
  refine q_iload_n dX7_flip_19 rfl ?_
  refine q_V1 dX7_flip_20 ml_7_297 md_X2_remember (c_remember hC hmk) rfl rfl rfl (by first | decide | omega) (Nat.le_of_ble_eq_true rfl) (Nat.le_of_ble_eq_true rfl) (qk_v ?_)
  refine q_aload_n dX7_flip_23 rfl ?_
  refine q_iload_n dX7_flip_24 rfl ?_
  refine q_V1 dX7_flip_25 ml_7_202 md_X7_sizeOfRow (c_sizeR hCr hLr hLv (by omega)) rfl rfl rfl (by first | decide | omega) (Nat.le_of_ble_eq_true rfl) (Nat.le_of_ble_eq_true rfl) (qk_g (fun z25 N25 hq25 => ?_))
  obtain ⟨hz1, hS1⟩ := hq25
  rw [tsz_row hLv.2 hrr] at hz1
  have hC1 := Scr_CI hCr hS1
  have hr1 : ∀ i, 0 ≤ i → i < 256 → rowc N25 k i = rowc M k i := fun i h0 h1 => (Scr_cell hS1 hmk i h0 h1).trans (hrr i h0 h1)
  have hW : qrow N25 k (flpF (rowc N25 k) f t) = qrow N25 k (flpF (rowc M k) f t) := qrow_congr _ (flp_c hr1 f t)
  have hS2 : Scr (qrow (rem M k) k (flpF (rowc M k) f t)) (qrow N25 k (flpF (rowc M k) f t)) := Scr_row hS1 (by omega) (fun i h0 h1 => flpF_in)
  have hC2 : CI (qrow N25 k (flpF (rowc M k) f t)) := CI_row hC1 (by omega) (fun i h0 h1 => flpF_in)
  have hL2 : qrow N25 k (flpF (rowc M k) f t) 0 10 = (L : Int) := by rw [qrow_o _ _ (by decide), Scr_lv hS1]; exact hLr
  refine q_istore dX7_flip_28 (Nat.le_of_ble_eq_true rfl) rfl ?_
  refine q_aload_n dX7_flip_30 rfl ?_
  refine q_getr dX7_flip_31 fl_7_26 rfl rfl ?_
  refine q_iload_n dX7_flip_34 rfl ?_
  refine q_iload_n dX7_flip_35 rfl ?_
  refine q_iload_n dX7_flip_36 rfl ?_
  refine q_V3 dX7_flip_37 ml_7_300 md_X0_invert (c_invert (by omega) (by omega) (by omega) (by omega) (CI_ok hC1 (by omega))) rfl rfl rfl (by first | decide | omega) (Nat.le_of_ble_eq_true rfl) (Nat.le_of_ble_eq_true rfl) (qk_v ?_)
  rw [hW]
  refine q_aload_n dX7_flip_40 rfl ?_
  refine q_iload_n dX7_flip_41 rfl ?_
  refine q_V1 dX7_flip_42 ml_7_202 md_X7_sizeOfRow (c_sizeR hC2 hL2 hLv (by omega)) rfl rfl rfl (by first | decide | omega) (Nat.le_of_ble_eq_true rfl) (Nat.le_of_ble_eq_true rfl) (qk_g (fun z42 N42 hq42 => ?_))
  obtain ⟨hz2, hS3⟩ := hq42
  rw [tsz_row hLv.2 row_at] at hz2
  refine q_iload dX7_flip_45 rfl ?_
  refine q_isub dX7_flip_47 ?_
  refine q_ireturn dX7_flip_48 ?_
  exact gxk rfl ⟨by rw [hz1, hz2], Scr_tr hS2 hS3⟩
set_option maxHeartbeats 2000000 in
theorem k_combine (hC : CI M) (hL : M 0 10 = (L : Int)) (hk : zR k) (ho : zR o) (hw : zR w) (hq : zR q) : qCt mX7_combine 5 9 [.ref 0, .int (zI q), .int (zI k), .int (zI o), .int (zI w)] M (qpx (gor (gText M) (gor (gMap M k) (gor (gMap M o) (gor (gMap M w) (gor (gKind q) 0))))) (fun z M' => z = onesI (fun i => mgF q (rowc M k i) (rowc M o i)) 0 (8 * p4 L - 1) ∧ Scr (qrow (rem M w) w (fun i => mgF q (rowc M k i) (rowc M o i))) M') (Scr M)) := by
  refine q_intro (own := 7) (L := [some (.ref 0), some (.int (zI q)), some (.int (zI k)), some (.int (zI o)), some (.int (zI w))]) md_X7_combine rfl rfl rfl (Nat.le_of_ble_eq_true rfl) (fun X => ?_)
  refine q_aload_n dX7_combine_0 rfl ?_
  refine q_V0 dX7_combine_1 ml_7_141 md_X7_requireText (c_requireText hC) rfl rfl rfl (by first | decide | omega) (Nat.le_of_ble_eq_true rfl) (Nat.le_of_ble_eq_true rfl) (qk_G (fun hq1 => ?_) (Scr_rf hC))
  have hLv := CI_lv hC hL hq1
  refine q_aload_n dX7_combine_4 rfl ?_
  refine q_iload_n dX7_combine_5 rfl ?_
  refine q_V1 dX7_combine_6 ml_7_172 md_X7_requireMap (c_requireMap hC hk) rfl rfl rfl (by first | decide | omega) (Nat.le_of_ble_eq_true rfl) (Nat.le_of_ble_eq_true rfl) (qk_G (fun hq6 => ?_) (Scr_rf hC))
  refine q_aload_n dX7_combine_9 rfl ?_
  refine q_iload_n dX7_combine_10 rfl ?_
  refine q_V1 dX7_combine_11 ml_7_172 md_X7_requireMap (c_requireMap hC ho) rfl rfl rfl (by first | decide | omega) (Nat.le_of_ble_eq_true rfl) (Nat.le_of_ble_eq_true rfl) (qk_G (fun hq11 => ?_) (Scr_rf hC))
  refine q_aload_n dX7_combine_14 rfl ?_
  refine q_iload dX7_combine_15 rfl ?_
  refine q_V1 dX7_combine_17 ml_7_172 md_X7_requireMap (c_requireMap hC hw) rfl rfl rfl (by first | decide | omega) (Nat.le_of_ble_eq_true rfl) (Nat.le_of_ble_eq_true rfl) (qk_G (fun hq17 => ?_) (Scr_rf hC))
  refine q_aload_n dX7_combine_20 rfl ?_
  refine q_iload_n dX7_combine_21 rfl ?_
  refine q_V1 dX7_combine_22 ml_7_271 md_X7_requireKind (c_requireKind hq) rfl rfl rfl (by first | decide | omega) (Nat.le_of_ble_eq_true rfl) (Nat.le_of_ble_eq_true rfl) (qk_G (fun hq22 => ?_) (Scr_rf hC))
  have hmk := CI_mp hC hq6
  have hmo := CI_mp hC hq11
  have hmw := CI_mp hC hq17
  have hkd := gKind_0.1 hq22
  have hCr := rem_CI hC hmw
  have hLr : rem M w 0 10 = (L : Int) := by rw [rem_o (by decide) (by decide) (by decide)]; exact hL
  have hrk := rem_row (k := w) hC (show 0 ≤ k ∧ k < 12 by omega)
  have hro := rem_row (k := w) hC (show 0 ≤ o ∧ o < 12 by omega)
  have hmg : ∀ i, 0 ≤ i → i < 256 → 0 ≤ mgF q (rowc M k i) (rowc M o i) ∧ mgF q (rowc M k i) (rowc M o i) < 256 := fun i h0 h1 => mgF_in (CI_ok hC (by omega) i h0 h1) (CI_ok hC (by omega) i h0 h1)
  have hW : qrow (rem M w) w (fun i => mgF q (rowc (rem M w) k i) (rowc (rem M w) o i)) = qrow (rem M w) w (fun i => mgF q (rowc M k i) (rowc M o i)) := qrow_congr _ (fun i h0 h1 => by rw [hrk i h0 h1, hro i h0 h1])
  have hC2 : CI (qrow (rem M w) w (fun i => mgF q (rowc M k i) (rowc M o i))) := CI_row hCr (by omega) hmg
  refine q_aload_n dX7_combine_25 rfl ?_
  refine q_getr dX7_combine_26 fl_7_53 rfl rfl ?_
  refine q_iload dX7_combine_29 rfl ?_
  refine q_V1 dX7_combine_31 ml_7_297 md_X2_remember (c_remember hC hmw) rfl rfl rfl (by first | decide | omega) (Nat.le_of_ble_eq_true rfl) (Nat.le_of_ble_eq_true rfl) (qk_v ?_)
  refine q_aload_n dX7_combine_34 rfl ?_
  refine q_getr dX7_combine_35 fl_7_26 rfl rfl ?_
  refine q_iload_n dX7_combine_38 rfl ?_
  refine q_iload_n dX7_combine_39 rfl ?_
  refine q_iload_n dX7_combine_40 rfl ?_
  refine q_iload dX7_combine_41 rfl ?_
  refine q_V4 dX7_combine_43 ml_7_257 md_X0_merge (c_merge (by omega) (by omega) (by omega) (by omega)) rfl rfl rfl (by first | decide | omega) (Nat.le_of_ble_eq_true rfl) (Nat.le_of_ble_eq_true rfl) (qk_v ?_)
  rw [hW]
  refine q_aload_n dX7_combine_46 rfl ?_
  refine q_iload dX7_combine_47 rfl ?_
  refine q_V1 dX7_combine_49 ml_7_254 md_X7_onesOfRow (c_onesOfRow hC2 (by rw [qrow_o _ _ (by decide)]; exact hLr) hLv (by omega)) rfl rfl rfl (by first | decide | omega) (Nat.le_of_ble_eq_true rfl) (Nat.le_of_ble_eq_true rfl) (qk_e ?_)
  refine q_ireturn dX7_combine_52 ?_
  exact gxk rfl ⟨onesI_c row_at _ _, Scr_rf hC2⟩
set_option maxHeartbeats 2000000 in
theorem k_copyBlock (hC : CI M) (hL : M 0 10 = (L : Int)) (hk : zR k) (hl : zR l) (hxr : zR x) (hyr : zR y) : qCt mX7_copyBlock 6 9 [.ref 0, .int (zI k), .int (zI l), .int (zI x), .int (zI y)] M (qpx (gor (gText M) (gor (gMap M k) (gor (gBlk M l x) (gor (gBlk M l y) 0)))) (fun z M' => z = tsz (fcpy (rowc M k) (p4 l * x) (p4 l * y) (p4 l)) L 0 ∧ Scr (qrow (rem M k) k (fcpy (rowc M k) (p4 l * x) (p4 l * y) (p4 l))) M') (Scr M)) := by
  have hpin := p4_in (L : Int)
  have hpil := p4_in l
  refine q_intro (own := 7) (L := [some (.ref 0), some (.int (zI k)), some (.int (zI l)), some (.int (zI x)), some (.int (zI y)), none]) md_X7_copyBlock rfl rfl rfl (Nat.le_of_ble_eq_true rfl) (fun X => ?_)
  refine q_aload_n dX7_copyBlock_0 rfl ?_
  refine q_V0 dX7_copyBlock_1 ml_7_141 md_X7_requireText (c_requireText hC) rfl rfl rfl (by first | decide | omega) (Nat.le_of_ble_eq_true rfl) (Nat.le_of_ble_eq_true rfl) (qk_G (fun hq1 => ?_) (Scr_rf hC))
  have hLv := CI_lv hC hL hq1
  refine q_aload_n dX7_copyBlock_4 rfl ?_
  refine q_iload_n dX7_copyBlock_5 rfl ?_
  refine q_V1 dX7_copyBlock_6 ml_7_172 md_X7_requireMap (c_requireMap hC hk) rfl rfl rfl (by first | decide | omega) (Nat.le_of_ble_eq_true rfl) (Nat.le_of_ble_eq_true rfl) (qk_G (fun hq6 => ?_) (Scr_rf hC))
  refine q_aload_n dX7_copyBlock_9 rfl ?_
  refine q_iload_n dX7_copyBlock_10 rfl ?_
  refine q_iload_n dX7_copyBlock_11 rfl ?_
  refine q_V2 dX7_copyBlock_12 ml_7_225 md_X7_requireBlock (c_requireBlock hL hLv hl hxr) rfl rfl rfl (by first | decide | omega) (Nat.le_of_ble_eq_true rfl) (Nat.le_of_ble_eq_true rfl) (qk_G (fun hq12 => ?_) (Scr_rf hC))
  refine q_aload_n dX7_copyBlock_15 rfl ?_
  refine q_iload_n dX7_copyBlock_16 rfl ?_
  refine q_iload dX7_copyBlock_17 rfl ?_
  refine q_V2 dX7_copyBlock_19 ml_7_225 md_X7_requireBlock (c_requireBlock hL hLv hl hyr) rfl rfl rfl (by first | decide | omega) (Nat.le_of_ble_eq_true rfl) (Nat.le_of_ble_eq_true rfl) (qk_G (fun hq19 => ?_) (Scr_rf hC))
  have hmk := CI_mp hC hq6
  have hbx := gBlk_0.1 hq12
  have hby := gBlk_0.1 hq19
  rw [hL] at hbx hby
  have hix := blk_in hLv.2 hbx.1 hbx.2
  have hiy := blk_in hLv.2 hby.1 hby.2
  have hCr := rem_CI hC hmk
  have hLr : rem M k 0 10 = (L : Int) := by rw [rem_o (by decide) (by decide) (by decide)]; exact hL
  have hrr := rem_row (k := k) hC (show 0 ≤ k ∧ k < 12 by omega)
  have hcr := CI_ok hC (show 0 ≤ k ∧ k < 33 by omega)
  have hfb : ∀ i, 0 ≤ i → i < 256 → 0 ≤ fcpy (rowc M k) (p4 l * x) (p4 l * y) (p4 l) i ∧ fcpy (rowc M k) (p4 l * x) (p4 l * y) (p4 l) i < 256 := fun i h0 h1 => by
    unfold fcpy
    by_cases g : p4 l * y ≤ i ∧ i < p4 l * y + p4 l
    · rw [if_pos g]; exact hcr _ (by omega) (by omega)
    · rw [if_neg g]; exact hcr i h0 h1
  have hW : qrow (rem M k) k (fcpy (rowc (rem M k) k) (p4 l * x) (p4 l * y) (p4 l)) = qrow (rem M k) k (fcpy (rowc M k) (p4 l * x) (p4 l * y) (p4 l)) := qrow_congr _ (fcpy_c (by omega) (by omega) hrr)
  have hC2 : CI (qrow (rem M k) k (fcpy (rowc M k) (p4 l * x) (p4 l * y) (p4 l))) := CI_row hCr (by omega) hfb
  refine q_aload_n dX7_copyBlock_22 rfl ?_
  refine q_getr dX7_copyBlock_23 fl_7_53 rfl rfl ?_
  refine q_iload_n dX7_copyBlock_26 rfl ?_
  refine q_V1 dX7_copyBlock_27 ml_7_297 md_X2_remember (c_remember hC hmk) rfl rfl rfl (by first | decide | omega) (Nat.le_of_ble_eq_true rfl) (Nat.le_of_ble_eq_true rfl) (qk_v ?_)
  refine q_iload_n dX7_copyBlock_30 rfl ?_
  refine q_S1 dX7_copyBlock_31 ml_7_164 md_X7_cellsIn (c_cellsIn (by omega)) rfl (by first | decide | omega) (Nat.le_of_ble_eq_true rfl) (Nat.le_of_ble_eq_true rfl) (qk_e ?_)
  refine q_istore dX7_copyBlock_34 (Nat.le_of_ble_eq_true rfl) rfl ?_
  refine q_aload_n dX7_copyBlock_36 rfl ?_
  refine q_getr dX7_copyBlock_37 fl_7_26 rfl rfl ?_
  refine q_iload_n dX7_copyBlock_40 rfl ?_
  refine q_iload_n dX7_copyBlock_41 rfl ?_
  refine q_iload dX7_copyBlock_42 rfl ?_
  refine q_imul dX7_copyBlock_44 ?_
  refine q_iload dX7_copyBlock_45 rfl ?_
  refine q_iload dX7_copyBlock_47 rfl ?_
  refine q_imul dX7_copyBlock_49 ?_
  refine q_iload dX7_copyBlock_50 rfl ?_
  rw [Int.mul_comm x (p4 l), Int.mul_comm y (p4 l)]
  refine q_V4 dX7_copyBlock_52 ml_7_304 md_X0_copyCells (c_copyCells (by omega) (by omega) (by omega) (by omega)) rfl rfl rfl (by first | decide | omega) (Nat.le_of_ble_eq_true rfl) (Nat.le_of_ble_eq_true rfl) (qk_v ?_)
  rw [cpy_row _ (by omega) (by omega), hW]
  refine q_aload_n dX7_copyBlock_55 rfl ?_
  refine q_iload_n dX7_copyBlock_56 rfl ?_
  refine q_V1 dX7_copyBlock_57 ml_7_202 md_X7_sizeOfRow (c_sizeR hC2 (by rw [qrow_o _ _ (by decide)]; exact hLr) hLv (by omega)) rfl rfl rfl (by first | decide | omega) (Nat.le_of_ble_eq_true rfl) (Nat.le_of_ble_eq_true rfl) (qk_g (fun z57 N57 hq57 => ?_))
  obtain ⟨hz, hS⟩ := hq57
  rw [tsz_row hLv.2 row_at] at hz
  refine q_ireturn dX7_copyBlock_60 ?_
  exact gxk rfl ⟨hz, hS⟩
end GM


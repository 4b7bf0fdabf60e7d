/-! QuarterMaps$Parser: parse. -/
section PR
variable {M0 M : qM} {I : Int → Int} {n : Int} {L : Nat} {σ : qσ}
theorem lnP_01 {r : qρ} {z : Int} {M' : qM} (h : lnP M0 I n L r z M') : z = 0 ∨ z = 1 := by rcases h with ⟨h, -⟩ | ⟨h, -⟩ <;> omega
set_option maxHeartbeats 4000000 in
theorem c_takeLine (hB : inB M0 I n) (hF : PF M0 M) (hs : Sp M I n L σ) (hL : 1 ≤ L ∧ L ≤ 4) : qCt mX3_takeLine 0 6 [.ref 25] M (qpg (lnP M0 I n L (lineS I n L σ))) := by
  refine q_intro (own := 3) (L := [some (.ref 25)]) md_X3_takeLine rfl rfl rfl (Nat.le_of_ble_eq_true rfl) (fun X => ?_)
  refine q_aload_n dX3_takeLine_0 rfl ?_
  refine q_ldcS (o := 101) (tx := "map") dX3_takeLine_1 (by decide +kernel) ?_
  refine q_V1 dX3_takeLine_3 ml_3_86 md_X3_isWord (c_isWord (i := 1) (by omega) hs.1) rfl rfl rfl (by first | decide | omega) (Nat.le_of_ble_eq_true rfl) (Nat.le_of_ble_eq_true rfl) (qk_e ?_)
  refine q_if_eq (tgt := 14) dX3_takeLine_6 rfl (by have := zb_01 (isW I n σ.1 1); unfold zR; omega) (fun h6 => ?_) (fun h6 => ?_)
  rotate_left
  ·
    refine q_aload_n dX3_takeLine_9 rfl ?_
    refine q_V0 dX3_takeLine_10 ml_3_89 md_X3_takeMapLine (c_takeMapLine hB hF hs hL.2) rfl rfl rfl (by first | decide | omega) (Nat.le_of_ble_eq_true rfl) (Nat.le_of_ble_eq_true rfl) (qk_g (fun z10 N10 hq10 => ?_))
    refine q_zreturn (by exact lnP_01 hq10) dX3_takeLine_13 ?_
    exact ⟨_, rfl, by unfold lineS; rw [rif_t (zb_1.mp (by have := zb_01 (isW I n σ.1 1); omega))]; exact hq10⟩
  refine q_aload_n dX3_takeLine_14 rfl ?_
  refine q_ldcS (o := 102) (tx := "fill") dX3_takeLine_15 (by decide +kernel) ?_
  refine q_V1 dX3_takeLine_17 ml_3_86 md_X3_isWord (c_isWord (i := 2) (by omega) hs.1) rfl rfl rfl (by first | decide | omega) (Nat.le_of_ble_eq_true rfl) (Nat.le_of_ble_eq_true rfl) (qk_e ?_)
  refine q_if_eq (tgt := 29) dX3_takeLine_20 rfl (by have := zb_01 (isW I n σ.1 2); unfold zR; omega) (fun h20 => ?_) (fun h20 => ?_)
  rotate_left
  ·
    refine q_aload_n dX3_takeLine_23 rfl ?_
    refine q_iconst dX3_takeLine_24 ?_
    refine q_V1 dX3_takeLine_25 ml_3_94 md_X3_takeRangeLine (c_takeRangeLine (b := 1) hB hF hs hL (by omega)) rfl rfl rfl (by first | decide | omega) (Nat.le_of_ble_eq_true rfl) (Nat.le_of_ble_eq_true rfl) (qk_g (fun z25 N25 hq25 => ?_))
    refine q_zreturn (by exact lnP_01 hq25) dX3_takeLine_28 ?_
    exact ⟨_, rfl, by unfold lineS; rw [rif_f (zb_0.mp h6), rif_t (zb_1.mp (by have := zb_01 (isW I n σ.1 2); omega))]; exact hq25⟩
  refine q_aload_n dX3_takeLine_29 rfl ?_
  refine q_ldcS (o := 103) (tx := "clear") dX3_takeLine_30 (by decide +kernel) ?_
  refine q_V1 dX3_takeLine_32 ml_3_86 md_X3_isWord (c_isWord (i := 3) (by omega) hs.1) rfl rfl rfl (by first | decide | omega) (Nat.le_of_ble_eq_true rfl) (Nat.le_of_ble_eq_true rfl) (qk_e ?_)
  refine q_if_eq (tgt := 44) dX3_takeLine_35 rfl (by have := zb_01 (isW I n σ.1 3); unfold zR; omega) (fun h35 => ?_) (fun h35 => ?_)
  rotate_left
  ·
    refine q_aload_n dX3_takeLine_38 rfl ?_
    refine q_iconst dX3_takeLine_39 ?_
    refine q_V1 dX3_takeLine_40 ml_3_94 md_X3_takeRangeLine (c_takeRangeLine (b := 0) hB hF hs hL (by omega)) rfl rfl rfl (by first | decide | omega) (Nat.le_of_ble_eq_true rfl) (Nat.le_of_ble_eq_true rfl) (qk_g (fun z40 N40 hq40 => ?_))
    refine q_zreturn (by exact lnP_01 hq40) dX3_takeLine_43 ?_
    exact ⟨_, rfl, by unfold lineS; rw [rif_f (zb_0.mp h6), rif_f (zb_0.mp h20), rif_t (zb_1.mp (by have := zb_01 (isW I n σ.1 3); omega))]; exact hq40⟩
  refine q_aload_n dX3_takeLine_44 rfl ?_
  refine q_ldcS (o := 104) (tx := "flip") dX3_takeLine_45 (by decide +kernel) ?_
  refine q_V1 dX3_takeLine_47 ml_3_86 md_X3_isWord (c_isWord (i := 4) (by omega) hs.1) rfl rfl rfl (by first | decide | omega) (Nat.le_of_ble_eq_true rfl) (Nat.le_of_ble_eq_true rfl) (qk_e ?_)
  refine q_if_eq (tgt := 59) dX3_takeLine_50 rfl (by have := zb_01 (isW I n σ.1 4); unfold zR; omega) (fun h50 => ?_) (fun h50 => ?_)
  rotate_left
  ·
    refine q_aload_n dX3_takeLine_53 rfl ?_
    refine q_iconst dX3_takeLine_54 ?_
    refine q_V1 dX3_takeLine_55 ml_3_94 md_X3_takeRangeLine (c_takeRangeLine (b := 2) hB hF hs hL (by omega)) rfl rfl rfl (by first | decide | omega) (Nat.le_of_ble_eq_true rfl) (Nat.le_of_ble_eq_true rfl) (qk_g (fun z55 N55 hq55 => ?_))
    refine q_zreturn (by exact lnP_01 hq55) dX3_takeLine_58 ?_
    exact ⟨_, rfl, by unfold lineS; rw [rif_f (zb_0.mp h6), rif_f (zb_0.mp h20), rif_f (zb_0.mp h35), rif_t (zb_1.mp (by have := zb_01 (isW I n σ.1 4); omega))]; exact hq55⟩
  refine q_aload_n dX3_takeLine_59 rfl ?_
  refine q_ldcS (o := 105) (tx := "or") dX3_takeLine_60 (by decide +kernel) ?_
  refine q_V1 dX3_takeLine_62 ml_3_86 md_X3_isWord (c_isWord (i := 5) (by omega) hs.1) rfl rfl rfl (by first | decide | omega) (Nat.le_of_ble_eq_true rfl) (Nat.le_of_ble_eq_true rfl) (qk_e ?_)
  refine q_if_eq (tgt := 73) dX3_takeLine_65 rfl (by have := zb_01 (isW I n σ.1 5); unfold zR; omega) (fun h65 => ?_) (fun h65 => ?_)
  rotate_left
  ·
    refine q_aload_n dX3_takeLine_68 rfl ?_
    refine q_V0 dX3_takeLine_69 ml_3_103 md_X3_takeOrLine (c_takeOrLine hB hF hs hL) rfl rfl rfl (by first | decide | omega) (Nat.le_of_ble_eq_true rfl) (Nat.le_of_ble_eq_true rfl) (qk_g (fun z69 N69 hq69 => ?_))
    refine q_zreturn (by exact lnP_01 hq69) dX3_takeLine_72 ?_
    exact ⟨_, rfl, by unfold lineS; rw [rif_f (zb_0.mp h6), rif_f (zb_0.mp h20), rif_f (zb_0.mp h35), rif_f (zb_0.mp h50), rif_t (zb_1.mp (by have := zb_01 (isW I n σ.1 5); omega))]; exact hq69⟩
  refine q_aload_n dX3_takeLine_73 rfl ?_
  refine q_ldcS (o := 106) (tx := "tree") dX3_takeLine_74 (by decide +kernel) ?_
  refine q_V1 dX3_takeLine_76 ml_3_86 md_X3_isWord (c_isWord (i := 6) (by omega) hs.1) rfl rfl rfl (by first | decide | omega) (Nat.le_of_ble_eq_true rfl) (Nat.le_of_ble_eq_true rfl) (qk_e ?_)
  refine q_if_eq (tgt := 89) dX3_takeLine_79 rfl (by have := zb_01 (isW I n σ.1 6); unfold zR; omega) (fun h79 => ?_) (fun h79 => ?_)
  ·
    refine q_aload_n dX3_takeLine_89 rfl ?_
    refine q_iconst dX3_takeLine_90 ?_
    refine q_V1 dX3_takeLine_91 ml_3_73 md_X3_fail c_fail rfl rfl rfl (by first | decide | omega) (Nat.le_of_ble_eq_true rfl) (Nat.le_of_ble_eq_true rfl) (qk_e ?_)
    refine q_zreturn (by first | exact Or.inl rfl | exact lnP_01 hq83) dX3_takeLine_94 ?_
    exact ⟨_, rfl, lnP_fail hF (by omega) (by unfold lineS; rw [rif_f (zb_0.mp h6), rif_f (zb_0.mp h20), rif_f (zb_0.mp h35), rif_f (zb_0.mp h50), rif_f (zb_0.mp h65), rif_f (zb_0.mp h79)]) hs.1.2.2.1⟩
  ·
    refine q_aload_n dX3_takeLine_82 rfl ?_
    refine q_V0 dX3_takeLine_83 ml_3_108 md_X3_takeTreeLine (c_takeTreeLine hB hF hs hL) rfl rfl rfl (by first | decide | omega) (Nat.le_of_ble_eq_true rfl) (Nat.le_of_ble_eq_true rfl) (qk_g (fun z83 N83 hq83 => ?_))
    refine q_goto (tgt := 94) dX3_takeLine_86 rfl ?_
    refine q_zreturn (by first | exact Or.inl rfl | exact lnP_01 hq83) dX3_takeLine_94 ?_
    exact ⟨_, rfl, by unfold lineS; rw [rif_f (zb_0.mp h6), rif_f (zb_0.mp h20), rif_f (zb_0.mp h35), rif_f (zb_0.mp h50), rif_f (zb_0.mp h65), rif_t (zb_1.mp (by have := zb_01 (isW I n σ.1 6); omega))]; exact hq83⟩
set_option maxHeartbeats 1000000 in
theorem c_pbegin (hB : inB M I n) : qCt mX3_begin 0 2 [.ref 25, .int (zI n)] M (qpv (adv (qup (qup M 25 4 n) 25 5 0) I n 0)) := by
  have hn := hB.1
  have hB2 : inB (qup (qup M 25 4 n) 25 5 0) I n := by
    unfold inB at hB ⊢
    rw [up25_o 1 (by decide), up25_o 1 (by decide), up25_o 2 (by decide), up25_o 2 (by decide)]
    exact hB
  refine q_intro (own := 3) (L := [some (.ref 25), some (.int (zI n))]) md_X3_begin rfl rfl rfl (Nat.le_of_ble_eq_true rfl) (fun X => ?_)
  refine q_aload_n dX3_begin_0 rfl ?_
  refine q_iload_n dX3_begin_1 rfl ?_
  refine q_puti (j := 4) dX3_begin_2 fl_3_145 rfl rfl rfl rfl rfl ?_
  refine q_aload_n dX3_begin_5 rfl ?_
  refine q_iconst dX3_begin_6 ?_
  refine q_puti (j := 5) dX3_begin_7 fl_3_58 rfl rfl rfl rfl rfl ?_
  refine q_aload_n dX3_begin_10 rfl ?_
  refine q_V0 dX3_begin_11 ml_3_77 md_X3_advance (c_advance (p := 0) hB2 (by simp [qup]) (by simp [qup]) (by omega)) rfl rfl rfl (by first | decide | omega) (Nat.le_of_ble_eq_true rfl) (Nat.le_of_ble_eq_true rfl) (qk_v ?_)
  refine q_return dX3_begin_14 ?_
  exact ⟨rfl, rfl⟩
/-- what parse answers -/
def paP (M0 : qM) (I : Int → Int) (n : Int) : Int → qM → Prop := fun z M' => PF M0 M' ∧ ((z = 0 ∧ ∃ c s, c ≠ 0 ∧ parseS I n = .inl (c, s) ∧ M' 25 11 = c ∧ M' 25 12 = s) ∨ (z = 1 ∧ ∃ (σ' : qσ) (L : Nat), 1 ≤ L ∧ L ≤ 4 ∧ (L : Int) = tV I n (tE I n 0) ∧ parseS I n = .inr σ' ∧ Sp M' I n L σ'))
theorem lnP_paP {r : qρ} {z : Int} {M' : qM} (hr : parseS I n = r) (hL : 1 ≤ L ∧ L ≤ 4) (hl : (L : Int) = tV I n (tE I n 0)) (h : lnP M0 I n L r z M') : paP M0 I n z M' := by
  rcases h with ⟨h1, c, s, hc, h2, h3, h4, h5⟩ | ⟨h1, σ', h2, h3, h4⟩
  · exact ⟨h5, Or.inl ⟨h1, c, s, hc, hr.trans h2, h3, h4⟩⟩
  · exact ⟨h4, Or.inr ⟨h1, σ', L, hL.1, hL.2, hl, hr.trans h2, h3⟩⟩
set_option maxHeartbeats 4000000 in
theorem c_parse (hB : inB M I n) (hF : PF M M) : qCt mX3_parse 0 7 [.ref 25, .int (zI n)] M (qpg (paP M I n)) := by
  have hn := hB.1
  have hE := tE_in (I := I) (n := n) (p := 0) hn
  have hS := tS_in (I := I) (n := n) (p := 0) hn
  have hE2 := tE_in (I := I) (n := n) (p := tE I n 0) (by omega)
  have hS2 := tS_in (I := I) (n := n) (p := tE I n 0) (by omega)
  have hn7 : n ≤ 700 := by have := hB.2.1; have := hB.2.2.1; omega
  refine q_intro (own := 3) (L := [some (.ref 25), some (.int (zI n)), none]) md_X3_parse rfl rfl rfl (Nat.le_of_ble_eq_true rfl) (fun X => ?_)
  refine q_aload_n dX3_parse_0 rfl ?_
  refine q_iconst dX3_parse_1 ?_
  refine q_puti (j := 11) dX3_parse_2 fl_3_43 rfl rfl rfl rfl rfl ?_
  refine q_aload_n dX3_parse_5 rfl ?_
  refine q_iconst dX3_parse_6 ?_
  refine q_puti (j := 12) dX3_parse_7 fl_3_46 rfl rfl rfl rfl rfl ?_
  refine q_aload_n dX3_parse_10 rfl ?_
  refine q_iconst dX3_parse_11 ?_
  refine q_puti (j := 10) dX3_parse_12 fl_3_36 rfl rfl rfl rfl rfl ?_
  refine q_aload_n dX3_parse_15 rfl ?_
  refine q_iload_n dX3_parse_16 rfl ?_
  have hF1 : PF M (qup (qup (qup M 25 11 0) 25 12 (-1)) 25 10 0) := PF_25 (PF_25 (PF_25 hF up25_o) up25_o) up25_o
  have hB1 := PF_inB hF1 hB
  refine q_V1 dX3_parse_17 ml_3_49 md_X3_begin (c_pbegin hB1) rfl rfl rfl (by first | decide | omega) (Nat.le_of_ble_eq_true rfl) (Nat.le_of_ble_eq_true rfl) (qk_v ?_)
  have hF2 : PF M (adv (qup (qup (qup (qup (qup M 25 11 0) 25 12 (-1)) 25 10 0) 25 4 n) 25 5 0) I n 0) := PF_25 (PF_25 (PF_25 hF1 up25_o) up25_o) adv_o
  have hc2 : cur (adv (qup (qup (qup (qup (qup M 25 11 0) 25 12 (-1)) 25 10 0) 25 4 n) 25 5 0) I n 0) I n 0 := cur_qlx
  have ge : adv (qup (qup (qup (qup (qup M 25 11 0) 25 12 (-1)) 25 10 0) 25 4 n) 25 5 0) I n 0 25 4 = n := by rw [adv_f (by omega)]; simp [qup]
  have gm : adv (qup (qup (qup (qup (qup M 25 11 0) 25 12 (-1)) 25 10 0) 25 4 n) 25 5 0) I n 0 25 10 = 0 := by rw [adv_f (by omega)]; simp [qup]
  have g1 : adv (qup (qup (qup (qup (qup M 25 11 0) 25 12 (-1)) 25 10 0) 25 4 n) 25 5 0) I n 0 25 11 = 0 := by rw [adv_f (by omega)]; simp [qup]
  have g2 : adv (qup (qup (qup (qup (qup M 25 11 0) 25 12 (-1)) 25 10 0) 25 4 n) 25 5 0) I n 0 25 12 = -1 := by rw [adv_f (by omega)]; simp [qup]
  generalize adv (qup (qup (qup (qup (qup M 25 11 0) 25 12 (-1)) 25 10 0) 25 4 n) 25 5 0) I n 0 = M2 at hF2 hc2 ge gm g1 g2 ⊢
  refine q_aload_n dX3_parse_20 rfl ?_
  refine q_ldcS (o := 100) (tx := "level") dX3_parse_21 (by decide +kernel) ?_
  refine q_V1 dX3_parse_23 ml_3_65 md_X3_takeWord (c_takeWord (i := 0) (by omega) (PF_inB hF2 hB) ge hc2 (by omega)) rfl rfl rfl (by first | decide | omega) (Nat.le_of_ble_eq_true rfl) (Nat.le_of_ble_eq_true rfl) (qk_g (fun z23 N23 hq23 => ?_))
  have hz : z23 = 0 ∨ z23 = 1 := by rcases hq23 with ⟨h, -⟩ | ⟨h, -⟩ <;> omega
  refine q_if_ne (tgt := 31) dX3_parse_26 rfl (by (first | (unfold zR; omega) | (unfold zLR; omega) | omega | (simp only [zR, qup] at *; omega) | (simp [zR, qup]; omega) | (simp [zR, qup]; done))) (fun h26 => ?_) (fun h26 => ?_)
  rotate_left
  ·
    refine q_iconst dX3_parse_29 ?_
    refine q_zreturn (by first | exact Or.inl rfl | exact Or.inr rfl) dX3_parse_30 ?_
    rcases hq23 with ⟨-, hw, rfl⟩ | ⟨h, -⟩
    · exact ⟨_, rfl, PF_25 hF2 flx_o, Or.inl ⟨rfl, 1, tS I n 0, by omega, by unfold parseS; rw [rif_f hw]; rfl, by simp [flx, qup], by simp [flx, qup]⟩⟩
    · omega
  obtain ⟨-, hw, rfl⟩ : z23 = 1 ∧ isW I n 0 0 ∧ N23 = adv M2 I n (tE I n 0) := by
    rcases hq23 with ⟨h, -⟩ | h
    · omega
    · exact h
  have hF3 : PF M (adv M2 I n (tE I n 0)) := PF_25 hF2 adv_o
  have hc3 : cur (adv M2 I n (tE I n 0)) I n (tE I n 0) := cur_qlx
  have ge3 : adv M2 I n (tE I n 0) 25 4 = n := by rw [adv_f (by omega)]; exact ge
  have gm3 : adv M2 I n (tE I n 0) 25 10 = 0 := by rw [adv_f (by omega)]; exact gm
  have g13 : adv M2 I n (tE I n 0) 25 11 = 0 := by rw [adv_f (by omega)]; exact g1
  have g23 : adv M2 I n (tE I n 0) 25 12 = -1 := by rw [adv_f (by omega)]; exact g2
  have hps : parseS I n = tNum I n 1 4 (tE I n 0) (fun L p2 => linesS I n L.toNat n.toNat (p2, 0, fun _ => 0, fun _ _ => 0)) := by unfold parseS; rw [rif_t hw]
  generalize adv M2 I n (tE I n 0) = M3 at hF3 hc3 ge3 gm3 g13 g23 ⊢
  refine q_aload_n dX3_parse_31 rfl ?_
  refine q_aload_n dX3_parse_32 rfl ?_
  refine q_iconst dX3_parse_33 ?_
  refine q_iconst dX3_parse_34 ?_
  refine q_V2 dX3_parse_35 ml_3_69 md_X3_takeNumber (c_takeNumber (p := tE I n 0) (PF_inB hF3 hB) ge3 hc3 (by omega) (by (first | (unfold zR; omega) | (unfold zLR; omega) | omega | (simp only [zR, qup] at *; omega) | (simp [zR, qup]; omega) | (simp [zR, qup]; done))) (by (first | (unfold zR; omega) | (unfold zLR; omega) | omega | (simp only [zR, qup] at *; omega) | (simp [zR, qup]; omega) | (simp [zR, qup]; done)))) rfl rfl rfl (by first | decide | omega) (Nat.le_of_ble_eq_true rfl) (Nat.le_of_ble_eq_true rfl) (qk_g (fun z35 N35 hq35 => ?_))
  have hz35 : -1 ≤ z35 ∧ z35 ≤ 4 := by rcases hq35 with ⟨h, -⟩ | ⟨h, h', h2, -⟩ <;> omega
  refine q_puti (j := 9) dX3_parse_38 fl_3_32 rfl rfl rfl rfl rfl ?_
  refine q_aload_n dX3_parse_41 rfl ?_
  refine q_geti (j := 9) dX3_parse_42 fl_3_32 rfl rfl rfl ?_
  rw [show qup N35 25 9 z35 25 9 = z35 from qup_s _ _ _ _]
  refine q_iconst dX3_parse_45 ?_
  refine q_icmp_ne (tgt := 51) dX3_parse_46 rfl (by (first | (unfold zR; omega) | (unfold zLR; omega) | omega | (simp only [zR, qup] at *; omega) | (simp [zR, qup]; omega) | (simp [zR, qup]; done))) (by (first | (unfold zR; omega) | (unfold zLR; omega) | omega | (simp only [zR, qup] at *; omega) | (simp [zR, qup]; omega) | (simp [zR, qup]; done))) (fun h46 => ?_) (fun h46 => ?_)
  rotate_left
  ·
    refine q_iconst dX3_parse_49 ?_
    refine q_zreturn (by first | exact Or.inl rfl | exact Or.inr rfl) dX3_parse_50 ?_
    rcases hq35 with ⟨-, c, c0, hk, rfl⟩ | ⟨h, -⟩
    · exact ⟨_, rfl, PF_25 (PF_25 hF3 flx_o) up25_o, Or.inl ⟨rfl, c, tS I n (tE I n 0), c0, by rw [hps, hk]; rfl, by simp [flx, qup], by simp [flx, qup]⟩⟩
    · omega
  refine q_iconst dX3_parse_51 ?_
  refine q_istore_n dX3_parse_52 (Nat.le_of_ble_eq_true rfl) rfl ?_
  obtain ⟨h0, h1, h2, hk, rfl⟩ : 0 ≤ z35 ∧ 1 ≤ z35 ∧ z35 ≤ 4 ∧ (∀ k, tNum I n 1 4 (tE I n 0) k = k z35 (tE I n (tE I n 0))) ∧ N35 = adv M3 I n (tE I n (tE I n 0)) := by
    rcases hq35 with ⟨h, -⟩ | h
    · exact absurd h h46
    · exact h
  rw [hk] at hps
  have hz35v : z35 = tV I n (tE I n 0) := by
    have := hk (fun a _ => .inl (a, 0))
    unfold tNum at this
    by_cases q1 : tK I n (tE I n 0) ≠ 2
    · rw [if_pos q1] at this
      have h3 := hk (fun _ _ => .inl (1, tS I n (tE I n 0) + 1))
      unfold tNum at h3
      rw [if_pos q1] at h3
      unfold flS at h3
      have := congrArg (fun s : qρ => s.elim (fun q => q.2) (fun _ => 0)) h3
      simp at this
      omega
    · rw [if_neg q1] at this
      by_cases q2 : tV I n (tE I n 0) < 1 ∨ 4 < tV I n (tE I n 0)
      · rw [if_pos q2] at this
        have h3 := hk (fun _ _ => .inl (2, tS I n (tE I n 0) + 1))
        unfold tNum at h3
        rw [if_neg q1, if_pos q2] at h3
        unfold flS at h3
        have := congrArg (fun s : qρ => s.elim (fun q => q.2) (fun _ => 0)) h3
        simp at this
        omega
      · rw [if_neg q2] at this
        have := congrArg (fun s : qρ => s.elim (fun q => q.1) (fun _ => 0)) this
        simpa using this.symm
  obtain ⟨L, rfl⟩ : ∃ L : Nat, z35 = (L : Int) := ⟨z35.toNat, by omega⟩
  rw [show ((L : Int)).toNat = L by omega] at hps
  have hL : 1 ≤ L ∧ L ≤ 4 := by omega
  have hF4 : PF M (qup (adv M3 I n (tE I n (tE I n 0))) 25 9 (L : Int)) := PF_25 (PF_25 hF3 adv_o) up25_o
  have hs4 : Sp (qup (adv M3 I n (tE I n (tE I n 0))) 25 9 (L : Int)) I n L (tE I n (tE I n 0), 0, fun _ => 0, fun _ _ => 0) := by
    refine ⟨?_, ?_, qup_s _ _ _ _, ?_, by dsimp only; omega, by dsimp only; omega, by dsimp only; omega, by dsimp only; omega, ?_, ?_, fun k k0 k1 => by dsimp only at k1; omega, fun k i k0 k1 => by dsimp only at k1; omega, fun k i k0 k1 => by dsimp only at k1; omega⟩
    · unfold cur
      rw [qup_k _ _ _ (by omega), qup_k _ _ _ (by omega), qup_k _ _ _ (by omega), qup_k _ _ _ (by omega)]
      exact cur_qlx
    · rw [qup_k _ _ _ (by omega), adv_f (by omega)]; exact ge3
    · rw [qup_k _ _ _ (by omega), adv_f (by omega)]; exact gm3
    · rw [qup_k _ _ _ (by omega), adv_f (by omega)]; exact g13
    · rw [qup_k _ _ _ (by omega), adv_f (by omega)]; exact g23
  refine q_lp (α := Nat × qM × qσ) (fun x => n.toNat + 1 - x.1) (fun x => x.1 ≤ n.toNat ∧ PF M x.2.1 ∧ Sp x.2.1 I n L x.2.2 ∧ parseS I n = linesS I n L (n.toNat - x.1) x.2.2) (fun x => [some (.ref 25), some (.int (zI n)), some (.int (zI (x.1 : Int)))]) (fun x => x.2.1) (0, qup (adv M3 I n (tE I n (tE I n 0))) 25 9 (L : Int), (tE I n (tE I n 0), 0, fun _ => 0, fun _ _ => 0)) rfl rfl ⟨by dsimp only; omega, hF4, hs4, hps⟩ (fun x hx ih => ?_)
  obtain ⟨i, M5, σ⟩ := x
  obtain ⟨x1, x2, x3, x4⟩ := hx
  dsimp only at x1 x2 x3 x4 ih ⊢
  have hk5 := tK_in I n σ.1
  have hp5 : 0 ≤ σ.1 ∧ σ.1 ≤ n := ⟨x3.2.2.2.2.2.2.1, x3.2.2.2.2.2.2.2.1⟩
  have hE5 := tE_in (I := I) hp5.2
  have hS5 := tS_in (I := I) hp5.2
  refine q_iload_n dX3_parse_53 rfl ?_
  refine q_iload_n dX3_parse_54 rfl ?_
  refine q_icmp_ge (tgt := 100) dX3_parse_55 rfl (by (first | (unfold zR; omega) | (unfold zLR; omega) | omega | (simp only [zR, qup] at *; omega) | (simp [zR, qup]; omega) | (simp [zR, qup]; done))) (by (first | (unfold zR; omega) | (unfold zLR; omega) | omega | (simp only [zR, qup] at *; omega) | (simp [zR, qup]; omega) | (simp [zR, qup]; done))) (fun h55 => ?_) (fun h55 => ?_)
  ·
    refine q_aload_n dX3_parse_100 rfl ?_
    refine q_geti (j := 6) dX3_parse_101 fl_3_52 rfl rfl rfl ?_
    rw [x3.1.2.1]
    refine q_if_eq (tgt := 115) dX3_parse_104 rfl (by (first | (unfold zR; omega) | (unfold zLR; omega) | omega | (simp only [zR, qup] at *; omega) | (simp [zR, qup]; omega) | (simp [zR, qup]; done))) (fun h104 => ?_) (fun h104 => ?_)
    rotate_left
    ·
      refine q_aload_n dX3_parse_107 rfl ?_
      refine q_iconst dX3_parse_108 ?_
      refine q_V1 dX3_parse_109 ml_3_73 md_X3_fail c_fail rfl rfl rfl (by first | decide | omega) (Nat.le_of_ble_eq_true rfl) (Nat.le_of_ble_eq_true rfl) (qk_e ?_)
      refine q_if_eq (tgt := 119) dX3_parse_112 rfl (by (first | (unfold zR; omega) | (unfold zLR; omega) | omega | (simp only [zR, qup] at *; omega) | (simp [zR, qup]; omega) | (simp [zR, qup]; done))) (fun h112 => ?_) (fun h112 => absurd h112 (by omega))
      refine q_iconst dX3_parse_119 ?_
      refine q_zreturn (by first | exact Or.inl rfl | exact Or.inr rfl) dX3_parse_120 ?_
      exact ⟨_, rfl, lnP_paP x4 hL hz35v (lnP_fail x2 (by omega) (by rw [show n.toNat - i = 0 by omega, linesS, if_neg h104]) x3.1.2.2.1)⟩
    refine q_iconst dX3_parse_115 ?_
    refine q_goto (tgt := 120) dX3_parse_116 rfl ?_
    refine q_zreturn (by first | exact Or.inl rfl | exact Or.inr rfl) dX3_parse_120 ?_
    exact ⟨_, rfl, lnP_paP x4 hL hz35v (Or.inr ⟨rfl, σ, by rw [show n.toNat - i = 0 by omega, linesS, if_pos h104], x3, x2⟩)⟩
  refine q_aload_n dX3_parse_58 rfl ?_
  refine q_geti (j := 6) dX3_parse_59 fl_3_52 rfl rfl rfl ?_
  rw [x3.1.2.1]
  refine q_if_ne (tgt := 67) dX3_parse_62 rfl (by (first | (unfold zR; omega) | (unfold zLR; omega) | omega | (simp only [zR, qup] at *; omega) | (simp [zR, qup]; omega) | (simp [zR, qup]; done))) (fun h62 => ?_) (fun h62 => ?_)
  rotate_left
  ·
    refine q_iconst dX3_parse_65 ?_
    refine q_zreturn (by first | exact Or.inl rfl | exact Or.inr rfl) dX3_parse_66 ?_
    exact ⟨_, rfl, lnP_paP x4 hL hz35v (Or.inr ⟨rfl, σ, by rw [show n.toNat - i = (n.toNat - (i + 1)) + 1 by omega, linesS, if_pos h62], x3, x2⟩)⟩
  refine q_aload_n dX3_parse_67 rfl ?_
  refine q_geti (j := 6) dX3_parse_68 fl_3_52 rfl rfl rfl ?_
  refine q_iconst dX3_parse_71 ?_
  rw [x3.1.2.1]
  refine q_icmp_eq (tgt := 81) dX3_parse_72 rfl (by (first | (unfold zR; omega) | (unfold zLR; omega) | omega | (simp only [zR, qup] at *; omega) | (simp [zR, qup]; omega) | (simp [zR, qup]; done))) (by (first | (unfold zR; omega) | (unfold zLR; omega) | omega | (simp only [zR, qup] at *; omega) | (simp [zR, qup]; omega) | (simp [zR, qup]; done))) (fun h72 => ?_) (fun h72 => ?_)
  rotate_left
  ·
    refine q_aload_n dX3_parse_75 rfl ?_
    refine q_iconst dX3_parse_76 ?_
    refine q_V1 dX3_parse_77 ml_3_73 md_X3_fail c_fail rfl rfl rfl (by first | decide | omega) (Nat.le_of_ble_eq_true rfl) (Nat.le_of_ble_eq_true rfl) (qk_e ?_)
    refine q_zreturn (by first | exact Or.inl rfl | exact Or.inr rfl) dX3_parse_80 ?_
    exact ⟨_, rfl, lnP_paP x4 hL hz35v (lnP_fail x2 (by omega) (by rw [show n.toNat - i = (n.toNat - (i + 1)) + 1 by omega, linesS, if_neg h62, if_pos h72]) x3.1.2.2.1)⟩
  refine q_aload_n dX3_parse_81 rfl ?_
  refine q_V0 dX3_parse_82 ml_3_77 md_X3_advance (c_advance (PF_inB x2 hB) x3.2.1 x3.1.1 (by omega)) rfl rfl rfl (by first | decide | omega) (Nat.le_of_ble_eq_true rfl) (Nat.le_of_ble_eq_true rfl) (qk_v ?_)
  refine q_mem (M' := adv M5 I n (tE I n σ.1)) rfl ?_
  have hF6 : PF M (adv M5 I n (tE I n σ.1)) := PF_25 x2 adv_o
  have hs6 := Sp_adv (p' := tE I n σ.1) x3 (by omega)
  have hln : parseS I n = (lineS I n L (tE I n σ.1, σ.2)).elim Sum.inl (linesS I n L (n.toNat - (i + 1))) := by rw [x4, show n.toNat - i = (n.toNat - (i + 1)) + 1 by omega, linesS, if_neg h62, if_neg (fun q => q h72)]
  refine q_aload_n dX3_parse_85 rfl ?_
  refine q_V0 dX3_parse_86 ml_3_80 md_X3_takeLine (c_takeLine hB hF6 hs6 hL) rfl rfl rfl (by first | decide | omega) (Nat.le_of_ble_eq_true rfl) (Nat.le_of_ble_eq_true rfl) (qk_g (fun z86 N86 hq86 => ?_))
  have hz86 := lnP_01 hq86
  refine q_if_ne (tgt := 94) dX3_parse_89 rfl (by (first | (unfold zR; omega) | (unfold zLR; omega) | omega | (simp only [zR, qup] at *; omega) | (simp [zR, qup]; omega) | (simp [zR, qup]; done))) (fun h89 => ?_) (fun h89 => ?_)
  rotate_left
  ·
    refine q_iconst dX3_parse_92 ?_
    refine q_zreturn (by first | exact Or.inl rfl | exact Or.inr rfl) dX3_parse_93 ?_
    rcases hq86 with ⟨-, c, s, c0, hr, e1, e2, hF7⟩ | ⟨h, -⟩
    · exact ⟨_, rfl, hF7, Or.inl ⟨rfl, c, s, c0, by rw [hln, hr]; rfl, e1, e2⟩⟩
    · omega
  refine q_iinc dX3_parse_94 rfl (Nat.le_of_ble_eq_true rfl) rfl ?_
  refine q_goto (tgt := 53) dX3_parse_97 rfl ?_
  rcases hq86 with ⟨h, -⟩ | ⟨-, σ', hr, hs7, hF7⟩
  · omega
  · exact ih (i + 1, N86, σ') _ _ ⟨by dsimp only; omega, hF7, hs7, by dsimp only; rw [hln, hr]; rfl⟩ (by dsimp only; omega) rfl rfl
def nameV (I : Int → Int) (n : Int) : Int := if tK I n 0 = 1 ∧ tS I n 0 = 0 ∧ tE I n 0 = n then tV I n 0 else -1
set_option maxHeartbeats 1000000 in
theorem c_nameIn (hB : inB M I n) : qCt mX3_nameIn 0 3 [.ref 25, .int (zI n)] M (qpe (nameV I n) (adv (qup (qup M 25 4 n) 25 5 0) I n 0)) := by
  have hn := hB.1
  have hn7 : n ≤ 700 := by have := hB.2.1; have := hB.2.2.1; omega
  have hE := tE_in (I := I) (n := n) (p := 0) hn
  have hS := tS_in (I := I) (n := n) (p := 0) hn
  have hk := tK_in I n 0
  have hc : cur (adv (qup (qup M 25 4 n) 25 5 0) I n 0) I n 0 := cur_qlx
  refine q_intro (own := 3) (L := [some (.ref 25), some (.int (zI n))]) md_X3_nameIn rfl rfl rfl (Nat.le_of_ble_eq_true rfl) (fun X => ?_)
  refine q_aload_n dX3_nameIn_0 rfl ?_
  refine q_iload_n dX3_nameIn_1 rfl ?_
  refine q_V1 dX3_nameIn_2 ml_3_49 md_X3_begin (c_pbegin hB) rfl rfl rfl (by first | decide | omega) (Nat.le_of_ble_eq_true rfl) (Nat.le_of_ble_eq_true rfl) (qk_v ?_)
  refine q_aload_n dX3_nameIn_5 rfl ?_
  refine q_geti (j := 6) dX3_nameIn_6 fl_3_52 rfl rfl rfl ?_
  refine q_iconst dX3_nameIn_9 ?_
  rw [hc.2.1]
  refine q_icmp_ne (tgt := 35) dX3_nameIn_10 rfl (by (first | (unfold zR; omega) | (unfold zLR; omega) | omega | (simp only [zR, qup] at *; omega) | (simp [zR, qup]; omega) | (simp [zR, qup]; done))) (by (first | (unfold zR; omega) | (unfold zLR; omega) | omega | (simp only [zR, qup] at *; omega) | (simp [zR, qup]; omega) | (simp [zR, qup]; done))) (fun h10 => ?_) (fun h10 => ?_)
  ·
    refine q_iconst dX3_nameIn_35 ?_
    refine q_ireturn dX3_nameIn_36 ?_
    exact ⟨by unfold nameV; rw [if_neg (fun q => h10 q.1)], rfl⟩
  refine q_aload_n dX3_nameIn_13 rfl ?_
  refine q_geti (j := 7) dX3_nameIn_14 fl_3_55 rfl rfl rfl ?_
  rw [hc.2.2.1]
  refine q_if_ne (tgt := 35) dX3_nameIn_17 rfl (by (first | (unfold zR; omega) | (unfold zLR; omega) | omega | (simp only [zR, qup] at *; omega) | (simp [zR, qup]; omega) | (simp [zR, qup]; done))) (fun h17 => ?_) (fun h17 => ?_)
  ·
    refine q_iconst dX3_nameIn_35 ?_
    refine q_ireturn dX3_nameIn_36 ?_
    exact ⟨by unfold nameV; rw [if_neg (fun q => h17 q.2.1)], rfl⟩
  refine q_aload_n dX3_nameIn_20 rfl ?_
  refine q_geti (j := 5) dX3_nameIn_21 fl_3_58 rfl rfl rfl ?_
  refine q_iload_n dX3_nameIn_24 rfl ?_
  rw [hc.1]
  refine q_icmp_ne (tgt := 35) dX3_nameIn_25 rfl (by (first | (unfold zR; omega) | (unfold zLR; omega) | omega | (simp only [zR, qup] at *; omega) | (simp [zR, qup]; omega) | (simp [zR, qup]; done))) (by (first | (unfold zR; omega) | (unfold zLR; omega) | omega | (simp only [zR, qup] at *; omega) | (simp [zR, qup]; omega) | (simp [zR, qup]; done))) (fun h25 => ?_) (fun h25 => ?_)
  ·
    refine q_iconst dX3_nameIn_35 ?_
    refine q_ireturn dX3_nameIn_36 ?_
    exact ⟨by unfold nameV; rw [if_neg (fun q => h25 q.2.2)], rfl⟩
  refine q_aload_n dX3_nameIn_28 rfl ?_
  refine q_geti (j := 8) dX3_nameIn_29 fl_3_61 rfl rfl rfl ?_
  rw [hc.2.2.2]
  refine q_goto (tgt := 36) dX3_nameIn_32 rfl ?_
  refine q_ireturn dX3_nameIn_36 ?_
  exact ⟨by unfold nameV; rw [if_pos ⟨h10, h17, h25⟩], rfl⟩
set_option maxHeartbeats 1000000 in
theorem c_parsedLevel : qCt mX3_parsedLevel 0 0 [.ref 25] M (qpe (M 25 9) M) := by
  refine q_intro (own := 3) (L := [some (.ref 25)]) md_X3_parsedLevel rfl rfl rfl (Nat.le_of_ble_eq_true rfl) (fun X => ?_)
  refine q_aload_n dX3_parsedLevel_0 rfl ?_
  refine q_geti (j := 9) dX3_parsedLevel_1 fl_3_32 rfl rfl rfl ?_
  refine q_ireturn dX3_parsedLevel_4 ?_
  exact ⟨rfl, rfl⟩
set_option maxHeartbeats 1000000 in
theorem c_parsedMaps : qCt mX3_parsedMaps 0 0 [.ref 25] M (qpe (M 25 10) M) := by
  refine q_intro (own := 3) (L := [some (.ref 25)]) md_X3_parsedMaps rfl rfl rfl (Nat.le_of_ble_eq_true rfl) (fun X => ?_)
  refine q_aload_n dX3_parsedMaps_0 rfl ?_
  refine q_geti (j := 10) dX3_parsedMaps_1 fl_3_36 rfl rfl rfl ?_
  refine q_ireturn dX3_parsedMaps_4 ?_
  exact ⟨rfl, rfl⟩
set_option maxHeartbeats 1000000 in
theorem c_parsedName {k : Int} (hk : 0 ≤ k ∧ k < 6) : qCt mX3_parsedName 0 1 [.ref 25, .int (zI k)] M (qpe (M 27 k) M) := by
  refine q_intro (own := 3) (L := [some (.ref 25), some (.int (zI k))]) md_X3_parsedName rfl rfl rfl (Nat.le_of_ble_eq_true rfl) (fun X => ?_)
  refine q_aload_n dX3_parsedName_0 rfl ?_
  refine q_getr dX3_parsedName_1 fl_3_14 rfl rfl ?_
  refine q_iload_n dX3_parsedName_4 rfl ?_
  refine q_V1 dX3_parsedName_5 ml_3_39 md_X5_get (c_rget (o := 26) (r := 27) (n := 6) rfl rfl (by omega) (by omega)) rfl rfl rfl (by first | decide | omega) (Nat.le_of_ble_eq_true rfl) (Nat.le_of_ble_eq_true rfl) (qk_e ?_)
  refine q_ireturn dX3_parsedName_8 ?_
  exact ⟨rfl, rfl⟩
set_option maxHeartbeats 1000000 in
theorem c_perrorCode : qCt mX3_errorCode 0 0 [.ref 25] M (qpe (M 25 11) M) := by
  refine q_intro (own := 3) (L := [some (.ref 25)]) md_X3_errorCode rfl rfl rfl (Nat.le_of_ble_eq_true rfl) (fun X => ?_)
  refine q_aload_n dX3_errorCode_0 rfl ?_
  refine q_geti (j := 11) dX3_errorCode_1 fl_3_43 rfl rfl rfl ?_
  refine q_ireturn dX3_errorCode_4 ?_
  exact ⟨rfl, rfl⟩
set_option maxHeartbeats 1000000 in
theorem c_perrorAt : qCt mX3_errorAt 0 0 [.ref 25] M (qpe (M 25 12) M) := by
  refine q_intro (own := 3) (L := [some (.ref 25)]) md_X3_errorAt rfl rfl rfl (Nat.le_of_ble_eq_true rfl) (fun X => ?_)
  refine q_aload_n dX3_errorAt_0 rfl ?_
  refine q_geti (j := 12) dX3_errorAt_1 fl_3_46 rfl rfl rfl ?_
  refine q_ireturn dX3_errorAt_4 ?_
  exact ⟨rfl, rfl⟩
end PR


set_option maxHeartbeats 8000000 in
theorem c_measure {L : Nat} {r : Int} {c : Int → Int} {M : qM} (hL : 1 ≤ L ∧ L ≤ 4) (hr : 0 ≤ r ∧ r < 33) (hc : ∀ k, 0 ≤ k → k < p4 L → M 4 (r * 256 + k) = c k) (hcb : ∀ k, 0 ≤ k → k < p4 L → 0 ≤ c k ∧ c k < 256) (hY : ∀ j, zR (M 13 j)) :
    qCt mX6_measure 0 3 [.ref 5, .int (zI r), .int (zI (L : Int))] M (qph (fun M' => ∃ K Y S C T N, M' = tw (qup (qup M 5 7 r) 5 8 (L : Int)) K Y S C T N ∧ Tm c L K Y S C T N)) := by
  have h8 : (qup (qup M 5 7 r) 5 8 (L : Int)) 5 8 = (L : Int) := qup_s _ _ _ _
  have h7 : (qup (qup M 5 7 r) 5 8 (L : Int)) 5 7 = r := by simp [qup]
  have h4 : ∀ k, (qup (qup M 5 7 r) 5 8 (L : Int)) 4 k = M 4 k := fun k => by simp [qup]
  have h13 : ∀ k, (qup (qup M 5 7 r) 5 8 (L : Int)) 13 k = M 13 k := fun k => by simp [qup]
  have hpL := p4_in (L : Int)
  refine q_intro (own := 6) (L := [some (.ref 5), some (.int (zI r)), some (.int (zI (L : Int))), none, none]) md_X6_measure rfl rfl rfl (Nat.le_of_ble_eq_true rfl) (fun X => ?_)
  refine q_aload_n dX6_measure_0 rfl ?_
  refine q_iload_n dX6_measure_1 rfl ?_
  refine q_puti (j := 7) dX6_measure_2 fl_6_39 rfl rfl rfl rfl rfl ?_
  refine q_aload_n dX6_measure_5 rfl ?_
  refine q_iload_n dX6_measure_6 rfl ?_
  refine q_puti (j := 8) dX6_measure_7 fl_6_43 rfl rfl rfl rfl rfl ?_
  refine q_iconst dX6_measure_10 ?_
  refine q_istore_n dX6_measure_11 (Nat.le_of_ble_eq_true rfl) rfl ?_
  generalize qup (qup M 5 7 r) 5 8 (L : Int) = M0 at h8 h7 h4 h13 ⊢
  refine q_lp (α := Int × (Int → Int) × (Int → Int)) (fun x => (p4 L - x.1).toNat) (fun x => 0 ≤ x.1 ∧ x.1 ≤ p4 L ∧ Ti c L 0 x.1 x.2.1 (M0 13) x.2.2 (M0 15)) (fun x => [some (.ref 5), some (.int (zI r)), some (.int (zI (L : Int))), some (.int (zI x.1)), none]) (fun x => tw M0 x.2.1 (M0 13) x.2.2 (M0 15) (M0 16) (M0 17)) (0, M0 12, M0 14) rfl (tw_id M0) ⟨by dsimp only; omega, by dsimp only; omega, fun k x hx => by dsimp only at hx; have h1 := hx.1; have h2 := hx.2.2.2; omega⟩ (fun x hx ih => ?_)
  obtain ⟨i, K, S⟩ := x
  obtain ⟨hi0, hi1, hi2⟩ := hx
  dsimp only at hi0 hi1 hi2 ih ⊢
  refine q_iload_n dX6_measure_12 rfl ?_
  refine q_aload_n dX6_measure_13 rfl ?_
  refine q_geti (j := 8) dX6_measure_14 fl_6_43 rfl rfl rfl ?_
  rw [tw_5, h8]
  refine q_N1 dX6_measure_17 (by decide +kernel) md_X7_cellsIn (c_cellsIn (by omega)) rfl (by first | decide | omega) (Nat.le_of_ble_eq_true rfl) (Nat.le_of_ble_eq_true rfl) (qk_e ?_)
  refine q_icmp_ge (tgt := 61) dX6_measure_20 rfl (by (first | (unfold zR; omega) | (unfold zLR; omega) | omega | (simp only [zR, qup] at *; omega) | (simp [zR, qup]; omega) | (simp [zR, qup]; done))) (by (first | (unfold zR; omega) | (unfold zLR; omega) | omega | (simp only [zR, qup] at *; omega) | (simp [zR, qup]; omega) | (simp [zR, qup]; done))) (fun h20 => ?_) (fun h20 => ?_)
  rotate_left
  ·
    refine q_aload_n dX6_measure_23 rfl ?_
    refine q_getr dX6_measure_24 fl_6_14 rfl rfl ?_
    refine q_iload_n dX6_measure_27 rfl ?_
    refine q_aload_n dX6_measure_28 rfl ?_
    refine q_getr dX6_measure_29 fl_6_35 rfl rfl ?_
    refine q_aload_n dX6_measure_32 rfl ?_
    refine q_geti (j := 7) dX6_measure_33 fl_6_39 rfl rfl rfl ?_
    refine q_iload_n dX6_measure_36 rfl ?_
    rw [tw_5, h7]
    refine q_V2 dX6_measure_37 ml_6_50 md_X0_cell (c_cell hr (by omega)) rfl rfl rfl (by first | decide | omega) (Nat.le_of_ble_eq_true rfl) (Nat.le_of_ble_eq_true rfl) (qk_e ?_)
    rw [tw_4, h4, hc i hi0 h20]
    refine q_S1 dX6_measure_40 ml_6_56 md_X6_kindOfCell (c_kindOfCell (hcb i hi0 h20)) rfl (by first | decide | omega) (Nat.le_of_ble_eq_true rfl) (Nat.le_of_ble_eq_true rfl) (qk_e ?_)
    refine q_V2 dX6_measure_43 ml_6_59 md_X5_set (c_rset (o := 6) (r := 12) (n := 341) rfl rfl (by omega) (by omega)) rfl rfl rfl (by first | decide | omega) (Nat.le_of_ble_eq_true rfl) (Nat.le_of_ble_eq_true rfl) (qk_v ?_)
    rw [tw_u12]
    refine q_aload_n dX6_measure_46 rfl ?_
    refine q_getr dX6_measure_47 fl_6_23 rfl rfl ?_
    refine q_iload_n dX6_measure_50 rfl ?_
    refine q_iconst dX6_measure_51 ?_
    refine q_V2 dX6_measure_52 ml_6_59 md_X5_set (c_rset (o := 8) (r := 14) (n := 341) rfl rfl (by omega) (by omega)) rfl rfl rfl (by first | decide | omega) (Nat.le_of_ble_eq_true rfl) (Nat.le_of_ble_eq_true rfl) (qk_v ?_)
    rw [tw_u14]
    refine q_iinc dX6_measure_55 rfl (Nat.le_of_ble_eq_true rfl) rfl ?_
    refine q_goto (tgt := 12) dX6_measure_58 rfl ?_
    exact ih (i + 1, _, _) _ _ ⟨by dsimp only; omega, by dsimp only; omega, Ti_0 hL.2 ⟨hi0, h20⟩ hcb hi2⟩ (by dsimp only; omega) rfl rfl
  refine q_iconst dX6_measure_61 ?_
  refine q_istore_n dX6_measure_62 (Nat.le_of_ble_eq_true rfl) rfl ?_
  refine q_lp (α := Nat × (Int → Int) × (Int → Int) × (Int → Int) × (Int → Int)) (fun x => L + 1 - x.1) (fun x => x.1 ≤ L ∧ Ti c L (x.1 + 1) 0 x.2.1 x.2.2.1 x.2.2.2.1 x.2.2.2.2 ∧ ∀ j, zR (x.2.2.1 j)) (fun x => [some (.ref 5), some (.int (zI r)), some (.int (zI (L : Int))), some (.int (zI ((x.1 : Int) + 1))), none]) (fun x => tw M0 x.2.1 x.2.2.1 x.2.2.2.1 x.2.2.2.2 (M0 16) (M0 17)) (0, K, M0 13, S, M0 15) rfl rfl ⟨by dsimp only; omega, Ti_next hi2 (by rw [show (L : Int) - ((0 : Nat) : Int) = L by omega]; exact h20), fun j => by dsimp only; rw [h13]; exact hY j⟩ (fun x hx ih2 => ?_)
  obtain ⟨k, K2, Y2, S2, C2⟩ := x
  obtain ⟨hk0, hk1, hk2⟩ := hx
  dsimp only at hk0 hk1 hk2 ih2 ⊢
  refine q_iload_n dX6_measure_63 rfl ?_
  refine q_aload_n dX6_measure_64 rfl ?_
  refine q_geti (j := 8) dX6_measure_65 fl_6_43 rfl rfl rfl ?_
  rw [tw_5, h8]
  refine q_icmp_gt (tgt := 106) dX6_measure_68 rfl (by (first | (unfold zR; omega) | (unfold zLR; omega) | omega | (simp only [zR, qup] at *; omega) | (simp [zR, qup]; omega) | (simp [zR, qup]; done))) (by (first | (unfold zR; omega) | (unfold zLR; omega) | omega | (simp only [zR, qup] at *; omega) | (simp [zR, qup]; omega) | (simp [zR, qup]; done))) (fun h68 => ?_) (fun h68 => ?_)
  rotate_left
  ·
    refine q_iconst dX6_measure_71 ?_
    refine q_istore dX6_measure_72 (Nat.le_of_ble_eq_true rfl) rfl ?_
    refine q_lp (α := Int × (Int → Int) × (Int → Int) × (Int → Int) × (Int → Int)) (fun x => (p4 ((L : Int) - (k + 1)) - x.1).toNat) (fun x => 0 ≤ x.1 ∧ x.1 ≤ p4 ((L : Int) - (k + 1)) ∧ Ti c L (k + 1) x.1 x.2.1 x.2.2.1 x.2.2.2.1 x.2.2.2.2 ∧ ∀ j, zR (x.2.2.1 j)) (fun x => [some (.ref 5), some (.int (zI r)), some (.int (zI (L : Int))), some (.int (zI ((k : Int) + 1))), some (.int (zI x.1))]) (fun x => tw M0 x.2.1 x.2.2.1 x.2.2.2.1 x.2.2.2.2 (M0 16) (M0 17)) (0, K2, Y2, S2, C2) rfl rfl ⟨by dsimp only; omega, by dsimp only; have := (p4_in ((L : Int) - (k + 1))).1; omega, hk1, hk2⟩ (fun x hx ih3 => ?_)
    obtain ⟨b, K3, Y3, S3, C3⟩ := x
    obtain ⟨hb0, hb1, hb2, hb3⟩ := hx
    dsimp only at hb0 hb1 hb2 hb3 ih3 ⊢
    have hpk := p4_in ((L : Int) - (k + 1))
    refine q_iload dX6_measure_74 rfl ?_
    refine q_iload_n dX6_measure_76 rfl ?_
    refine q_aload_n dX6_measure_77 rfl ?_
    refine q_geti (j := 8) dX6_measure_78 fl_6_43 rfl rfl rfl ?_
    rw [tw_5, h8]
    refine q_N2 dX6_measure_81 (by decide +kernel) md_X7_blocksAt (c_blocksAt (by omega)) rfl (by first | decide | omega) (Nat.le_of_ble_eq_true rfl) (Nat.le_of_ble_eq_true rfl) (qk_e ?_)
    refine q_icmp_ge (tgt := 100) dX6_measure_84 rfl (by (first | (unfold zR; omega) | (unfold zLR; omega) | omega | (simp only [zR, qup] at *; omega) | (simp [zR, qup]; omega) | (simp [zR, qup]; done))) (by (first | (unfold zR; omega) | (unfold zLR; omega) | omega | (simp only [zR, qup] at *; omega) | (simp [zR, qup]; omega) | (simp [zR, qup]; done))) (fun h84 => ?_) (fun h84 => ?_)
    rotate_left
    ·
      refine q_aload_n dX6_measure_87 rfl ?_
      refine q_iload_n dX6_measure_88 rfl ?_
      refine q_iload dX6_measure_89 rfl ?_
      have hkid : ∀ q : Nat, q < 4 → don L (k + 1) b k (4 * b + q) := fun q hq => by
        have := p4_kid (x := b) (show k + 1 ≤ L by omega) hL.2 ⟨hb0, h84⟩ hq
        exact ⟨this.1, by omega, this.2, Or.inl (by omega)⟩
      refine q_V2 dX6_measure_91 ml_6_66 md_X6_measureBlock (c_measureBlock (l := k) (L := L) ⟨by omega, hL.2⟩ ⟨hb0, h84⟩ h8 hb3 (fun q hq => ⟨(hb2 k _ (hkid q hq)).1, (hb2 k _ (hkid q hq)).2.1⟩)) rfl rfl rfl (by first | decide | omega) (Nat.le_of_ble_eq_true rfl) (Nat.le_of_ble_eq_true rfl) (qk_h (fun N91 hq91 => ?_))
      obtain ⟨z, hz, rfl⟩ := hq91
      refine q_iinc dX6_measure_94 rfl (Nat.le_of_ble_eq_true rfl) rfl ?_
      refine q_goto (tgt := 74) dX6_measure_97 rfl ?_
      exact ih3 (b + 1, _, _, _, _) _ _ ⟨by dsimp only; omega, by dsimp only; omega, Ti_up hL.2 (by omega) ⟨hb0, h84⟩ hcb hb2 hz, fup_R hb3 (pkk_R _ 4)⟩ (by dsimp only; omega) rfl rfl
    refine q_iinc dX6_measure_100 rfl (Nat.le_of_ble_eq_true rfl) rfl ?_
    refine q_goto (tgt := 63) dX6_measure_103 rfl ?_
    refine q_wk _ ?_ (ih2 (k + 1, K3, Y3, S3, C3) _ _ ⟨by dsimp only; omega, Ti_next hb2 (by rw [show ((k + 1 : Nat) : Int) = (k : Int) + 1 by omega]; exact h84), hb3⟩ (by dsimp only; omega) rfl rfl)
    simp only [wkB]
    (repeat (first | exact rfl | exact trivial | refine ⟨rfl, ?_⟩))
  refine q_aload_n dX6_measure_106 rfl ?_
  have hk : k = L := by omega
  subst hk
  refine q_V0 dX6_measure_107 ml_6_69 md_X6_layOut (c_layOut (L := k) (r := r) (c := c) hL hr h8 h7 (fun q h0 h1 => by rw [h4]; exact hc q h0 h1) hk1) rfl rfl rfl (by first | decide | omega) (Nat.le_of_ble_eq_true rfl) (Nat.le_of_ble_eq_true rfl) (qk_h (fun N107 hq107 => ?_))
  obtain ⟨T', N', rfl, hT, hN⟩ := hq107
  refine q_return dX6_measure_110 ?_
  exact ⟨rfl, K2, Y2, S2, C2, T', N', rfl, hk1, hT, hN, hk2⟩


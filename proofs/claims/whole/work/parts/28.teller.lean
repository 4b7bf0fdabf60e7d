/-! QuarterMaps$Tree: the byte that tells a cell; the tree spelt. -/
noncomputable def tellF (c : Int → Int) (L : Nat) (cell : Int) : Nat → Int → Int
  | 0, b => sr c L 0 L b
  | l + 1, b => if qcode c l b (cell / p4 l % 4).toNat < 2 then sr c L 0 (L - l - 1) b else tellF c L cell l (if qcode c l b (cell / p4 l % 4).toNat = 2 then 4 * b + cell / p4 l % 4 else qlast c l b (cell / p4 l % 4).toNat)
theorem zshr_p4 {a l : Int} (ha : 0 ≤ a ∧ a < 2147483648) (hl : 0 ≤ l ∧ l ≤ 4) : zshr a (2 * l) = a / p4 l := by
  have e0 : zshr a (2 * 0) = a / p4 0 := by have : zshr a (0 : Nat) = a / 2 ^ 0 := zshr_c 0 ha.1 ha.2 (by decide); simpa [p4] using this
  have e1 : zshr a (2 * 1) = a / p4 1 := zshr_c 2 ha.1 ha.2 (by decide)
  have e2 : zshr a (2 * 2) = a / p4 2 := zshr_c 4 ha.1 ha.2 (by decide)
  have e3 : zshr a (2 * 3) = a / p4 3 := zshr_c 6 ha.1 ha.2 (by decide)
  have e4 : zshr a (2 * 4) = a / p4 4 := zshr_c 8 ha.1 ha.2 (by decide)
  rcases p4_cases hl with h | h | h | h | h <;> subst h <;> assumption
theorem zand_m4 {a : Int} (h : 0 ≤ a ∧ a < 256) : zand a (-4) = 4 * (a / 4) := by
  have key : ∀ a : Fin 256, zand (a.val : Int) (-4) = 4 * ((a.val : Int) / 4) := by decide +kernel
  obtain ⟨n, rfl⟩ := z_nat h.1
  exact key ⟨n, by omega⟩
theorem zor_3 {a : Int} (h : 0 ≤ a ∧ a < 256) : zor a 3 = 4 * (a / 4) + 3 := by
  have key : ∀ a : Fin 256, zor (a.val : Int) 3 = 4 * ((a.val : Int) / 4) + 3 := by decide +kernel
  obtain ⟨n, rfl⟩ := z_nat h.1
  exact key ⟨n, by omega⟩
theorem qcode_3 {c : Int → Int} {l b : Int} {q : Nat} (h : qcode c l b q = 3) : qlast c l b q ≠ -1 := by
  unfold qcode tc at h
  intro e
  by_cases h0 : allv c l (4 * b + q) 0
  · rw [cif_t h0] at h; omega
  · rw [cif_f h0] at h
    by_cases h1 : allv c l (4 * b + q) 255
    · rw [cif_t h1] at h; omega
    · rw [cif_f h1, cif_f (fun w => w.1 e)] at h; omega
section TT
variable {L : Nat} {c : Int → Int} {M : qM} {K Y S C T N : Int → Int}
set_option maxHeartbeats 2000000 in
theorem c_twinOf {l : Nat} {b q : Int} (hL : 1 ≤ L ∧ L ≤ 4) (hT : Tm c L K Y S C T N) (hl : l < L) (hb : 0 ≤ b ∧ b < p4 ((L : Int) - (l + 1))) (hq : 0 ≤ q ∧ q < 4) (h : qlast c l b q.toNat ≠ -1) : qCt mX6_twinOf 0 1 [.ref 5, .int (zI (l : Int)), .int (zI (4 * b + q))] (tw M K Y S C T N) (qpe (qlast c l b q.toNat) (tw M K Y S C T N)) := by
  have hkid := fun (q : Nat) (hq : q < 4) => p4_kid (l := l) (L := L) (x := b) (by omega) hL.2 hb hq
  have hp := p4_le (a := (L : Int) - l) (b := 4) (by omega)
  rw [show p4 4 = 256 by decide] at hp
  have hk0 := hkid 0 (by omega)
  have hk3 := hkid q.toNat (by omega)
  have hqi := qlast_in c l b q.toNat
  refine q_intro (own := 6) (L := [some (.ref 5), some (.int (zI (l : Int))), some (.int (zI (4 * b + q))), none]) md_X6_twinOf rfl rfl rfl (Nat.le_of_ble_eq_true rfl) (fun X => ?_)
  refine q_iload_n dX6_twinOf_0 rfl ?_
  refine q_iconst dX6_twinOf_1 ?_
  refine q_isub dX6_twinOf_2 ?_
  refine q_istore_n dX6_twinOf_3 (Nat.le_of_ble_eq_true rfl) rfl ?_
  refine q_lp (fun j : Nat => j) (fun j => j < q ∧ qlast c l b (j + 1) = qlast c l b q.toNat) (fun j => [some (.ref 5), some (.int (zI (l : Int))), some (.int (zI (4 * b + q))), some (.int (zI (4 * b + (j : Int))))]) (fun _ => tw M K Y S C T N) (q.toNat - 1) (by rw [show 4 * b + q - 1 = 4 * b + ((q.toNat - 1 : Nat) : Int) by omega]; rfl) rfl ⟨by omega, by rw [show q.toNat - 1 + 1 = q.toNat by omega]⟩ (fun j hj ih => ?_)
  obtain ⟨hj0, hj1⟩ := hj
  refine q_iload_n dX6_twinOf_4 rfl ?_
  refine q_iload_n dX6_twinOf_5 rfl ?_
  refine q_bipush dX6_twinOf_6 rfl ?_
  refine q_iand dX6_twinOf_8 ?_
  rw [zand_m4 (by omega), show (4 * b + q) / 4 = b by omega]
  refine q_icmp_le (tgt := 34) dX6_twinOf_9 rfl (by (first | (unfold zR; omega) | (unfold zLR; omega) | omega | (simp only [zR, qup] at *; omega) | (simp [zR, qup]; omega) | (simp [zR, qup]; done))) (by (first | (unfold zR; omega) | (unfold zLR; omega) | omega | (simp only [zR, qup] at *; omega) | (simp [zR, qup]; omega) | (simp [zR, qup]; done))) (fun h9 => ?_) (fun h9 => ?_)
  ·
    refine q_iload_n dX6_twinOf_34 rfl ?_
    refine q_ireturn dX6_twinOf_35 ?_
    have hj2 : j = 0 := by omega
    subst hj2
    rw [qlast_s] at hj1
    by_cases g : qcode c l b 0 = 2
    · rw [if_pos g] at hj1; exact ⟨by rw [← hj1], rfl⟩
    · rw [if_neg g] at hj1; exact absurd (hj1.symm.trans rfl) h
  ·
    refine q_aload_n dX6_twinOf_12 rfl ?_
    refine q_getr dX6_twinOf_13 fl_6_26 rfl rfl ?_
    refine q_iload_n dX6_twinOf_16 rfl ?_
    refine q_iload_n dX6_twinOf_17 rfl ?_
    have hkj := hkid j (by omega)
    have hqc := qcode_in c l b j
    refine q_S2 dX6_twinOf_18 ml_6_72 md_X6_node (c_node (by omega)) rfl (by first | decide | omega) (Nat.le_of_ble_eq_true rfl) (Nat.le_of_ble_eq_true rfl) (qk_e ?_)
    refine q_V1 dX6_twinOf_21 ml_6_75 md_X5_get (c_rget (o := 9) (r := 15) (n := 341) rfl rfl (by omega) (nd_in2 hL.2 (by omega) hkj)) rfl rfl rfl (by first | decide | omega) (Nat.le_of_ble_eq_true rfl) (Nat.le_of_ble_eq_true rfl) (qk_e ?_)
    rw [tw_15, Tm_C hL.2 hT hl hkj, show (4 * b + (j : Int)) / 4 = b by omega, show ((4 * b + (j : Int)) % 4).toNat = j by omega]
    refine q_iconst dX6_twinOf_24 ?_
    refine q_icmp_eq (tgt := 34) dX6_twinOf_25 rfl (by (first | (unfold zR; omega) | (unfold zLR; omega) | omega | (simp only [zR, qup] at *; omega) | (simp [zR, qup]; omega) | (simp [zR, qup]; done))) (by (first | (unfold zR; omega) | (unfold zLR; omega) | omega | (simp only [zR, qup] at *; omega) | (simp [zR, qup]; omega) | (simp [zR, qup]; done))) (fun h25 => ?_) (fun h25 => ?_)
    ·
      refine q_iload_n dX6_twinOf_34 rfl ?_
      refine q_ireturn dX6_twinOf_35 ?_
      exact ⟨by rw [← hj1, qlast_s, if_pos h25], rfl⟩
    ·
      refine q_iinc dX6_twinOf_28 rfl (Nat.le_of_ble_eq_true rfl) rfl ?_
      refine q_goto (tgt := 4) dX6_twinOf_31 rfl ?_
      exact ih (j - 1) _ _ ⟨by omega, by rw [show j - 1 + 1 = j by omega, ← hj1, qlast_s, if_neg h25]⟩ (by omega) (by rw [show 4 * b + (j : Int) + -1 = 4 * b + ((j - 1 : Nat) : Int) by omega]; rfl) rfl
set_option maxHeartbeats 4000000 in
theorem c_tellerOfCell {cell : Int} (hL : 1 ≤ L ∧ L ≤ 4) (h8 : M 5 8 = (L : Int)) (hT : Tm c L K Y S C T N) (hc : 0 ≤ cell ∧ cell < 256) : qCt mX6_tellerOfCell 0 2 [.ref 5, .int (zI cell)] (tw M K Y S C T N) (qpe (tellF c L cell L 0) (tw M K Y S C T N)) := by
  refine q_intro (own := 6) (L := [some (.ref 5), some (.int (zI cell)), none, none, none, none]) md_X6_tellerOfCell rfl rfl rfl (Nat.le_of_ble_eq_true rfl) (fun X => ?_)
  refine q_iconst dX6_tellerOfCell_0 ?_
  refine q_istore_n dX6_tellerOfCell_1 (Nat.le_of_ble_eq_true rfl) rfl ?_
  refine q_aload_n dX6_tellerOfCell_2 rfl ?_
  refine q_geti (j := 8) dX6_tellerOfCell_3 fl_6_43 rfl rfl rfl ?_
  rw [tw_5, h8]
  refine q_istore_n dX6_tellerOfCell_6 (Nat.le_of_ble_eq_true rfl) rfl ?_
  refine q_lp (α := Nat × Int) (fun x => x.1) (fun x => x.1 ≤ L ∧ 0 ≤ x.2 ∧ x.2 < p4 ((L : Int) - x.1) ∧ tellF c L cell x.1 x.2 = tellF c L cell L 0) (fun x => [some (.ref 5), some (.int (zI cell)), some (.int (zI x.2)), some (.int (zI (x.1 : Int))), none, none]) (fun _ => tw M K Y S C T N) (L, 0) rfl rfl ⟨Nat.le_refl L, Int.le_refl 0, by dsimp only; rw [show (L : Int) - L = 0 by omega]; decide, rfl⟩ (fun x hx ih => ?_)
  obtain ⟨l, b⟩ := x
  obtain ⟨hl, hb0, hb1, hb2⟩ := hx
  dsimp only at hl hb0 hb1 hb2 ih ⊢
  refine q_iload_n dX6_tellerOfCell_7 rfl ?_
  refine q_if_le (tgt := 94) dX6_tellerOfCell_8 rfl (by (first | (unfold zR; omega) | (unfold zLR; omega) | omega | (simp only [zR, qup] at *; omega) | (simp [zR, qup]; omega) | (simp [zR, qup]; done))) (fun h8 => ?_) (fun h8 => ?_)
  rotate_left
  ·
    refine q_iconst dX6_tellerOfCell_11 ?_
    refine q_iload_n dX6_tellerOfCell_12 rfl ?_
    refine q_imul dX6_tellerOfCell_13 ?_
    refine q_iload_n dX6_tellerOfCell_14 rfl ?_
    refine q_iconst dX6_tellerOfCell_15 ?_
    refine q_iload_n dX6_tellerOfCell_16 rfl ?_
    refine q_iconst dX6_tellerOfCell_17 ?_
    refine q_isub dX6_tellerOfCell_18 ?_
    refine q_imul dX6_tellerOfCell_19 ?_
    obtain ⟨k, rfl⟩ : ∃ k : Nat, l = k + 1 := ⟨l - 1, by omega⟩
    rw [show ((k + 1 : Nat) : Int) - 1 = k by omega]
    rw [show ((k + 1 : Nat) : Int) = (k : Int) + 1 by omega] at hb1
    have hp := p4_in (k : Int)
    have hdv : 0 ≤ cell / p4 k ∧ cell / p4 k ≤ cell := ⟨Int.ediv_nonneg hc.1 (by omega), Int.ediv_le_self _ hc.1⟩
    refine q_ishr dX6_tellerOfCell_20 ?_
    rw [zshr_p4 (by omega) (by omega)]
    refine q_iconst dX6_tellerOfCell_21 ?_
    refine q_iand dX6_tellerOfCell_22 ?_
    rw [zand_3 (by omega) (by omega)]
    have hq : 0 ≤ cell / p4 k % 4 ∧ cell / p4 k % 4 < 4 := by omega
    have hu : tellF c L cell (k + 1) b = if qcode c k b (cell / p4 k % 4).toNat < 2 then sr c L 0 (L - k - 1) b else tellF c L cell k (if qcode c k b (cell / p4 k % 4).toNat = 2 then 4 * b + cell / p4 k % 4 else qlast c k b (cell / p4 k % 4).toNat) := rfl
    have hql := qlast_in c k b (cell / p4 k % 4).toNat
    generalize cell / p4 k % 4 = q at hq hu hql ⊢
    have hkid := p4_kid (l := k) (L := L) (x := b) (by omega) hL.2 ⟨hb0, hb1⟩ (show q.toNat < 4 by omega)
    rw [show ((q.toNat : Nat) : Int) = q by omega] at hkid
    have hkid0 := p4_kid (l := k) (L := L) (x := b) (by omega) hL.2 ⟨hb0, hb1⟩ (show 3 < 4 by omega)
    have hqc := qcode_in c k b q.toNat
    refine q_iadd dX6_tellerOfCell_23 ?_
    refine q_istore dX6_tellerOfCell_24 (Nat.le_of_ble_eq_true rfl) rfl ?_
    refine q_aload_n dX6_tellerOfCell_26 rfl ?_
    refine q_getr dX6_tellerOfCell_27 fl_6_26 rfl rfl ?_
    refine q_iload_n dX6_tellerOfCell_30 rfl ?_
    refine q_iconst dX6_tellerOfCell_31 ?_
    refine q_isub dX6_tellerOfCell_32 ?_
    rw [show ((k + 1 : Nat) : Int) - 1 = k by omega]
    refine q_iload dX6_tellerOfCell_33 rfl ?_
    refine q_S2 dX6_tellerOfCell_35 ml_6_72 md_X6_node (c_node (by omega)) rfl (by first | decide | omega) (Nat.le_of_ble_eq_true rfl) (Nat.le_of_ble_eq_true rfl) (qk_e ?_)
    refine q_V1 dX6_tellerOfCell_38 ml_6_75 md_X5_get (c_rget (o := 9) (r := 15) (n := 341) rfl rfl (by omega) (nd_in2 hL.2 (by omega) hkid)) rfl rfl rfl (by first | decide | omega) (Nat.le_of_ble_eq_true rfl) (Nat.le_of_ble_eq_true rfl) (qk_e ?_)
    rw [tw_15, Tm_C hL.2 hT (by omega) hkid, show (4 * b + q) / 4 = b by omega, show (4 * b + q) % 4 = q by omega]
    refine q_istore dX6_tellerOfCell_41 (Nat.le_of_ble_eq_true rfl) rfl ?_
    refine q_iload dX6_tellerOfCell_43 rfl ?_
    refine q_if_eq (tgt := 54) dX6_tellerOfCell_45 rfl (by (first | (unfold zR; omega) | (unfold zLR; omega) | omega | (simp only [zR, qup] at *; omega) | (simp [zR, qup]; omega) | (simp [zR, qup]; done))) (fun h45 => ?_) (fun h45 => ?_)
    ·
      refine q_aload_n dX6_tellerOfCell_54 rfl ?_
      refine q_getr dX6_tellerOfCell_55 fl_6_29 rfl rfl ?_
      refine q_iload_n dX6_tellerOfCell_58 rfl ?_
      refine q_iload_n dX6_tellerOfCell_59 rfl ?_
      refine q_S2 dX6_tellerOfCell_60 ml_6_72 md_X6_node (c_node (by omega)) rfl (by first | decide | omega) (Nat.le_of_ble_eq_true rfl) (Nat.le_of_ble_eq_true rfl) (qk_e ?_)
      refine q_V1 dX6_tellerOfCell_63 ml_6_75 md_X5_get (c_rget (o := 10) (r := 16) (n := 341) rfl rfl (by omega) (nd_in2 (l := k + 1) hL.2 (by omega) ⟨hb0, by rw [show ((k + 1 : Nat) : Int) = (k : Int) + 1 by omega]; exact hb1⟩)) rfl rfl rfl (by first | decide | omega) (Nat.le_of_ble_eq_true rfl) (Nat.le_of_ble_eq_true rfl) (qk_e ?_)
      refine q_ireturn dX6_tellerOfCell_66 ?_
      exact ⟨by rw [tw_16, Tm_T hT hl ⟨hb0, by rw [show ((k + 1 : Nat) : Int) = (k : Int) + 1 by omega]; exact hb1⟩, ← hb2, hu, if_pos (by omega), Nat.sub_sub], rfl⟩
    ·
      refine q_iload dX6_tellerOfCell_48 rfl ?_
      refine q_iconst dX6_tellerOfCell_50 ?_
      refine q_icmp_ne (tgt := 67) dX6_tellerOfCell_51 rfl (by (first | (unfold zR; omega) | (unfold zLR; omega) | omega | (simp only [zR, qup] at *; omega) | (simp [zR, qup]; omega) | (simp [zR, qup]; done))) (by (first | (unfold zR; omega) | (unfold zLR; omega) | omega | (simp only [zR, qup] at *; omega) | (simp [zR, qup]; omega) | (simp [zR, qup]; done))) (fun h51 => ?_) (fun h51 => ?_)
      ·
        refine q_iload dX6_tellerOfCell_67 rfl ?_
        refine q_iconst dX6_tellerOfCell_69 ?_
        refine q_icmp_ne (tgt := 78) dX6_tellerOfCell_70 rfl (by (first | (unfold zR; omega) | (unfold zLR; omega) | omega | (simp only [zR, qup] at *; omega) | (simp [zR, qup]; omega) | (simp [zR, qup]; done))) (by (first | (unfold zR; omega) | (unfold zLR; omega) | omega | (simp only [zR, qup] at *; omega) | (simp [zR, qup]; omega) | (simp [zR, qup]; done))) (fun h70 => ?_) (fun h70 => ?_)
        ·
          refine q_aload_n dX6_tellerOfCell_78 rfl ?_
          refine q_iload_n dX6_tellerOfCell_79 rfl ?_
          refine q_iconst dX6_tellerOfCell_80 ?_
          refine q_isub dX6_tellerOfCell_81 ?_
          refine q_iload dX6_tellerOfCell_82 rfl ?_
          rw [show ((k + 1 : Nat) : Int) - 1 = k by omega]
          have h3 := qcode_3 (show qcode c k b q.toNat = 3 by omega)
          refine q_V2 dX6_tellerOfCell_84 ml_6_98 md_X6_twinOf (c_twinOf (l := k) (b := b) (q := q) hL hT (by omega) ⟨hb0, hb1⟩ hq h3) rfl rfl rfl (by first | decide | omega) (Nat.le_of_ble_eq_true rfl) (Nat.le_of_ble_eq_true rfl) (qk_e ?_)
          refine q_istore_n dX6_tellerOfCell_87 (Nat.le_of_ble_eq_true rfl) rfl ?_
          refine q_iinc dX6_tellerOfCell_88 rfl (Nat.le_of_ble_eq_true rfl) rfl ?_
          refine q_goto (tgt := 7) dX6_tellerOfCell_91 rfl ?_
          refine q_wk _ ?_ (ih (k, qlast c k b q.toNat) _ _ ⟨by dsimp only; omega, by dsimp only; omega, by dsimp only; omega, by dsimp only; rw [← hb2, hu, if_neg (by omega), if_neg h70]⟩ (by dsimp only; omega) rfl rfl)
          rw [show ((k + 1 : Nat) : Int) + -1 = k by omega]
          simp only [wkB]
          (repeat (first | exact rfl | exact trivial | refine ⟨rfl, ?_⟩))
        ·
          refine q_iload dX6_tellerOfCell_73 rfl ?_
          refine q_goto (tgt := 87) dX6_tellerOfCell_75 rfl ?_
          refine q_istore_n dX6_tellerOfCell_87 (Nat.le_of_ble_eq_true rfl) rfl ?_
          refine q_iinc dX6_tellerOfCell_88 rfl (Nat.le_of_ble_eq_true rfl) rfl ?_
          refine q_goto (tgt := 7) dX6_tellerOfCell_91 rfl ?_
          refine q_wk _ ?_ (ih (k, 4 * b + q) _ _ ⟨by dsimp only; omega, by dsimp only; omega, by dsimp only; omega, by dsimp only; rw [← hb2, hu, if_neg (by omega), if_pos h70]⟩ (by dsimp only; omega) rfl rfl)
          rw [show ((k + 1 : Nat) : Int) + -1 = k by omega]
          simp only [wkB]
          (repeat (first | exact rfl | exact trivial | refine ⟨rfl, ?_⟩))
      ·
        refine q_aload_n dX6_tellerOfCell_54 rfl ?_
        refine q_getr dX6_tellerOfCell_55 fl_6_29 rfl rfl ?_
        refine q_iload_n dX6_tellerOfCell_58 rfl ?_
        refine q_iload_n dX6_tellerOfCell_59 rfl ?_
        refine q_S2 dX6_tellerOfCell_60 ml_6_72 md_X6_node (c_node (by omega)) rfl (by first | decide | omega) (Nat.le_of_ble_eq_true rfl) (Nat.le_of_ble_eq_true rfl) (qk_e ?_)
        refine q_V1 dX6_tellerOfCell_63 ml_6_75 md_X5_get (c_rget (o := 10) (r := 16) (n := 341) rfl rfl (by omega) (nd_in2 (l := k + 1) hL.2 (by omega) ⟨hb0, by rw [show ((k + 1 : Nat) : Int) = (k : Int) + 1 by omega]; exact hb1⟩)) rfl rfl rfl (by first | decide | omega) (Nat.le_of_ble_eq_true rfl) (Nat.le_of_ble_eq_true rfl) (qk_e ?_)
        refine q_ireturn dX6_tellerOfCell_66 ?_
        exact ⟨by rw [tw_16, Tm_T hT hl ⟨hb0, by rw [show ((k + 1 : Nat) : Int) = (k : Int) + 1 by omega]; exact hb1⟩, ← hb2, hu, if_pos (by omega), Nat.sub_sub], rfl⟩
  have hl0 : l = 0 := by omega
  subst hl0
  refine q_aload_n dX6_tellerOfCell_94 rfl ?_
  refine q_getr dX6_tellerOfCell_95 fl_6_29 rfl rfl ?_
  refine q_iconst dX6_tellerOfCell_98 ?_
  refine q_iload_n dX6_tellerOfCell_99 rfl ?_
  refine q_S2 dX6_tellerOfCell_100 ml_6_72 md_X6_node (c_node (by omega)) rfl (by first | decide | omega) (Nat.le_of_ble_eq_true rfl) (Nat.le_of_ble_eq_true rfl) (qk_e ?_)
  refine q_V1 dX6_tellerOfCell_103 ml_6_75 md_X5_get (c_rget (o := 10) (r := 16) (n := 341) rfl rfl (by omega) (nd_in2 (l := 0) hL.2 (by omega) ⟨hb0, hb1⟩)) rfl rfl rfl (by first | decide | omega) (Nat.le_of_ble_eq_true rfl) (Nat.le_of_ble_eq_true rfl) (qk_e ?_)
  refine q_ireturn dX6_tellerOfCell_106 ?_
  exact ⟨by have := Tm_T hT hl ⟨hb0, hb1⟩; rw [tw_16, ← hb2]; exact congrArg (fun z => some (Value.int (zI z))) this, rfl⟩
end TT
theorem lay_at {c : Int → Int} {L : Nat} {N : Int → Int} (h : lay c L 0 N 0) : ∀ (d : Nat), d ≤ L → ∀ x, anc d x = 0 → sr c L 0 d x ≠ -1 → lay c (L - d) x N (sr c L 0 d x) := by
  intro d
  induction d with
  | zero => intro _ x hx _; rw [show x = 0 from hx]; exact h
  | succ d ih =>
    intro hd x hx hn
    obtain ⟨p, q, -, -⟩ := sr_up (by omega) hn (by omega)
    have h1 := ih (by omega) (x / 4) hx p
    rw [show L - d = (L - d - 1) + 1 by omega] at h1
    have h2 := h1.2 (x % 4).toNat (by omega) (by rw [show ((L - d - 1 : Nat) : Int) = (L : Int) - d - 1 by omega]; exact q)
    rw [sr_s, if_pos ⟨p, q⟩, show L - (d + 1) = L - d - 1 by omega]
    rw [show ((L - d - 1 : Nat) : Int) = (L : Int) - d - 1 by omega, show 4 * (x / 4) + ((x % 4).toNat : Int) = x by omega] at h2
    exact h2
def bputs (M : qM) (o r : Nat) : List Int → qM
  | [] => M
  | v :: t => bputs (bput M o r v) o r t
theorem bputs_app (o r : Nat) : ∀ (a b : List Int) (M : qM), bputs M o r (a ++ b) = bputs (bputs M o r a) o r b := by
  intro a
  induction a with
  | nil => intro b M; rfl
  | cons v t ih => intro b M; exact ih b _
theorem bputs_len {o r : Nat} : ∀ (a : List Int) (M : qM), bputs M o r a o 1 = M o 1 + a.length := by
  intro a
  induction a with
  | nil => intro M; simp [bputs]
  | cons v t ih => intro M; rw [bputs, ih, bput_len, List.length_cons]; omega
theorem tw_bput (M : qM) (K Y S C T N : Int → Int) (v : Int) : bput (tw M K Y S C T N) 31 32 v = tw (bput M 31 32 v) K Y S C T N := by
  unfold bput
  rw [tw_up, tw_up]
  rfl
noncomputable def sq (c : Int → Int) (sub : Int → List Int) (l b : Int) : Nat → List Int
  | 0 => []
  | i + 1 => sq c sub l b i ++ (if qcode c l b i = 2 then sub (4 * b + i) else [if qcode c l b i = 0 then 45 else if qcode c l b i = 1 then 43 else 61])
noncomputable def spl (c : Int → Int) : Nat → Int → List Int
  | 0, b => [hexV (c b / 16), hexV (c b % 16)]
  | l + 1, b => 40 :: (sq c (spl c l) l b 4 ++ [41])
def slen : Nat → Nat
  | 0 => 2
  | l + 1 => 2 + 4 * slen l
theorem sq_len {c : Int → Int} {sub : Int → List Int} {l b : Int} {m : Nat} (hs : ∀ x, 1 ≤ (sub x).length ∧ (sub x).length ≤ m) : ∀ i : Nat, (sq c sub l b i).length ≤ i * m := by
  intro i
  induction i with
  | zero => simp [sq]
  | succ i ih =>
    rw [sq, List.length_append, Nat.add_mul]
    have h1 := hs (4 * b + i)
    by_cases g : qcode c l b i = 2
    · rw [if_pos g]; omega
    · rw [if_neg g]; simp only [List.length_singleton]; omega
theorem spl_len (c : Int → Int) : ∀ (l : Nat) (b : Int), 1 ≤ (spl c l b).length ∧ (spl c l b).length ≤ slen l := by
  intro l
  induction l with
  | zero => intro b; simp [spl, slen]
  | succ l ih =>
    intro b
    have := sq_len (c := c) (l := l) (b := b) (ih ·) 4
    rw [spl, slen]
    simp only [List.length_cons, List.length_append, List.length_nil]
    omega
section TS
variable {L : Nat} {c : Int → Int} {K Y S C T N : Int → Int}
set_option maxHeartbeats 4000000 in
theorem c_spellBlock (hL : 1 ≤ L ∧ L ≤ 4) (hT : Tm c L K Y S C T N) (hcb : ∀ k, 0 ≤ k → k < p4 L → 0 ≤ c k ∧ c k < 256) : ∀ (l : Nat), l ≤ L → ∀ (b : Int) (M : qM), 0 ≤ b → b < p4 ((L : Int) - l) → sr c L 0 (L - l) b ≠ -1 → 0 ≤ M 31 1 ∧ M 31 1 + slen l ≤ 1023 → qCt mX6_spellBlock 0 (2 + l) [.ref 5, .ref 31, .int (zI (l : Int)), .int (zI b)] (tw M K Y S C T N) (qpv (tw (bputs M 31 32 (spl c l b)) K Y S C T N)) := by
  intro l
  induction l with
  | zero =>
    intro _ b M hb0 hb1 ht hm
    rw [show (L : Int) - ((0 : Nat) : Int) = L by omega] at hb1
    have hs := sr_in (c := c) hL.2 (Nat.le_refl L) (x := b) ⟨hb0, hb1⟩
    have ht2 : sr c L 0 L b ≠ -1 := ht
    have hs2 : 0 ≤ sr c L 0 L b ∧ sr c L 0 L b < 341 := by omega
    have hcc := hcb b hb0 hb1
    have hlay := lay_at hT.2.2.1 L (Nat.le_refl L) b ((anc_0 L hL.2 b).mpr ⟨hb0, hb1⟩) ht
    rw [show L - L = 0 by omega] at hlay
    rw [show slen 0 = 2 from rfl] at hm
    refine q_intro (own := 6) (L := [some (.ref 5), some (.ref 31), some (.int (zI ((0 : Nat) : Int))), some (.int (zI b)), none, none]) md_X6_spellBlock rfl rfl rfl (Nat.le_of_ble_eq_true rfl) (fun X => ?_)
    refine q_iload_n dX6_spellBlock_0 rfl ?_
    refine q_if_gt (tgt := 22) dX6_spellBlock_1 rfl (by (first | (unfold zR; omega) | (unfold zLR; omega) | omega | (simp only [zR, qup] at *; omega) | (simp [zR, qup]; omega) | (simp [zR, qup]; done))) (fun h1 => absurd h1 (by omega)) (fun h1 => ?_)
    refine q_aload_n dX6_spellBlock_4 rfl ?_
    refine q_aload_n dX6_spellBlock_5 rfl ?_
    refine q_getr dX6_spellBlock_6 fl_6_32 rfl rfl ?_
    refine q_aload_n dX6_spellBlock_9 rfl ?_
    refine q_iconst dX6_spellBlock_10 ?_
    refine q_iload_n dX6_spellBlock_11 rfl ?_
    refine q_V2 dX6_spellBlock_12 ml_6_113 md_X6_startOf (c_startOf (l := 0) hL hT (by omega) ⟨hb0, by rw [show (L : Int) - ((0 : Nat) : Int) = L by omega]; exact hb1⟩) rfl rfl rfl (by first | decide | omega) (Nat.le_of_ble_eq_true rfl) (Nat.le_of_ble_eq_true rfl) (qk_e ?_)
    rw [show L - 0 = L from rfl]
    refine q_V1 dX6_spellBlock_15 ml_6_75 md_X5_get (c_rget (o := 11) (r := 17) (n := 341) (i := sr c L 0 L b) rfl rfl (by omega) hs2) rfl rfl rfl (by first | decide | omega) (Nat.le_of_ble_eq_true rfl) (Nat.le_of_ble_eq_true rfl) (qk_e ?_)
    rw [tw_17, show N (sr c L 0 L b) = c b from hlay]
    refine q_V1 dX6_spellBlock_18 ml_6_116 md_X1_addHex (c_addHex (o := 31) (r := 32) (n := 1023) rfl rfl (by decide) (by omega) (by show 0 ≤ M 31 1 ∧ M 31 1 + 2 ≤ ((1023 : Nat) : Int); omega) hcc) rfl rfl rfl (by first | decide | omega) (Nat.le_of_ble_eq_true rfl) (Nat.le_of_ble_eq_true rfl) (qk_v ?_)
    refine q_return dX6_spellBlock_21 ?_
    exact ⟨rfl, by unfold bhex; rw [tw_bput, tw_bput]; rfl⟩
  | succ l ih =>
    intro hl b M hb0 hb1 ht hm
    rw [show ((l + 1 : Nat) : Int) = (l : Int) + 1 by omega] at hb1
    have hkid := fun (q : Nat) (hq : q < 4) => p4_kid (l := l) (L := L) (x := b) hl hL.2 ⟨hb0, hb1⟩ hq
    rw [show slen (l + 1) = 2 + 4 * slen l from rfl] at hm
    have hql : ∀ i : Nat, (sq c (spl c l) l b i).length ≤ i * slen l := sq_len (spl_len c l)
    have hlen : ∀ i : Nat, (bputs (bput M 31 32 40) 31 32 (sq c (spl c l) l b i)) 31 1 = M 31 1 + 1 + (sq c (spl c l) l b i).length := fun i => by rw [bputs_len, bput_len]
    refine q_intro (own := 6) (L := [some (.ref 5), some (.ref 31), some (.int (zI ((l + 1 : Nat) : Int))), some (.int (zI b)), none, none]) md_X6_spellBlock rfl rfl rfl (Nat.le_of_ble_eq_true rfl) (fun X => ?_)
    refine q_iload_n dX6_spellBlock_0 rfl ?_
    refine q_if_gt (tgt := 22) dX6_spellBlock_1 rfl (by (first | (unfold zR; omega) | (unfold zLR; omega) | omega | (simp only [zR, qup] at *; omega) | (simp [zR, qup]; omega) | (simp [zR, qup]; done))) (fun h1 => ?_) (fun h1 => absurd h1 (by omega))
    refine q_aload_n dX6_spellBlock_22 rfl ?_
    refine q_bipush dX6_spellBlock_23 rfl ?_
    refine q_V1 dX6_spellBlock_25 ml_6_121 md_X1_add (c_badd (o := 31) (r := 32) (n := 1023) rfl rfl (by decide) (by omega) (by show 0 ≤ M 31 1 ∧ M 31 1 < ((1023 : Nat) : Int); omega)) rfl rfl rfl (by first | decide | omega) (Nat.le_of_ble_eq_true rfl) (Nat.le_of_ble_eq_true rfl) (qk_v ?_)
    rw [tw_bput]
    refine q_iconst dX6_spellBlock_28 ?_
    refine q_iload_n dX6_spellBlock_29 rfl ?_
    refine q_imul dX6_spellBlock_30 ?_
    refine q_istore dX6_spellBlock_31 (Nat.le_of_ble_eq_true rfl) rfl ?_
    refine q_lp (fun i : Nat => 5 - i) (fun i => i ≤ 4) (fun i => [some (.ref 5), some (.ref 31), some (.int (zI ((l + 1 : Nat) : Int))), some (.int (zI b)), some (.int (zI (4 * b + (i : Int)))), none]) (fun i => tw (bputs (bput M 31 32 40) 31 32 (sq c (spl c l) l b i)) K Y S C T N) 0 (by rw [show 4 * b + ((0 : Nat) : Int) = 4 * b by omega]; rfl) rfl (by omega) (fun i hi ih2 => ?_)
    have hqi := hql i
    have hpb := p4_in ((L : Int) - ((l : Int) + 1))
    have hle := hlen i
    have hmul : i * slen l ≤ 4 * slen l := Nat.mul_le_mul_right _ hi
    have hs1 : 1 ≤ slen l := by cases l <;> simp [slen] <;> omega
    have hmul1 : i < 4 → i * slen l + slen l ≤ 4 * slen l := fun h => by have := Nat.mul_le_mul_right (slen l) (show i + 1 ≤ 4 by omega); rw [Nat.add_mul, Nat.one_mul] at this; exact this
    have hsq : sq c (spl c l) l b (i + 1) = sq c (spl c l) l b i ++ (if qcode c l b i = 2 then spl c l (4 * b + i) else [if qcode c l b i = 0 then 45 else if qcode c l b i = 1 then 43 else 61]) := rfl
    have hqc := qcode_in c l b i
    refine q_iload dX6_spellBlock_33 rfl ?_
    refine q_iconst dX6_spellBlock_35 ?_
    refine q_iload_n dX6_spellBlock_36 rfl ?_
    refine q_imul dX6_spellBlock_37 ?_
    refine q_iconst dX6_spellBlock_38 ?_
    refine q_iadd dX6_spellBlock_39 ?_
    refine q_icmp_ge (tgt := 112) dX6_spellBlock_40 rfl (by (first | (unfold zR; omega) | (unfold zLR; omega) | omega | (simp only [zR, qup] at *; omega) | (simp [zR, qup]; omega) | (simp [zR, qup]; done))) (by (first | (unfold zR; omega) | (unfold zLR; omega) | omega | (simp only [zR, qup] at *; omega) | (simp [zR, qup]; omega) | (simp [zR, qup]; done))) (fun h40 => ?_) (fun h40 => ?_)
    rotate_left
    ·
      refine q_aload_n dX6_spellBlock_43 rfl ?_
      refine q_getr dX6_spellBlock_44 fl_6_26 rfl rfl ?_
      refine q_iload_n dX6_spellBlock_47 rfl ?_
      refine q_iconst dX6_spellBlock_48 ?_
      refine q_isub dX6_spellBlock_49 ?_
      rw [show ((l + 1 : Nat) : Int) - 1 = l by omega]
      have hk := hkid i (by omega)
      have hm1 := hmul1 (by omega)
      refine q_iload dX6_spellBlock_50 rfl ?_
      refine q_S2 dX6_spellBlock_52 ml_6_72 md_X6_node (c_node (by omega)) rfl (by first | decide | omega) (Nat.le_of_ble_eq_true rfl) (Nat.le_of_ble_eq_true rfl) (qk_e ?_)
      refine q_V1 dX6_spellBlock_55 ml_6_75 md_X5_get (c_rget (o := 9) (r := 15) (n := 341) rfl rfl (by omega) (nd_in2 hL.2 (by omega) hk)) rfl rfl rfl (by first | decide | omega) (Nat.le_of_ble_eq_true rfl) (Nat.le_of_ble_eq_true rfl) (qk_e ?_)
      rw [tw_15, Tm_C hL.2 hT (by omega) hk, show (4 * b + (i : Int)) / 4 = b by omega, show ((4 * b + (i : Int)) % 4).toNat = i by omega]
      refine q_istore dX6_spellBlock_58 (Nat.le_of_ble_eq_true rfl) rfl ?_
      refine q_iload dX6_spellBlock_60 rfl ?_
      refine q_iconst dX6_spellBlock_62 ?_
      refine q_icmp_ne (tgt := 79) dX6_spellBlock_63 rfl (by (first | (unfold zR; omega) | (unfold zLR; omega) | omega | (simp only [zR, qup] at *; omega) | (simp [zR, qup]; omega) | (simp [zR, qup]; done))) (by (first | (unfold zR; omega) | (unfold zLR; omega) | omega | (simp only [zR, qup] at *; omega) | (simp [zR, qup]; omega) | (simp [zR, qup]; done))) (fun h63 => ?_) (fun h63 => ?_)
      ·
        refine q_aload_n dX6_spellBlock_79 rfl ?_
        refine q_iload dX6_spellBlock_80 rfl ?_
        refine q_if_ne (tgt := 90) dX6_spellBlock_82 rfl (by (first | (unfold zR; omega) | (unfold zLR; omega) | omega | (simp only [zR, qup] at *; omega) | (simp [zR, qup]; omega) | (simp [zR, qup]; done))) (fun h82 => ?_) (fun h82 => ?_)
        ·
          refine q_iload dX6_spellBlock_90 rfl ?_
          refine q_iconst dX6_spellBlock_92 ?_
          refine q_icmp_ne (tgt := 101) dX6_spellBlock_93 rfl (by (first | (unfold zR; omega) | (unfold zLR; omega) | omega | (simp only [zR, qup] at *; omega) | (simp [zR, qup]; omega) | (simp [zR, qup]; done))) (by (first | (unfold zR; omega) | (unfold zLR; omega) | omega | (simp only [zR, qup] at *; omega) | (simp [zR, qup]; omega) | (simp [zR, qup]; done))) (fun h93 => ?_) (fun h93 => ?_)
          ·
            refine q_bipush dX6_spellBlock_101 rfl ?_
            refine q_V1 dX6_spellBlock_103 ml_6_121 md_X1_add (c_badd (o := 31) (r := 32) (n := 1023) rfl rfl (by decide) (by omega) (by show 0 ≤ (bputs (bput M 31 32 40) 31 32 (sq c (spl c l) l b i)) 31 1 ∧ (bputs (bput M 31 32 40) 31 32 (sq c (spl c l) l b i)) 31 1 < ((1023 : Nat) : Int); omega)) rfl rfl rfl (by first | decide | omega) (Nat.le_of_ble_eq_true rfl) (Nat.le_of_ble_eq_true rfl) (qk_v ?_)
            rw [tw_bput]
            refine q_iinc dX6_spellBlock_106 rfl (Nat.le_of_ble_eq_true rfl) rfl ?_
            refine q_goto (tgt := 33) dX6_spellBlock_109 rfl ?_
            refine q_wk _ ?_ (ih2 (i + 1) _ _ (by omega) (by omega) rfl (by rw [hsq, if_neg h63, bputs_app, if_neg h82, if_neg h93]; rfl))
            rw [show 4 * b + (i : Int) + 1 = 4 * b + ((i + 1 : Nat) : Int) by omega]
            simp only [wkB]
            (repeat (first | exact rfl | exact trivial | refine ⟨rfl, ?_⟩))
          ·
            refine q_bipush dX6_spellBlock_96 rfl ?_
            refine q_goto (tgt := 103) dX6_spellBlock_98 rfl ?_
            refine q_V1 dX6_spellBlock_103 ml_6_121 md_X1_add (c_badd (o := 31) (r := 32) (n := 1023) rfl rfl (by decide) (by omega) (by show 0 ≤ (bputs (bput M 31 32 40) 31 32 (sq c (spl c l) l b i)) 31 1 ∧ (bputs (bput M 31 32 40) 31 32 (sq c (spl c l) l b i)) 31 1 < ((1023 : Nat) : Int); omega)) rfl rfl rfl (by first | decide | omega) (Nat.le_of_ble_eq_true rfl) (Nat.le_of_ble_eq_true rfl) (qk_v ?_)
            rw [tw_bput]
            refine q_iinc dX6_spellBlock_106 rfl (Nat.le_of_ble_eq_true rfl) rfl ?_
            refine q_goto (tgt := 33) dX6_spellBlock_109 rfl ?_
            refine q_wk _ ?_ (ih2 (i + 1) _ _ (by omega) (by omega) rfl (by rw [hsq, if_neg h63, bputs_app, if_neg h82, if_pos h93]; rfl))
            rw [show 4 * b + (i : Int) + 1 = 4 * b + ((i + 1 : Nat) : Int) by omega]
            simp only [wkB]
            (repeat (first | exact rfl | exact trivial | refine ⟨rfl, ?_⟩))
        ·
          refine q_bipush dX6_spellBlock_85 rfl ?_
          refine q_goto (tgt := 103) dX6_spellBlock_87 rfl ?_
          refine q_V1 dX6_spellBlock_103 ml_6_121 md_X1_add (c_badd (o := 31) (r := 32) (n := 1023) rfl rfl (by decide) (by omega) (by show 0 ≤ (bputs (bput M 31 32 40) 31 32 (sq c (spl c l) l b i)) 31 1 ∧ (bputs (bput M 31 32 40) 31 32 (sq c (spl c l) l b i)) 31 1 < ((1023 : Nat) : Int); omega)) rfl rfl rfl (by first | decide | omega) (Nat.le_of_ble_eq_true rfl) (Nat.le_of_ble_eq_true rfl) (qk_v ?_)
          rw [tw_bput]
          refine q_iinc dX6_spellBlock_106 rfl (Nat.le_of_ble_eq_true rfl) rfl ?_
          refine q_goto (tgt := 33) dX6_spellBlock_109 rfl ?_
          refine q_wk _ ?_ (ih2 (i + 1) _ _ (by omega) (by omega) rfl (by rw [hsq, if_neg h63, bputs_app, if_pos h82]; rfl))
          rw [show 4 * b + (i : Int) + 1 = 4 * b + ((i + 1 : Nat) : Int) by omega]
          simp only [wkB]
          (repeat (first | exact rfl | exact trivial | refine ⟨rfl, ?_⟩))
      ·
        refine q_aload_n dX6_spellBlock_66 rfl ?_
        refine q_aload_n dX6_spellBlock_67 rfl ?_
        refine q_iload_n dX6_spellBlock_68 rfl ?_
        refine q_iconst dX6_spellBlock_69 ?_
        refine q_isub dX6_spellBlock_70 ?_
        refine q_iload dX6_spellBlock_71 rfl ?_
        rw [show ((l + 1 : Nat) : Int) - 1 = l by omega]
        have htk : sr c L 0 (L - l) (4 * b + (i : Int)) ≠ -1 := by
          rw [show L - l = (L - (l + 1)) + 1 by omega, sr_s, show (4 * b + (i : Int)) / 4 = b by omega, show ((4 * b + (i : Int)) % 4).toNat = i by omega, show (L : Int) - ((L - (l + 1) : Nat) : Int) - 1 = l by omega, if_pos ⟨ht, h63⟩]; have := sr_nn (c := c) (l := L) (a := 0) (by omega) (L - (l + 1)) b; have := (tsum_in (c := c) (l := (l : Int)) (B := b) (tsz_in c (L - (L - (l + 1)) - 1)) i).1; omega
        refine q_S4 dX6_spellBlock_73 ml_6_109 md_X6_spellBlock (ih (by omega) (4 * b + (i : Int)) (bputs (bput M 31 32 40) 31 32 (sq c (spl c l) l b i)) hk.1 hk.2 htk (by omega)) rfl (by first | decide | omega) (Nat.le_of_ble_eq_true rfl) (Nat.le_of_ble_eq_true rfl) (qk_v ?_)
        refine q_goto (tgt := 106) dX6_spellBlock_76 rfl ?_
        rw [← bputs_app]
        refine q_iinc dX6_spellBlock_106 rfl (Nat.le_of_ble_eq_true rfl) rfl ?_
        refine q_goto (tgt := 33) dX6_spellBlock_109 rfl ?_
        refine q_wk _ ?_ (ih2 (i + 1) _ _ (by omega) (by omega) rfl (by rw [hsq, if_pos h63]))
        rw [show 4 * b + (i : Int) + 1 = 4 * b + ((i + 1 : Nat) : Int) by omega]
        simp only [wkB]
        (repeat (first | exact rfl | exact trivial | refine ⟨rfl, ?_⟩))
    refine q_aload_n dX6_spellBlock_112 rfl ?_
    refine q_bipush dX6_spellBlock_113 rfl ?_
    have hi4 : i = 4 := by omega
    subst hi4
    refine q_V1 dX6_spellBlock_115 ml_6_121 md_X1_add (c_badd (o := 31) (r := 32) (n := 1023) rfl rfl (by decide) (by omega) (by show 0 ≤ (bputs (bput M 31 32 40) 31 32 (sq c (spl c l) l b 4)) 31 1 ∧ (bputs (bput M 31 32 40) 31 32 (sq c (spl c l) l b 4)) 31 1 < ((1023 : Nat) : Int); omega)) rfl rfl rfl (by first | decide | omega) (Nat.le_of_ble_eq_true rfl) (Nat.le_of_ble_eq_true rfl) (qk_v ?_)
    refine q_return dX6_spellBlock_118 ?_
    exact ⟨rfl, by rw [tw_bput]; show tw (bputs (bputs (bput M 31 32 40) 31 32 (sq c (spl c l) l b 4)) 31 32 [41]) K Y S C T N = _; rw [← bputs_app]; rfl⟩
set_option maxHeartbeats 1000000 in
theorem c_spell {M : qM} (hL : 1 ≤ L ∧ L ≤ 4) (h8 : M 5 8 = (L : Int)) (hT : Tm c L K Y S C T N) (hcb : ∀ k, 0 ≤ k → k < p4 L → 0 ≤ c k ∧ c k < 256) (hm : M 31 1 = 0) : qCt mX6_spell 0 7 [.ref 5, .ref 31] (tw M K Y S C T N) (qpv (tw (bputs M 31 32 (spl c L 0)) K Y S C T N)) := by
  have hsl : slen L ≤ 682 := by
    have : L = 1 ∨ L = 2 ∨ L = 3 ∨ L = 4 := by omega
    rcases this with e | e | e | e <;> subst e <;> decide
  refine q_intro (own := 6) (L := [some (.ref 5), some (.ref 31)]) md_X6_spell rfl rfl rfl (Nat.le_of_ble_eq_true rfl) (fun X => ?_)
  refine q_aload_n dX6_spell_0 rfl ?_
  refine q_aload_n dX6_spell_1 rfl ?_
  refine q_aload_n dX6_spell_2 rfl ?_
  refine q_geti (j := 8) dX6_spell_3 fl_6_43 rfl rfl rfl ?_
  rw [tw_5, h8]
  refine q_iconst dX6_spell_6 ?_
  refine q_S4 dX6_spell_7 ml_6_109 md_X6_spellBlock (c_spellBlock hL hT hcb L (Nat.le_refl L) 0 M (by omega) (by rw [show (L : Int) - L = 0 by omega]; decide) (by rw [show L - L = 0 by omega, sr_0]; omega) (by omega)) rfl (by first | decide | omega) (Nat.le_of_ble_eq_true rfl) (Nat.le_of_ble_eq_true rfl) (qk_v ?_)
  refine q_return dX6_spell_10 ?_
  exact ⟨rfl, rfl⟩
end TS


/-! QuarterMaps$Tree: what is asked of a tree that is measured. -/
theorem Tm_T {c : Int → Int} {L l : Nat} {K Y S C T N : Int → Int} (h : Tm c L K Y S C T N) (hl : l ≤ L) {x : Int} (hx : 0 ≤ x ∧ x < p4 ((L : Int) - l)) : T (nd l x) = sr c L 0 (L - l) x := by
  have := h.2.1 (L - l) x (by omega) hx.1 (by rw [show ((L - l : Nat) : Int) = (L : Int) - l by omega]; exact hx.2)
  rw [show (L : Int) - ((L - l : Nat) : Int) = l by omega] at this
  exact this
theorem Tm_S {c : Int → Int} {L l : Nat} {K Y S C T N : Int → Int} (h : Tm c L K Y S C T N) (hl : l ≤ L) {x : Int} (hx : 0 ≤ x ∧ x < p4 ((L : Int) - l)) : S (nd l x) = tsz c l x := (h.1 l x ⟨hx.1, hl, hx.2, Or.inl (by omega)⟩).2.2.2.2.1
theorem Tm_C {c : Int → Int} {L l : Nat} {K Y S C T N : Int → Int} (hL : L ≤ 4) (h : Tm c L K Y S C T N) (hl : l < L) {x : Int} (hx : 0 ≤ x ∧ x < p4 ((L : Int) - l)) : C (nd l x) = qcode c l (x / 4) (x % 4).toNat := by
  have := Td_code (d := L - l - 1) (x := x) hL (by omega) ⟨hx.1, by rw [show ((L - l - 1 : Nat) : Int) + 1 = (L : Int) - l by omega]; exact hx.2⟩ h.1
  rw [show (L : Int) - ((L - l - 1 : Nat) : Int) - 1 = l by omega] at this
  exact this
theorem nd_in2 {L l : Nat} {x : Int} (hL : L ≤ 4) (hl : l ≤ L) (hx : 0 ≤ x ∧ x < p4 ((L : Int) - l)) : 0 ≤ nd l x ∧ nd l x < 341 := nd_in (by omega) ⟨hx.1, by have := p4_le (a := (L : Int) - l) (b := 4 - (l : Int)) (by omega); omega⟩
theorem sr_in2 {c : Int → Int} {L l : Nat} {x : Int} (hL : L ≤ 4) (hl : l ≤ L) (hx : 0 ≤ x ∧ x < p4 ((L : Int) - l)) : -1 ≤ sr c L 0 (L - l) x ∧ sr c L 0 (L - l) x < 341 := sr_in hL (by omega) ⟨hx.1, by rw [show ((L - l : Nat) : Int) = (L : Int) - l by omega]; exact hx.2⟩
/-- the code of a block by its depth -/
noncomputable def bcode (c : Int → Int) (L : Nat) : Nat → Int → Int
  | 0, _ => -1
  | d + 1, x => if sr c L 0 d (x / 4) ≠ -1 then qcode c ((L : Int) - d - 1) (x / 4) (x % 4).toNat else -1
theorem bcode_in (c : Int → Int) (L d : Nat) (x : Int) : -1 ≤ bcode c L d x ∧ bcode c L d x < 4 := by
  cases d with
  | zero => simp [bcode]
  | succ d =>
    have := qcode_in c ((L : Int) - d - 1) (x / 4) (x % 4).toNat
    rw [bcode]
    by_cases h : sr c L 0 d (x / 4) ≠ -1
    · rw [if_pos h]; omega
    · rw [if_neg h]; omega
section TQ
variable {L : Nat} {c : Int → Int} {M : qM} {K Y S C T N : Int → Int}
set_option maxHeartbeats 1000000 in
theorem c_tsize (hL : 1 ≤ L ∧ L ≤ 4) (h8 : M 5 8 = (L : Int)) (hT : Tm c L K Y S C T N) : qCt mX6_size 0 1 [.ref 5] (tw M K Y S C T N) (qpe (tsz c L 0) (tw M K Y S C T N)) := by
  have hx : (0 : Int) ≤ 0 ∧ (0 : Int) < p4 ((L : Int) - L) := ⟨by omega, by rw [show (L : Int) - L = 0 by omega]; decide⟩
  refine q_intro (own := 6) (L := [some (.ref 5)]) md_X6_size rfl rfl rfl (Nat.le_of_ble_eq_true rfl) (fun X => ?_)
  refine q_aload_n dX6_size_0 rfl ?_
  refine q_getr dX6_size_1 fl_6_23 rfl rfl ?_
  refine q_aload_n dX6_size_4 rfl ?_
  refine q_geti (j := 8) dX6_size_5 fl_6_43 rfl rfl rfl ?_
  refine q_iconst dX6_size_8 ?_
  rw [tw_5, h8]
  refine q_S2 dX6_size_9 ml_6_72 md_X6_node (c_node (by omega)) rfl (by first | decide | omega) (Nat.le_of_ble_eq_true rfl) (Nat.le_of_ble_eq_true rfl) (qk_e ?_)
  refine q_V1 dX6_size_12 ml_6_75 md_X5_get (c_rget (o := 8) (r := 14) (n := 341) rfl rfl (by omega) (nd_in2 hL.2 (Nat.le_refl L) hx)) rfl rfl rfl (by first | decide | omega) (Nat.le_of_ble_eq_true rfl) (Nat.le_of_ble_eq_true rfl) (qk_e ?_)
  refine q_ireturn dX6_size_15 ?_
  exact ⟨by rw [tw_14, Tm_S hT (Nat.le_refl L) hx], rfl⟩
set_option maxHeartbeats 1000000 in
theorem c_byteOf {i : Int} (hi : 0 ≤ i ∧ i < 341) : qCt mX6_byteOf 0 1 [.ref 5, .int (zI i)] (tw M K Y S C T N) (qpe (N i) (tw M K Y S C T N)) := by
  refine q_intro (own := 6) (L := [some (.ref 5), some (.int (zI i))]) md_X6_byteOf rfl rfl rfl (Nat.le_of_ble_eq_true rfl) (fun X => ?_)
  refine q_aload_n dX6_byteOf_0 rfl ?_
  refine q_getr dX6_byteOf_1 fl_6_32 rfl rfl ?_
  refine q_iload_n dX6_byteOf_4 rfl ?_
  refine q_V1 dX6_byteOf_5 ml_6_75 md_X5_get (c_rget (o := 11) (r := 17) (n := 341) rfl rfl (by omega) (by omega)) rfl rfl rfl (by first | decide | omega) (Nat.le_of_ble_eq_true rfl) (Nat.le_of_ble_eq_true rfl) (qk_e ?_)
  refine q_ireturn dX6_byteOf_8 ?_
  exact ⟨by rw [tw_17], rfl⟩
set_option maxHeartbeats 1000000 in
theorem c_told {l : Nat} {x : Int} (hL : 1 ≤ L ∧ L ≤ 4) (hT : Tm c L K Y S C T N) (hl : l ≤ L) (hx : 0 ≤ x ∧ x < p4 ((L : Int) - l)) : qCt mX6_isTold 0 1 [.ref 5, .int (zI (l : Int)), .int (zI x)] (tw M K Y S C T N) (qpe (zb (sr c L 0 (L - l) x ≠ -1)) (tw M K Y S C T N)) := by
  have h := c_isTold (l := (l : Int)) (b := x) (M := tw M K Y S C T N) (by omega) (nd_in2 hL.2 hl hx) (by rw [tw_16, Tm_T hT hl hx]; have := sr_in2 (c := c) hL.2 hl hx; unfold zR; omega)
  rw [tw_16, Tm_T hT hl hx] at h
  exact h
set_option maxHeartbeats 1000000 in
theorem c_startOf {l : Nat} {x : Int} (hL : 1 ≤ L ∧ L ≤ 4) (hT : Tm c L K Y S C T N) (hl : l ≤ L) (hx : 0 ≤ x ∧ x < p4 ((L : Int) - l)) : qCt mX6_startOf 0 1 [.ref 5, .int (zI (l : Int)), .int (zI x)] (tw M K Y S C T N) (qpe (sr c L 0 (L - l) x) (tw M K Y S C T N)) := by
  refine q_intro (own := 6) (L := [some (.ref 5), some (.int (zI (l : Int))), some (.int (zI x))]) md_X6_startOf rfl rfl rfl (Nat.le_of_ble_eq_true rfl) (fun X => ?_)
  refine q_aload_n dX6_startOf_0 rfl ?_
  refine q_getr dX6_startOf_1 fl_6_29 rfl rfl ?_
  refine q_iload_n dX6_startOf_4 rfl ?_
  refine q_iload_n dX6_startOf_5 rfl ?_
  refine q_S2 dX6_startOf_6 ml_6_72 md_X6_node (c_node (by omega)) rfl (by first | decide | omega) (Nat.le_of_ble_eq_true rfl) (Nat.le_of_ble_eq_true rfl) (qk_e ?_)
  refine q_V1 dX6_startOf_9 ml_6_75 md_X5_get (c_rget (o := 10) (r := 16) (n := 341) rfl rfl (by omega) (nd_in2 hL.2 hl hx)) rfl rfl rfl (by first | decide | omega) (Nat.le_of_ble_eq_true rfl) (Nat.le_of_ble_eq_true rfl) (qk_e ?_)
  refine q_ireturn dX6_startOf_12 ?_
  exact ⟨by rw [tw_16, Tm_T hT hl hx], rfl⟩
set_option maxHeartbeats 1000000 in
theorem c_sizeOf {l : Nat} {x : Int} (hL : 1 ≤ L ∧ L ≤ 4) (hT : Tm c L K Y S C T N) (hl : l ≤ L) (hx : 0 ≤ x ∧ x < p4 ((L : Int) - l)) : qCt mX6_sizeOf 0 1 [.ref 5, .int (zI (l : Int)), .int (zI x)] (tw M K Y S C T N) (qpe (tsz c l x) (tw M K Y S C T N)) := by
  refine q_intro (own := 6) (L := [some (.ref 5), some (.int (zI (l : Int))), some (.int (zI x))]) md_X6_sizeOf rfl rfl rfl (Nat.le_of_ble_eq_true rfl) (fun X => ?_)
  refine q_aload_n dX6_sizeOf_0 rfl ?_
  refine q_getr dX6_sizeOf_1 fl_6_23 rfl rfl ?_
  refine q_iload_n dX6_sizeOf_4 rfl ?_
  refine q_iload_n dX6_sizeOf_5 rfl ?_
  refine q_S2 dX6_sizeOf_6 ml_6_72 md_X6_node (c_node (by omega)) rfl (by first | decide | omega) (Nat.le_of_ble_eq_true rfl) (Nat.le_of_ble_eq_true rfl) (qk_e ?_)
  refine q_V1 dX6_sizeOf_9 ml_6_75 md_X5_get (c_rget (o := 8) (r := 14) (n := 341) rfl rfl (by omega) (nd_in2 hL.2 hl hx)) rfl rfl rfl (by first | decide | omega) (Nat.le_of_ble_eq_true rfl) (Nat.le_of_ble_eq_true rfl) (qk_e ?_)
  refine q_ireturn dX6_sizeOf_12 ?_
  exact ⟨by rw [tw_14, Tm_S hT hl hx], rfl⟩
theorem p4_par {L l : Nat} {x : Int} (hL : L ≤ 4) (hl : l < L) (hx : 0 ≤ x ∧ x < p4 ((L : Int) - l)) : 0 ≤ x / 4 ∧ x / 4 < p4 ((L : Int) - ((l + 1 : Nat) : Int)) := by
  have := p4_s (l := (L : Int) - ((l + 1 : Nat) : Int)) (by omega)
  rw [show (L : Int) - ((l + 1 : Nat) : Int) + 1 = L - l by omega] at this
  omega
set_option maxHeartbeats 1000000 in
theorem c_codeOf {l : Nat} {x : Int} (hL : 1 ≤ L ∧ L ≤ 4) (h8 : M 5 8 = (L : Int)) (hT : Tm c L K Y S C T N) (hl : l ≤ L) (hx : 0 ≤ x ∧ x < p4 ((L : Int) - l)) : qCt mX6_codeOf 0 2 [.ref 5, .int (zI (l : Int)), .int (zI x)] (tw M K Y S C T N) (qpe (bcode c L (L - l) x) (tw M K Y S C T N)) := by
  have hp := p4_in ((L : Int) - l)
  refine q_intro (own := 6) (L := [some (.ref 5), some (.int (zI (l : Int))), some (.int (zI x))]) md_X6_codeOf rfl rfl rfl (Nat.le_of_ble_eq_true rfl) (fun X => ?_)
  refine q_iload_n dX6_codeOf_0 rfl ?_
  refine q_aload_n dX6_codeOf_1 rfl ?_
  refine q_geti (j := 8) dX6_codeOf_2 fl_6_43 rfl rfl rfl ?_
  rw [tw_5, h8]
  refine q_icmp_ge (tgt := 36) dX6_codeOf_5 rfl (by (first | (unfold zR; omega) | (unfold zLR; omega) | omega | (simp only [zR, qup] at *; omega) | (simp [zR, qup]; omega) | (simp [zR, qup]; done))) (by (first | (unfold zR; omega) | (unfold zLR; omega) | omega | (simp only [zR, qup] at *; omega) | (simp [zR, qup]; omega) | (simp [zR, qup]; done))) (fun h5 => ?_) (fun h5 => ?_)
  ·
    refine q_iconst dX6_codeOf_36 ?_
    refine q_ireturn dX6_codeOf_37 ?_
    exact ⟨by rw [show L - l = 0 by omega]; rfl, rfl⟩
  ·
    refine q_aload_n dX6_codeOf_8 rfl ?_
    refine q_iload_n dX6_codeOf_9 rfl ?_
    refine q_iconst dX6_codeOf_10 ?_
    refine q_iadd dX6_codeOf_11 ?_
    refine q_iload_n dX6_codeOf_12 rfl ?_
    refine q_iconst dX6_codeOf_13 ?_
    refine q_ishr dX6_codeOf_14 ?_
    rw [zshr_2 (by omega) (by omega)]
    refine q_V2 dX6_codeOf_15 ml_6_88 md_X6_isTold (c_told (l := l + 1) hL hT (by omega) (p4_par hL.2 (by omega) hx)) rfl rfl rfl (by first | decide | omega) (Nat.le_of_ble_eq_true rfl) (Nat.le_of_ble_eq_true rfl) (qk_e ?_)
    refine q_if_eq (tgt := 36) dX6_codeOf_18 rfl (by have := zb_01 (sr c L 0 (L - (l + 1)) (x / 4) ≠ -1); unfold zR; omega) (fun h18 => ?_) (fun h18 => ?_)
    ·
      refine q_iconst dX6_codeOf_36 ?_
      refine q_ireturn dX6_codeOf_37 ?_
      exact ⟨by rw [show L - l = (L - (l + 1)) + 1 by omega, bcode, if_neg (fun q => by rw [zb_t q] at h18; omega)], rfl⟩
    ·
      refine q_aload_n dX6_codeOf_21 rfl ?_
      refine q_getr dX6_codeOf_22 fl_6_26 rfl rfl ?_
      refine q_iload_n dX6_codeOf_25 rfl ?_
      refine q_iload_n dX6_codeOf_26 rfl ?_
      refine q_S2 dX6_codeOf_27 ml_6_72 md_X6_node (c_node (by omega)) rfl (by first | decide | omega) (Nat.le_of_ble_eq_true rfl) (Nat.le_of_ble_eq_true rfl) (qk_e ?_)
      refine q_V1 dX6_codeOf_30 ml_6_75 md_X5_get (c_rget (o := 9) (r := 15) (n := 341) rfl rfl (by omega) (nd_in2 hL.2 hl hx)) rfl rfl rfl (by first | decide | omega) (Nat.le_of_ble_eq_true rfl) (Nat.le_of_ble_eq_true rfl) (qk_e ?_)
      refine q_goto (tgt := 37) dX6_codeOf_33 rfl ?_
      refine q_ireturn dX6_codeOf_37 ?_
      exact ⟨by rw [tw_15, Tm_C hL.2 hT (by omega) hx, show L - l = (L - (l + 1)) + 1 by omega, bcode, if_pos (zb_1.mp (by have := zb_01 (sr c L 0 (L - (l + 1)) (x / 4) ≠ -1); omega)), show (L : Int) - ((L - (l + 1) : Nat) : Int) - 1 = l by omega], rfl⟩
set_option maxHeartbeats 1000000 in
theorem c_toldCells (hL : 1 ≤ L ∧ L ≤ 4) (h8 : M 5 8 = (L : Int)) (hT : Tm c L K Y S C T N) : qCt mX6_toldCells 0 2 [.ref 5] (tw M K Y S C T N) (qpe (zsum (fun x => zb (sr c L 0 L x ≠ -1)) 0 (p4 L).toNat) (tw M K Y S C T N)) := by
  have hp := p4_in (L : Int)
  refine q_intro (own := 6) (L := [some (.ref 5), none, none]) md_X6_toldCells rfl rfl rfl (Nat.le_of_ble_eq_true rfl) (fun X => ?_)
  refine q_iconst dX6_toldCells_0 ?_
  refine q_istore_n dX6_toldCells_1 (Nat.le_of_ble_eq_true rfl) rfl ?_
  refine q_iconst dX6_toldCells_2 ?_
  refine q_istore_n dX6_toldCells_3 (Nat.le_of_ble_eq_true rfl) rfl ?_
  refine q_lp (fun i : Int => (p4 L - i).toNat) (fun i => 0 ≤ i ∧ i ≤ p4 L) (fun i => [some (.ref 5), some (.int (zI (zsum (fun x => zb (sr c L 0 L x ≠ -1)) 0 i.toNat))), some (.int (zI i))]) (fun _ => tw M K Y S C T N) 0 rfl rfl ⟨by omega, by omega⟩ (fun i hi ih => ?_)
  have hs : zsum (fun x => zb (sr c L 0 L x ≠ -1)) 0 (i + 1).toNat = zsum (fun x => zb (sr c L 0 L x ≠ -1)) 0 i.toNat + zb (sr c L 0 L i ≠ -1) := by rw [show (i + 1).toNat = i.toNat + 1 by omega, zsum, show (0 : Int) + (i.toNat : Int) = i by omega]
  have h01 := zb_01 (sr c L 0 L i ≠ -1)
  refine q_iload_n dX6_toldCells_4 rfl ?_
  refine q_aload_n dX6_toldCells_5 rfl ?_
  refine q_geti (j := 8) dX6_toldCells_6 fl_6_43 rfl rfl rfl ?_
  rw [tw_5, h8]
  refine q_N1 dX6_toldCells_9 (by decide +kernel) md_X7_cellsIn (c_cellsIn (by omega)) rfl (by first | decide | omega) (Nat.le_of_ble_eq_true rfl) (Nat.le_of_ble_eq_true rfl) (qk_e ?_)
  refine q_icmp_ge (tgt := 33) dX6_toldCells_12 rfl (by (first | (unfold zR; omega) | (unfold zLR; omega) | omega | (simp only [zR, qup] at *; omega) | (simp [zR, qup]; omega) | (simp [zR, qup]; done))) (by (first | (unfold zR; omega) | (unfold zLR; omega) | omega | (simp only [zR, qup] at *; omega) | (simp [zR, qup]; omega) | (simp [zR, qup]; done))) (fun h12 => ?_) (fun h12 => ?_)
  rotate_left
  ·
    refine q_aload_n dX6_toldCells_15 rfl ?_
    refine q_iconst dX6_toldCells_16 ?_
    refine q_iload_n dX6_toldCells_17 rfl ?_
    refine q_V2 dX6_toldCells_18 ml_6_88 md_X6_isTold (c_told (l := 0) hL hT (by omega) (by rw [show (L : Int) - ((0 : Nat) : Int) = L by omega]; exact ⟨hi.1, h12⟩)) rfl rfl rfl (by first | decide | omega) (Nat.le_of_ble_eq_true rfl) (Nat.le_of_ble_eq_true rfl) (qk_e ?_)
    rw [show L - 0 = L from rfl]
    refine q_if_eq (tgt := 27) dX6_toldCells_21 rfl (by (first | (unfold zR; omega) | (unfold zLR; omega) | omega | (simp only [zR, qup] at *; omega) | (simp [zR, qup]; omega) | (simp [zR, qup]; done))) (fun h21 => ?_) (fun h21 => ?_)
    ·
      refine q_iinc dX6_toldCells_27 rfl (Nat.le_of_ble_eq_true rfl) rfl ?_
      refine q_goto (tgt := 4) dX6_toldCells_30 rfl ?_
      exact ih (i + 1) _ _ ⟨by omega, by omega⟩ (by omega) (by rw [hs, h21, Int.add_zero]; rfl) rfl
    ·
      refine q_iinc dX6_toldCells_24 rfl (Nat.le_of_ble_eq_true rfl) rfl ?_
      refine q_iinc dX6_toldCells_27 rfl (Nat.le_of_ble_eq_true rfl) rfl ?_
      refine q_goto (tgt := 4) dX6_toldCells_30 rfl ?_
      exact ih (i + 1) _ _ ⟨by omega, by omega⟩ (by omega) (by rw [hs, show zb (sr c L 0 L i ≠ -1) = 1 by omega]; rfl) rfl
  refine q_iload_n dX6_toldCells_33 rfl ?_
  refine q_ireturn dX6_toldCells_34 ?_
  exact ⟨by rw [show i = p4 L by omega], rfl⟩
/-- how many blocks of a level have the code -/
noncomputable def ccnt (c : Int → Int) (L : Nat) (v l : Int) (n : Nat) : Int := zsum (fun x => zb (bcode c L ((L : Int) - l).toNat x = v)) 0 n
theorem ccnt_in (c : Int → Int) (L : Nat) (v l : Int) (n : Nat) : 0 ≤ ccnt c L v l n ∧ ccnt c L v l n ≤ n * 1 := zsum_in (fun i _ _ => by have := zb_01 (bcode c L ((L : Int) - l).toNat i = v); omega)
noncomputable def cwith (c : Int → Int) (L : Nat) (v : Int) (n : Nat) : Int := zsum (fun l => ccnt c L v l (p4 ((L : Int) - l)).toNat) 0 n
set_option maxHeartbeats 2000000 in
theorem c_toldWithCode {v : Int} (hL : 1 ≤ L ∧ L ≤ 4) (h8 : M 5 8 = (L : Int)) (hT : Tm c L K Y S C T N) (hv : zR v) : qCt mX6_toldWithCode 0 3 [.ref 5, .int (zI v)] (tw M K Y S C T N) (qpe (cwith c L v L) (tw M K Y S C T N)) := by
  refine q_intro (own := 6) (L := [some (.ref 5), some (.int (zI v)), none, none, none]) md_X6_toldWithCode rfl rfl rfl (Nat.le_of_ble_eq_true rfl) (fun X => ?_)
  refine q_iconst dX6_toldWithCode_0 ?_
  refine q_istore_n dX6_toldWithCode_1 (Nat.le_of_ble_eq_true rfl) rfl ?_
  refine q_iconst dX6_toldWithCode_2 ?_
  refine q_istore_n dX6_toldWithCode_3 (Nat.le_of_ble_eq_true rfl) rfl ?_
  refine q_lp (fun l : Nat => L + 1 - l) (fun l => l ≤ L) (fun l => [some (.ref 5), some (.int (zI v)), some (.int (zI (cwith c L v l))), some (.int (zI (l : Int))), none]) (fun _ => tw M K Y S C T N) 0 rfl rfl (by omega) (fun l hl ih => ?_)
  refine q_iload_n dX6_toldWithCode_4 rfl ?_
  refine q_aload_n dX6_toldWithCode_5 rfl ?_
  refine q_geti (j := 8) dX6_toldWithCode_6 fl_6_43 rfl rfl rfl ?_
  rw [tw_5, h8]
  refine q_icmp_ge (tgt := 54) dX6_toldWithCode_9 rfl (by (first | (unfold zR; omega) | (unfold zLR; omega) | omega | (simp only [zR, qup] at *; omega) | (simp [zR, qup]; omega) | (simp [zR, qup]; done))) (by (first | (unfold zR; omega) | (unfold zLR; omega) | omega | (simp only [zR, qup] at *; omega) | (simp [zR, qup]; omega) | (simp [zR, qup]; done))) (fun h9 => ?_) (fun h9 => ?_)
  rotate_left
  ·
    refine q_iconst dX6_toldWithCode_12 ?_
    refine q_istore dX6_toldWithCode_13 (Nat.le_of_ble_eq_true rfl) rfl ?_
    refine q_lp (fun b : Int => (p4 ((L : Int) - l) - b).toNat) (fun b => 0 ≤ b ∧ b ≤ p4 ((L : Int) - l)) (fun b => [some (.ref 5), some (.int (zI v)), some (.int (zI (cwith c L v l + ccnt c L v l b.toNat))), some (.int (zI (l : Int))), some (.int (zI b))]) (fun _ => tw M K Y S C T N) 0 (by simp only [ccnt, zsum, Int.toNat_zero, Int.add_zero]; rfl) rfl ⟨by omega, by have := (p4_in ((L : Int) - l)).1; omega⟩ (fun b hb ih2 => ?_)
    have hp := p4_in ((L : Int) - l)
    have hs : ccnt c L v l (b + 1).toNat = ccnt c L v l b.toNat + zb (bcode c L ((L : Int) - l).toNat b = v) := by unfold ccnt; rw [show (b + 1).toNat = b.toNat + 1 by omega, zsum, show (0 : Int) + (b.toNat : Int) = b by omega]
    have hb2 := bcode_in c L (L - l) b
    refine q_iload dX6_toldWithCode_15 rfl ?_
    refine q_iload_n dX6_toldWithCode_17 rfl ?_
    refine q_aload_n dX6_toldWithCode_18 rfl ?_
    refine q_geti (j := 8) dX6_toldWithCode_19 fl_6_43 rfl rfl rfl ?_
    rw [tw_5, h8]
    refine q_N2 dX6_toldWithCode_22 (by decide +kernel) md_X7_blocksAt (c_blocksAt (by omega)) rfl (by first | decide | omega) (Nat.le_of_ble_eq_true rfl) (Nat.le_of_ble_eq_true rfl) (qk_e ?_)
    refine q_icmp_ge (tgt := 48) dX6_toldWithCode_25 rfl (by (first | (unfold zR; omega) | (unfold zLR; omega) | omega | (simp only [zR, qup] at *; omega) | (simp [zR, qup]; omega) | (simp [zR, qup]; done))) (by (first | (unfold zR; omega) | (unfold zLR; omega) | omega | (simp only [zR, qup] at *; omega) | (simp [zR, qup]; omega) | (simp [zR, qup]; done))) (fun h25 => ?_) (fun h25 => ?_)
    rotate_left
    ·
      refine q_aload_n dX6_toldWithCode_28 rfl ?_
      refine q_iload_n dX6_toldWithCode_29 rfl ?_
      refine q_iload dX6_toldWithCode_30 rfl ?_
      refine q_V2 dX6_toldWithCode_32 ml_6_95 md_X6_codeOf (c_codeOf (l := l) hL h8 hT (by omega) ⟨hb.1, h25⟩) rfl rfl rfl (by first | decide | omega) (Nat.le_of_ble_eq_true rfl) (Nat.le_of_ble_eq_true rfl) (qk_e ?_)
      refine q_iload_n dX6_toldWithCode_35 rfl ?_
      refine q_icmp_ne (tgt := 42) dX6_toldWithCode_36 rfl (by (first | (unfold zR; omega) | (unfold zLR; omega) | omega | (simp only [zR, qup] at *; omega) | (simp [zR, qup]; omega) | (simp [zR, qup]; done))) (by exact hv) (fun h36 => ?_) (fun h36 => ?_)
      ·
        refine q_iinc dX6_toldWithCode_42 rfl (Nat.le_of_ble_eq_true rfl) rfl ?_
        refine q_goto (tgt := 15) dX6_toldWithCode_45 rfl ?_
        exact ih2 (b + 1) _ _ ⟨by omega, by omega⟩ (by omega) (by rw [hs, show ((L : Int) - l).toNat = L - l by omega, zb_f h36, Int.add_zero]; rfl) rfl
      ·
        refine q_iinc dX6_toldWithCode_39 rfl (Nat.le_of_ble_eq_true rfl) rfl ?_
        refine q_iinc dX6_toldWithCode_42 rfl (Nat.le_of_ble_eq_true rfl) rfl ?_
        refine q_goto (tgt := 15) dX6_toldWithCode_45 rfl ?_
        exact ih2 (b + 1) _ _ ⟨by omega, by omega⟩ (by omega) (by rw [hs, show ((L : Int) - l).toNat = L - l by omega, zb_t h36, ← Int.add_assoc]; rfl) rfl
    refine q_iinc dX6_toldWithCode_48 rfl (Nat.le_of_ble_eq_true rfl) rfl ?_
    refine q_goto (tgt := 4) dX6_toldWithCode_51 rfl ?_
    have e1 : cwith c L v (l + 1) = cwith c L v l + ccnt c L v l b.toNat := by show zsum _ _ _ = _; rw [zsum, Int.zero_add, show b = p4 ((L : Int) - l) by omega]; rfl
    refine q_wk _ ?_ (ih (l + 1) _ _ (by omega) (by omega) rfl rfl)
    simp only [wkB, e1]
    (repeat (first | exact rfl | exact trivial | refine ⟨rfl, ?_⟩))
  refine q_iload_n dX6_toldWithCode_54 rfl ?_
  refine q_ireturn dX6_toldWithCode_55 ?_
  exact ⟨by rw [show l = L by omega], rfl⟩
set_option maxHeartbeats 1000000 in
theorem c_lowestTold (hL : 1 ≤ L ∧ L ≤ 4) (h8 : M 5 8 = (L : Int)) (hT : Tm c L K Y S C T N) : qCt mX6_lowestTold 0 2 [.ref 5] (tw M K Y S C T N) (qpg (fun z M' => M' = tw M K Y S C T N ∧ ∃ l : Nat, z = (l : Int) ∧ l ≤ L ∧ (∃ x, 0 ≤ x ∧ x < p4 ((L : Int) - l) ∧ sr c L 0 (L - l) x ≠ -1) ∧ ∀ k : Nat, k < l → ∀ x, 0 ≤ x → x < p4 ((L : Int) - k) → sr c L 0 (L - k) x = -1)) := by
  refine q_intro (own := 6) (L := [some (.ref 5), none, none]) md_X6_lowestTold rfl rfl rfl (Nat.le_of_ble_eq_true rfl) (fun X => ?_)
  refine q_iconst dX6_lowestTold_0 ?_
  refine q_istore_n dX6_lowestTold_1 (Nat.le_of_ble_eq_true rfl) rfl ?_
  refine q_lp (fun l : Nat => L + 1 - l) (fun l => l ≤ L ∧ ∀ k : Nat, k < l → ∀ x, 0 ≤ x → x < p4 ((L : Int) - k) → sr c L 0 (L - k) x = -1) (fun l => [some (.ref 5), some (.int (zI (l : Int))), none]) (fun _ => tw M K Y S C T N) 0 rfl rfl ⟨by omega, fun k hk => by omega⟩ (fun l hl ih => ?_)
  obtain ⟨hl1, hl2⟩ := hl
  refine q_iload_n dX6_lowestTold_2 rfl ?_
  refine q_aload_n dX6_lowestTold_3 rfl ?_
  refine q_geti (j := 8) dX6_lowestTold_4 fl_6_43 rfl rfl rfl ?_
  rw [tw_5, h8]
  refine q_icmp_ge (tgt := 47) dX6_lowestTold_7 rfl (by (first | (unfold zR; omega) | (unfold zLR; omega) | omega | (simp only [zR, qup] at *; omega) | (simp [zR, qup]; omega) | (simp [zR, qup]; done))) (by (first | (unfold zR; omega) | (unfold zLR; omega) | omega | (simp only [zR, qup] at *; omega) | (simp [zR, qup]; omega) | (simp [zR, qup]; done))) (fun h7 => ?_) (fun h7 => ?_)
  rotate_left
  ·
    refine q_iconst dX6_lowestTold_10 ?_
    refine q_istore_n dX6_lowestTold_11 (Nat.le_of_ble_eq_true rfl) rfl ?_
    refine q_lp (fun b : Int => (p4 ((L : Int) - l) - b).toNat) (fun b => 0 ≤ b ∧ b ≤ p4 ((L : Int) - l) ∧ ∀ x, 0 ≤ x → x < b → sr c L 0 (L - l) x = -1) (fun b => [some (.ref 5), some (.int (zI (l : Int))), some (.int (zI b))]) (fun _ => tw M K Y S C T N) 0 rfl rfl ⟨by omega, by have := (p4_in ((L : Int) - l)).1; omega, fun x h0 h1 => by omega⟩ (fun b hb ih2 => ?_)
    obtain ⟨hb0, hb1, hb2⟩ := hb
    have hp := p4_in ((L : Int) - l)
    have h01 := zb_01 (sr c L 0 (L - l) b ≠ -1)
    refine q_iload_n dX6_lowestTold_12 rfl ?_
    refine q_iload_n dX6_lowestTold_13 rfl ?_
    refine q_aload_n dX6_lowestTold_14 rfl ?_
    refine q_geti (j := 8) dX6_lowestTold_15 fl_6_43 rfl rfl rfl ?_
    rw [tw_5, h8]
    refine q_N2 dX6_lowestTold_18 (by decide +kernel) md_X7_blocksAt (c_blocksAt (by omega)) rfl (by first | decide | omega) (Nat.le_of_ble_eq_true rfl) (Nat.le_of_ble_eq_true rfl) (qk_e ?_)
    refine q_icmp_ge (tgt := 41) dX6_lowestTold_21 rfl (by (first | (unfold zR; omega) | (unfold zLR; omega) | omega | (simp only [zR, qup] at *; omega) | (simp [zR, qup]; omega) | (simp [zR, qup]; done))) (by (first | (unfold zR; omega) | (unfold zLR; omega) | omega | (simp only [zR, qup] at *; omega) | (simp [zR, qup]; omega) | (simp [zR, qup]; done))) (fun h21 => ?_) (fun h21 => ?_)
    rotate_left
    ·
      refine q_aload_n dX6_lowestTold_24 rfl ?_
      refine q_iload_n dX6_lowestTold_25 rfl ?_
      refine q_iload_n dX6_lowestTold_26 rfl ?_
      refine q_V2 dX6_lowestTold_27 ml_6_88 md_X6_isTold (c_told (l := l) hL hT (by omega) ⟨hb0, h21⟩) rfl rfl rfl (by first | decide | omega) (Nat.le_of_ble_eq_true rfl) (Nat.le_of_ble_eq_true rfl) (qk_e ?_)
      refine q_if_eq (tgt := 35) dX6_lowestTold_30 rfl (by (first | (unfold zR; omega) | (unfold zLR; omega) | omega | (simp only [zR, qup] at *; omega) | (simp [zR, qup]; omega) | (simp [zR, qup]; done))) (fun h30 => ?_) (fun h30 => ?_)
      ·
        refine q_iinc dX6_lowestTold_35 rfl (Nat.le_of_ble_eq_true rfl) rfl ?_
        refine q_goto (tgt := 12) dX6_lowestTold_38 rfl ?_
        exact ih2 (b + 1) _ _ ⟨by omega, by omega, fun x h0 h1 => by
          by_cases e : x = b
          · rw [e]; exact Classical.byContradiction fun q => by rw [zb_t q] at h30; omega
          · exact hb2 x h0 (by omega)⟩ (by omega) rfl rfl
      ·
        refine q_iload_n dX6_lowestTold_33 rfl ?_
        refine q_ireturn dX6_lowestTold_34 ?_
        exact ⟨_, rfl, rfl, l, rfl, by omega, ⟨b, hb0, h21, zb_1.mp (by omega)⟩, hl2⟩
    refine q_iinc dX6_lowestTold_41 rfl (Nat.le_of_ble_eq_true rfl) rfl ?_
    refine q_goto (tgt := 2) dX6_lowestTold_44 rfl ?_
    refine q_wk _ ?_ (ih (l + 1) _ _ ⟨by omega, fun k hk x h0 h1 => by
      by_cases e : k = l
      · subst e; exact hb2 x h0 (by omega)
      · exact hl2 k (by omega) x h0 h1⟩ (by omega) rfl rfl)
    simp only [wkB]
    (repeat (first | exact rfl | exact trivial | refine ⟨rfl, ?_⟩))
  refine q_aload_n dX6_lowestTold_47 rfl ?_
  refine q_geti (j := 8) dX6_lowestTold_48 fl_6_43 rfl rfl rfl ?_
  rw [tw_5, h8]
  refine q_ireturn dX6_lowestTold_51 ?_
  exact ⟨_, rfl, rfl, L, rfl, by omega, ⟨0, by omega, by rw [show (L : Int) - L = 0 by omega]; decide, by rw [show L - L = 0 by omega, sr_0]; omega⟩, fun k hk => hl2 k (by omega)⟩
/-- the greatest block that is left out with a code: by the depth from 1 on, by its number -/
def bigP (c : Int → Int) (L : Nat) (v z : Int) : Prop := (z = -1 ∧ ∀ (d : Nat) (x : Int), 1 ≤ d → d ≤ L → 0 ≤ x → x < p4 d → bcode c L d x ≠ v) ∨ ∃ (d : Nat) (b : Int), 1 ≤ d ∧ d ≤ L ∧ 0 ≤ b ∧ b < p4 d ∧ bcode c L d b = v ∧ z = b * p4 ((L : Int) - d) ∧ (∀ x, 0 ≤ x → x < b → bcode c L d x ≠ v) ∧ ∀ (k : Nat) (x : Int), 1 ≤ k → k < d → 0 ≤ x → x < p4 k → bcode c L k x ≠ v
set_option maxHeartbeats 1000000 in
theorem c_firstCellOfBiggest {v : Int} (hL : 1 ≤ L ∧ L ≤ 4) (hlv : M 5 8 = (L : Int)) (hT : Tm c L K Y S C T N) (hv : zR v) : qCt mX6_firstCellOfBiggest 0 3 [.ref 5, .int (zI v)] (tw M K Y S C T N) (qpg (fun z M' => M' = tw M K Y S C T N ∧ bigP c L v z)) := by
  refine q_intro (own := 6) (L := [some (.ref 5), some (.int (zI v)), none, none]) md_X6_firstCellOfBiggest rfl rfl rfl (Nat.le_of_ble_eq_true rfl) (fun X => ?_)
  refine q_aload_n dX6_firstCellOfBiggest_0 rfl ?_
  refine q_geti (j := 8) dX6_firstCellOfBiggest_1 fl_6_43 rfl rfl rfl ?_
  refine q_iconst dX6_firstCellOfBiggest_4 ?_
  rw [tw_5, hlv]
  refine q_isub dX6_firstCellOfBiggest_5 ?_
  refine q_istore_n dX6_firstCellOfBiggest_6 (Nat.le_of_ble_eq_true rfl) rfl ?_
  refine q_lp (fun d : Nat => L + 1 - d) (fun d => 1 ≤ d ∧ d ≤ L + 1 ∧ ∀ (k : Nat) (x : Int), 1 ≤ k → k < d → 0 ≤ x → x < p4 k → bcode c L k x ≠ v) (fun d => [some (.ref 5), some (.int (zI v)), some (.int (zI ((L : Int) - d))), none]) (fun _ => tw M K Y S C T N) 1 rfl rfl ⟨by omega, by omega, fun k x h0 h1 => by omega⟩ (fun d hd ih => ?_)
  obtain ⟨hd0, hd1, hd2⟩ := hd
  refine q_iload_n dX6_firstCellOfBiggest_7 rfl ?_
  refine q_if_lt (tgt := 54) dX6_firstCellOfBiggest_8 rfl (by (first | (unfold zR; omega) | (unfold zLR; omega) | omega | (simp only [zR, qup] at *; omega) | (simp [zR, qup]; omega) | (simp [zR, qup]; done))) (fun h8 => ?_) (fun h8 => ?_)
  rotate_left
  ·
    refine q_iconst dX6_firstCellOfBiggest_11 ?_
    refine q_istore_n dX6_firstCellOfBiggest_12 (Nat.le_of_ble_eq_true rfl) rfl ?_
    refine q_lp (fun b : Int => (p4 d - b).toNat) (fun b => 0 ≤ b ∧ b ≤ p4 d ∧ ∀ x, 0 ≤ x → x < b → bcode c L d x ≠ v) (fun b => [some (.ref 5), some (.int (zI v)), some (.int (zI ((L : Int) - d))), some (.int (zI b))]) (fun _ => tw M K Y S C T N) 0 rfl rfl ⟨by omega, by have := (p4_in d).1; omega, fun x h0 h1 => by omega⟩ (fun b hb ih2 => ?_)
    obtain ⟨hb0, hb1, hb2⟩ := hb
    have hp := p4_in d
    have hbc := bcode_in c L d b
    obtain ⟨l, hl⟩ : ∃ l : Nat, l + d = L := ⟨L - d, by omega⟩
    refine q_iload_n dX6_firstCellOfBiggest_13 rfl ?_
    refine q_iload_n dX6_firstCellOfBiggest_14 rfl ?_
    refine q_aload_n dX6_firstCellOfBiggest_15 rfl ?_
    refine q_geti (j := 8) dX6_firstCellOfBiggest_16 fl_6_43 rfl rfl rfl ?_
    rw [tw_5, hlv]
    refine q_N2 dX6_firstCellOfBiggest_19 (by decide +kernel) md_X7_blocksAt (c_blocksAt (by omega)) rfl (by first | decide | omega) (Nat.le_of_ble_eq_true rfl) (Nat.le_of_ble_eq_true rfl) (qk_e ?_)
    rw [show (L : Int) - ((L : Int) - d) = d by omega]
    refine q_icmp_ge (tgt := 48) dX6_firstCellOfBiggest_22 rfl (by (first | (unfold zR; omega) | (unfold zLR; omega) | omega | (simp only [zR, qup] at *; omega) | (simp [zR, qup]; omega) | (simp [zR, qup]; done))) (by (first | (unfold zR; omega) | (unfold zLR; omega) | omega | (simp only [zR, qup] at *; omega) | (simp [zR, qup]; omega) | (simp [zR, qup]; done))) (fun h22 => ?_) (fun h22 => ?_)
    rotate_left
    ·
      refine q_aload_n dX6_firstCellOfBiggest_25 rfl ?_
      refine q_iload_n dX6_firstCellOfBiggest_26 rfl ?_
      refine q_iload_n dX6_firstCellOfBiggest_27 rfl ?_
      rw [show (L : Int) - d = (l : Int) by omega]
      refine q_V2 dX6_firstCellOfBiggest_28 ml_6_95 md_X6_codeOf (c_codeOf (l := l) hL hlv hT (by omega) ⟨hb0, by rw [show (L : Int) - l = d by omega]; exact h22⟩) rfl rfl rfl (by first | decide | omega) (Nat.le_of_ble_eq_true rfl) (Nat.le_of_ble_eq_true rfl) (qk_e ?_)
      rw [show L - l = d by omega]
      refine q_iload_n dX6_firstCellOfBiggest_31 rfl ?_
      refine q_icmp_ne (tgt := 42) dX6_firstCellOfBiggest_32 rfl (by (first | (unfold zR; omega) | (unfold zLR; omega) | omega | (simp only [zR, qup] at *; omega) | (simp [zR, qup]; omega) | (simp [zR, qup]; done))) (by exact hv) (fun h32 => ?_) (fun h32 => ?_)
      ·
        refine q_iinc dX6_firstCellOfBiggest_42 rfl (Nat.le_of_ble_eq_true rfl) rfl ?_
        refine q_goto (tgt := 13) dX6_firstCellOfBiggest_45 rfl ?_
        exact ih2 (b + 1) _ _ ⟨by omega, by omega, fun x h0 h1 => by
          by_cases e : x = b
          · rw [e]; exact h32
          · exact hb2 x h0 (by omega)⟩ (by omega) (by rw [show (L : Int) - d = (l : Int) by omega]; rfl) rfl
      ·
        refine q_iload_n dX6_firstCellOfBiggest_35 rfl ?_
        refine q_iload_n dX6_firstCellOfBiggest_36 rfl ?_
        refine q_N1 dX6_firstCellOfBiggest_37 (by decide +kernel) md_X7_cellsIn (c_cellsIn (by omega)) rfl (by first | decide | omega) (Nat.le_of_ble_eq_true rfl) (Nat.le_of_ble_eq_true rfl) (qk_e ?_)
        refine q_imul dX6_firstCellOfBiggest_40 ?_
        refine q_ireturn dX6_firstCellOfBiggest_41 ?_
        exact ⟨_, rfl, rfl, Or.inr ⟨d, b, hd0, by omega, hb0, h22, h32, by rw [show (L : Int) - d = l by omega], hb2, hd2⟩⟩
    refine q_iinc dX6_firstCellOfBiggest_48 rfl (Nat.le_of_ble_eq_true rfl) rfl ?_
    refine q_goto (tgt := 7) dX6_firstCellOfBiggest_51 rfl ?_
    refine q_wk _ ?_ (ih (d + 1) _ _ ⟨by omega, by omega, fun k x k0 k1 h0 h1 => by
      by_cases e : k = d
      · subst e; exact hb2 x h0 (by omega)
      · exact hd2 k x k0 (by omega) h0 h1⟩ (by omega) rfl rfl)
    have e1 : (L : Int) - d + -1 = (L : Int) - ((d + 1 : Nat) : Int) := by omega
    rw [e1]
    simp only [wkB]
    (repeat (first | exact rfl | exact trivial | refine ⟨rfl, ?_⟩))
  refine q_iconst dX6_firstCellOfBiggest_54 ?_
  refine q_ireturn dX6_firstCellOfBiggest_55 ?_
  exact ⟨_, rfl, rfl, Or.inl ⟨rfl, fun k x k0 k1 h0 h1 => hd2 k x k0 (by omega) h0 h1⟩⟩
end TQ


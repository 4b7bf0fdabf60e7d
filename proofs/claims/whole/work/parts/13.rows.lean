/-! QuarterMaps$Row and $Bytes, for any of their objects; the little functions of the class. -/
set_option maxHeartbeats 1000000 in
theorem c_rget {o r n : Nat} {i : Int} {M : qM} (ho : qLay[o]? = some (.inl (5, [some r]))) (hr : qLay[r]? = some (.inr (n, false))) (hn : n < 2147483648) (hi : 0 ≤ i ∧ i < n) : qCt mX5_get 0 0 [.ref o, .int (zI i)] M (qpe (M r i) M) := by
  refine q_intro (own := 5) (L := [some (.ref o), some (.int (zI i))]) md_X5_get rfl rfl rfl (Nat.le_of_ble_eq_true rfl) (fun X => ?_)
  refine q_iload_n dX5_get_0 rfl ?_
  refine q_if_lt (tgt := 22) dX5_get_1 rfl (by (first | (unfold zR; omega) | (unfold zLR; omega) | omega | (simp only [zR, qup] at *; omega) | (simp [zR, qup]; omega) | (simp [zR, qup]; done))) (fun h1 => absurd h1 (by omega)) (fun h1 => ?_)
  refine q_iload_n dX5_get_4 rfl ?_
  refine q_aload_n dX5_get_5 rfl ?_
  refine q_getr dX5_get_6 fl_5_7 ho rfl ?_
  refine q_alen dX5_get_9 hr ?_
  refine q_icmp_ge (tgt := 22) dX5_get_10 rfl (by (first | (unfold zR; omega) | (unfold zLR; omega) | omega | (simp only [zR, qup] at *; omega) | (simp [zR, qup]; omega) | (simp [zR, qup]; done))) (by (first | (unfold zR; omega) | (unfold zLR; omega) | omega | (simp only [zR, qup] at *; omega) | (simp [zR, qup]; omega) | (simp [zR, qup]; done))) (fun h10 => absurd h10 (by omega)) (fun h10 => ?_)
  refine q_aload_n dX5_get_13 rfl ?_
  refine q_getr dX5_get_14 fl_5_7 ho rfl ?_
  refine q_iload_n dX5_get_17 rfl ?_
  refine q_iald dX5_get_18 hr (by (first | (unfold zR; omega) | (unfold zLR; omega) | omega | (simp only [zR, qup] at *; omega) | (simp [zR, qup]; omega) | (simp [zR, qup]; done))) hn ?_
  refine q_goto (tgt := 23) dX5_get_19 rfl ?_
  refine q_ireturn dX5_get_23 ?_
  exact ⟨rfl, rfl⟩
set_option maxHeartbeats 1000000 in
theorem c_rset {o r n : Nat} {i v : Int} {M : qM} (ho : qLay[o]? = some (.inl (5, [some r]))) (hr : qLay[r]? = some (.inr (n, false))) (hn : n < 2147483648) (hi : 0 ≤ i ∧ i < n) : qCt mX5_set 0 0 [.ref o, .int (zI i), .int (zI v)] M (qpv (qup M r i v)) := by
  refine q_intro (own := 5) (L := [some (.ref o), some (.int (zI i)), some (.int (zI v))]) md_X5_set rfl rfl rfl (Nat.le_of_ble_eq_true rfl) (fun X => ?_)
  refine q_iload_n dX5_set_0 rfl ?_
  refine q_if_lt (tgt := 20) dX5_set_1 rfl (by (first | (unfold zR; omega) | (unfold zLR; omega) | omega | (simp only [zR, qup] at *; omega) | (simp [zR, qup]; omega) | (simp [zR, qup]; done))) (fun h1 => absurd h1 (by omega)) (fun h1 => ?_)
  refine q_iload_n dX5_set_4 rfl ?_
  refine q_aload_n dX5_set_5 rfl ?_
  refine q_getr dX5_set_6 fl_5_7 ho rfl ?_
  refine q_alen dX5_set_9 hr ?_
  refine q_icmp_ge (tgt := 20) dX5_set_10 rfl (by (first | (unfold zR; omega) | (unfold zLR; omega) | omega | (simp only [zR, qup] at *; omega) | (simp [zR, qup]; omega) | (simp [zR, qup]; done))) (by (first | (unfold zR; omega) | (unfold zLR; omega) | omega | (simp only [zR, qup] at *; omega) | (simp [zR, qup]; omega) | (simp [zR, qup]; done))) (fun h10 => absurd h10 (by omega)) (fun h10 => ?_)
  refine q_aload_n dX5_set_13 rfl ?_
  refine q_getr dX5_set_14 fl_5_7 ho rfl ?_
  refine q_iload_n dX5_set_17 rfl ?_
  refine q_iload_n dX5_set_18 rfl ?_
  refine q_iast dX5_set_19 hr (by (first | (unfold zR; omega) | (unfold zLR; omega) | omega | (simp only [zR, qup] at *; omega) | (simp [zR, qup]; omega) | (simp [zR, qup]; done))) hn ?_
  refine q_return dX5_set_20 ?_
  exact ⟨rfl, rfl⟩
set_option maxHeartbeats 1000000 in
theorem c_rsetAll {o r n : Nat} {v : Int} {M : qM} (ho : qLay[o]? = some (.inl (5, [some r]))) (hr : qLay[r]? = some (.inr (n, false))) (hn : n < 2147483648) : qCt mX5_setAll 0 0 [.ref o, .int (zI v)] M (qpv (qset M r 0 n v)) := by
  refine q_intro (own := 5) (L := [some (.ref o), some (.int (zI v)), none]) md_X5_setAll rfl rfl rfl (Nat.le_of_ble_eq_true rfl) (fun X => ?_)
  refine q_iconst dX5_setAll_0 ?_
  refine q_istore_n dX5_setAll_1 (Nat.le_of_ble_eq_true rfl) rfl ?_
  refine q_lp (fun i : Int => (n - i).toNat) (fun i => 0 ≤ i ∧ i ≤ n) (fun i => [some (.ref o), some (.int (zI v)), some (.int (zI i))]) (fun i => qset M r 0 i v) 0 rfl (qset_0 M r (by omega)).symm ⟨by omega, by omega⟩ (fun i hi ih => ?_)
  refine q_iload_n dX5_setAll_2 rfl ?_
  refine q_aload_n dX5_setAll_3 rfl ?_
  refine q_getr dX5_setAll_4 fl_5_7 ho rfl ?_
  refine q_alen dX5_setAll_7 hr ?_
  refine q_icmp_ge (tgt := 24) dX5_setAll_8 rfl (by (first | (unfold zR; omega) | (unfold zLR; omega) | omega | (simp only [zR, qup] at *; omega) | (simp [zR, qup]; omega) | (simp [zR, qup]; done))) (by (first | (unfold zR; omega) | (unfold zLR; omega) | omega | (simp only [zR, qup] at *; omega) | (simp [zR, qup]; omega) | (simp [zR, qup]; done))) (fun h8 => ?_) (fun h8 => ?_)
  ·
    refine q_return dX5_setAll_24 ?_
    exact ⟨rfl, by show qset M r 0 i v = _; rw [show i = n by omega]⟩
  ·
    refine q_aload_n dX5_setAll_11 rfl ?_
    refine q_getr dX5_setAll_12 fl_5_7 ho rfl ?_
    refine q_iload_n dX5_setAll_15 rfl ?_
    refine q_iload_n dX5_setAll_16 rfl ?_
    refine q_iast dX5_setAll_17 hr (by (first | (unfold zR; omega) | (unfold zLR; omega) | omega | (simp only [zR, qup] at *; omega) | (simp [zR, qup]; omega) | (simp [zR, qup]; done))) hn ?_
    refine q_iinc dX5_setAll_18 rfl (Nat.le_of_ble_eq_true rfl) rfl ?_
    refine q_goto (tgt := 2) dX5_setAll_21 rfl ?_
    exact ih (i + 1) _ _ ⟨by omega, by omega⟩ (by omega) rfl (by rw [qset_up M r (by omega) (by omega)])
/-- a byte that is held; 0 beyond -/
def bgetV (M : qM) (o r : Nat) (i : Int) : Int := if 0 ≤ i ∧ i < M o 1 then M r i else 0
set_option maxHeartbeats 1000000 in
theorem c_bget {o r n : Nat} {i : Int} {M : qM} (ho : qLay[o]? = some (.inl (1, [some r, none]))) (hr : qLay[r]? = some (.inr (n, false))) (hn : n < 2147483648) (hl : 0 ≤ M o 1 ∧ M o 1 ≤ n) (hi : zR i) : qCt mX1_get 0 0 [.ref o, .int (zI i)] M (qpe (bgetV M o r i) M) := by
  have h1 := hi.1
  have h2 := hi.2
  refine q_intro (own := 1) (L := [some (.ref o), some (.int (zI i))]) md_X1_get rfl rfl rfl (Nat.le_of_ble_eq_true rfl) (fun X => ?_)
  refine q_iload_n dX1_get_0 rfl ?_
  refine q_if_lt (tgt := 30) dX1_get_1 rfl (by (first | (unfold zR; omega) | (unfold zLR; omega) | omega | (simp only [zR, qup] at *; omega) | (simp [zR, qup]; omega) | (simp [zR, qup]; done))) (fun h1 => ?_) (fun h1 => ?_)
  ·
    refine q_iconst dX1_get_30 ?_
    refine q_ireturn dX1_get_31 ?_
    exact ⟨by unfold bgetV; rw [if_neg (by omega)], rfl⟩
  ·
    refine q_iload_n dX1_get_4 rfl ?_
    refine q_aload_n dX1_get_5 rfl ?_
    refine q_geti (j := 1) dX1_get_6 fl_1_13 ho rfl rfl ?_
    refine q_icmp_ge (tgt := 30) dX1_get_9 rfl (by (first | (unfold zR; omega) | (unfold zLR; omega) | omega | (simp only [zR, qup] at *; omega) | (simp [zR, qup]; omega) | (simp [zR, qup]; done))) (by (first | (unfold zR; omega) | (unfold zLR; omega) | omega | (simp only [zR, qup] at *; omega) | (simp [zR, qup]; omega) | (simp [zR, qup]; done))) (fun h9 => ?_) (fun h9 => ?_)
    ·
      refine q_iconst dX1_get_30 ?_
      refine q_ireturn dX1_get_31 ?_
      exact ⟨by unfold bgetV; rw [if_neg (by omega)], rfl⟩
    ·
      refine q_iload_n dX1_get_12 rfl ?_
      refine q_aload_n dX1_get_13 rfl ?_
      refine q_getr dX1_get_14 fl_1_7 ho rfl ?_
      refine q_alen dX1_get_17 hr ?_
      refine q_icmp_ge (tgt := 30) dX1_get_18 rfl (by (first | (unfold zR; omega) | (unfold zLR; omega) | omega | (simp only [zR, qup] at *; omega) | (simp [zR, qup]; omega) | (simp [zR, qup]; done))) (by (first | (unfold zR; omega) | (unfold zLR; omega) | omega | (simp only [zR, qup] at *; omega) | (simp [zR, qup]; omega) | (simp [zR, qup]; done))) (fun h18 => absurd h18 (by omega)) (fun h18 => ?_)
      refine q_aload_n dX1_get_21 rfl ?_
      refine q_getr dX1_get_22 fl_1_7 ho rfl ?_
      refine q_iload_n dX1_get_25 rfl ?_
      refine q_iald dX1_get_26 hr (by (first | (unfold zR; omega) | (unfold zLR; omega) | omega | (simp only [zR, qup] at *; omega) | (simp [zR, qup]; omega) | (simp [zR, qup]; done))) hn ?_
      refine q_goto (tgt := 31) dX1_get_27 rfl ?_
      refine q_ireturn dX1_get_31 ?_
      exact ⟨by unfold bgetV; rw [if_pos (by omega)], rfl⟩
/-- one byte more -/
def bput (M : qM) (o r : Nat) (v : Int) : qM := qup (qup M r (M o 1) v) o 1 (M o 1 + 1)
set_option maxHeartbeats 1000000 in
theorem c_badd {o r n : Nat} {v : Int} {M : qM} (ho : qLay[o]? = some (.inl (1, [some r, none]))) (hr : qLay[r]? = some (.inr (n, false))) (hor : o ≠ r) (hn : n < 2147483648) (hl : 0 ≤ M o 1 ∧ M o 1 < n) : qCt mX1_add 0 0 [.ref o, .int (zI v)] M (qpv (bput M o r v)) := by
  refine q_intro (own := 1) (L := [some (.ref o), some (.int (zI v))]) md_X1_add rfl rfl rfl (Nat.le_of_ble_eq_true rfl) (fun X => ?_)
  refine q_aload_n dX1_add_0 rfl ?_
  refine q_geti (j := 1) dX1_add_1 fl_1_13 ho rfl rfl ?_
  refine q_if_lt (tgt := 39) dX1_add_4 rfl (by (first | (unfold zR; omega) | (unfold zLR; omega) | omega | (simp only [zR, qup] at *; omega) | (simp [zR, qup]; omega) | (simp [zR, qup]; done))) (fun h4 => absurd h4 (by omega)) (fun h4 => ?_)
  refine q_aload_n dX1_add_7 rfl ?_
  refine q_geti (j := 1) dX1_add_8 fl_1_13 ho rfl rfl ?_
  refine q_aload_n dX1_add_11 rfl ?_
  refine q_getr dX1_add_12 fl_1_7 ho rfl ?_
  refine q_alen dX1_add_15 hr ?_
  refine q_icmp_ge (tgt := 39) dX1_add_16 rfl (by (first | (unfold zR; omega) | (unfold zLR; omega) | omega | (simp only [zR, qup] at *; omega) | (simp [zR, qup]; omega) | (simp [zR, qup]; done))) (by (first | (unfold zR; omega) | (unfold zLR; omega) | omega | (simp only [zR, qup] at *; omega) | (simp [zR, qup]; omega) | (simp [zR, qup]; done))) (fun h16 => absurd h16 (by omega)) (fun h16 => ?_)
  refine q_aload_n dX1_add_19 rfl ?_
  refine q_getr dX1_add_20 fl_1_7 ho rfl ?_
  refine q_aload_n dX1_add_23 rfl ?_
  refine q_geti (j := 1) dX1_add_24 fl_1_13 ho rfl rfl ?_
  refine q_iload_n dX1_add_27 rfl ?_
  refine q_iast dX1_add_28 hr (by (first | (unfold zR; omega) | (unfold zLR; omega) | omega | (simp only [zR, qup] at *; omega) | (simp [zR, qup]; omega) | (simp [zR, qup]; done))) hn ?_
  refine q_aload_n dX1_add_29 rfl ?_
  refine q_dup dX1_add_30 rfl ?_
  refine q_geti (j := 1) dX1_add_31 fl_1_13 ho rfl rfl ?_
  rw [qup_o M _ _ _ hor]
  refine q_iconst dX1_add_34 ?_
  refine q_iadd dX1_add_35 ?_
  refine q_puti (j := 1) dX1_add_36 fl_1_13 ho rfl rfl rfl rfl ?_
  refine q_return dX1_add_39 ?_
  exact ⟨rfl, rfl⟩
set_option maxHeartbeats 1000000 in
theorem c_blength {o r : Nat} {M : qM} (ho : qLay[o]? = some (.inl (1, [some r, none]))) : qCt mX1_length 0 0 [.ref o] M (qpe (M o 1) M) := by
  refine q_intro (own := 1) (L := [some (.ref o)]) md_X1_length rfl rfl rfl (Nat.le_of_ble_eq_true rfl) (fun X => ?_)
  refine q_aload_n dX1_length_0 rfl ?_
  refine q_geti (j := 1) dX1_length_1 fl_1_13 ho rfl rfl ?_
  refine q_ireturn dX1_length_4 ?_
  exact ⟨rfl, rfl⟩
set_option maxHeartbeats 1000000 in
theorem c_bclear {o r : Nat} {M : qM} (ho : qLay[o]? = some (.inl (1, [some r, none]))) : qCt mX1_clear 0 0 [.ref o] M (qpv (qup M o 1 0)) := by
  refine q_intro (own := 1) (L := [some (.ref o)]) md_X1_clear rfl rfl rfl (Nat.le_of_ble_eq_true rfl) (fun X => ?_)
  refine q_aload_n dX1_clear_0 rfl ?_
  refine q_iconst dX1_clear_1 ?_
  refine q_puti (j := 1) dX1_clear_2 fl_1_13 ho rfl rfl rfl rfl ?_
  refine q_return dX1_clear_5 ?_
  exact ⟨rfl, rfl⟩
set_option maxHeartbeats 1000000 in
theorem c_hasRoom {o r n : Nat} {k : Int} {M : qM} (ho : qLay[o]? = some (.inl (1, [some r, none]))) (hr : qLay[r]? = some (.inr (n, false))) (hn : n < 1000000) (hl : 0 ≤ M o 1 ∧ M o 1 ≤ n) (hk : 0 ≤ k ∧ k < 1000) : qCt mX1_hasRoom 0 0 [.ref o, .int (zI k)] M (qpe (zb (M o 1 + k ≤ n)) M) := by
  refine q_intro (own := 1) (L := [some (.ref o), some (.int (zI k))]) md_X1_hasRoom rfl rfl rfl (Nat.le_of_ble_eq_true rfl) (fun X => ?_)
  refine q_aload_n dX1_hasRoom_0 rfl ?_
  refine q_geti (j := 1) dX1_hasRoom_1 fl_1_13 ho rfl rfl ?_
  refine q_iload_n dX1_hasRoom_4 rfl ?_
  refine q_iadd dX1_hasRoom_5 ?_
  refine q_aload_n dX1_hasRoom_6 rfl ?_
  refine q_getr dX1_hasRoom_7 fl_1_7 ho rfl ?_
  refine q_alen dX1_hasRoom_10 hr ?_
  refine q_icmp_gt (tgt := 18) dX1_hasRoom_11 rfl (by (first | (unfold zR; omega) | (unfold zLR; omega) | omega | (simp only [zR, qup] at *; omega) | (simp [zR, qup]; omega) | (simp [zR, qup]; done))) (by (first | (unfold zR; omega) | (unfold zLR; omega) | omega | (simp only [zR, qup] at *; omega) | (simp [zR, qup]; omega) | (simp [zR, qup]; done))) (fun h11 => ?_) (fun h11 => ?_)
  ·
    refine q_iconst dX1_hasRoom_18 ?_
    refine q_zreturn (by first | exact Or.inl rfl | exact Or.inr rfl) dX1_hasRoom_19 ?_
    exact ⟨by rw [zb_f (by omega)], rfl⟩
  ·
    refine q_iconst dX1_hasRoom_14 ?_
    refine q_goto (tgt := 19) dX1_hasRoom_15 rfl ?_
    refine q_zreturn (by first | exact Or.inl rfl | exact Or.inr rfl) dX1_hasRoom_19 ?_
    exact ⟨by rw [zb_t h11], rfl⟩
def hexV (v : Int) : Int := if v < 10 then 48 + v else 97 + v - 10
set_option maxHeartbeats 1000000 in
theorem c_digit {v : Int} {M : qM} (hv : 0 ≤ v ∧ v < 16) : qCt mX1_digit 0 0 [.int (zI v)] M (qpe (hexV v) M) := by
  refine q_intro (own := 1) (L := [some (.int (zI v))]) md_X1_digit rfl rfl rfl (Nat.le_of_ble_eq_true rfl) (fun X => ?_)
  refine q_iload_n dX1_digit_0 rfl ?_
  refine q_bipush dX1_digit_1 rfl ?_
  refine q_icmp_ge (tgt := 13) dX1_digit_3 rfl (by (first | (unfold zR; omega) | (unfold zLR; omega) | omega | (simp only [zR, qup] at *; omega) | (simp [zR, qup]; omega) | (simp [zR, qup]; done))) (by (first | (unfold zR; omega) | (unfold zLR; omega) | omega | (simp only [zR, qup] at *; omega) | (simp [zR, qup]; omega) | (simp [zR, qup]; done))) (fun h3 => ?_) (fun h3 => ?_)
  ·
    refine q_bipush dX1_digit_13 rfl ?_
    refine q_iload_n dX1_digit_15 rfl ?_
    refine q_iadd dX1_digit_16 ?_
    refine q_bipush dX1_digit_17 rfl ?_
    refine q_isub dX1_digit_19 ?_
    refine q_ireturn dX1_digit_20 ?_
    exact ⟨by unfold hexV; rw [if_neg (by omega)], rfl⟩
  ·
    refine q_bipush dX1_digit_6 rfl ?_
    refine q_iload_n dX1_digit_8 rfl ?_
    refine q_iadd dX1_digit_9 ?_
    refine q_goto (tgt := 20) dX1_digit_10 rfl ?_
    refine q_ireturn dX1_digit_20 ?_
    exact ⟨by unfold hexV; rw [if_pos h3], rfl⟩
def bhex (M : qM) (o r : Nat) (v : Int) : qM := bput (bput M o r (hexV (v / 16))) o r (hexV (v % 16))
theorem bput_len {M : qM} {o r : Nat} {v : Int} : bput M o r v o 1 = M o 1 + 1 := by simp [bput, qup]
set_option maxHeartbeats 1000000 in
theorem c_addHex {o r n : Nat} {v : Int} {M : qM} (ho : qLay[o]? = some (.inl (1, [some r, none]))) (hr : qLay[r]? = some (.inr (n, false))) (hor : o ≠ r) (hn : n < 2147483648) (hl : 0 ≤ M o 1 ∧ M o 1 + 2 ≤ n) (hv : 0 ≤ v ∧ v < 256) : qCt mX1_addHex 0 1 [.ref o, .int (zI v)] M (qpv (bhex M o r v)) := by
  have e1 : zand (zshr v 4) 15 = v / 16 := by
    have a1 : zshr v 4 = v / 16 := zshr_c 4 (by omega) (by omega) (by decide)
    rw [a1]
    have a2 : zand (v / 16) 15 = v / 16 % 16 := zand_m 4 (by omega) (by omega)
    rw [a2]; omega
  have e2 : zand v 15 = v % 16 := zand_m 4 (by omega) (by omega)
  refine q_intro (own := 1) (L := [some (.ref o), some (.int (zI v))]) md_X1_addHex rfl rfl rfl (Nat.le_of_ble_eq_true rfl) (fun X => ?_)
  refine q_aload_n dX1_addHex_0 rfl ?_
  refine q_iload_n dX1_addHex_1 rfl ?_
  refine q_iconst dX1_addHex_2 ?_
  refine q_ishr dX1_addHex_3 ?_
  refine q_bipush dX1_addHex_4 rfl ?_
  refine q_iand dX1_addHex_6 ?_
  rw [e1]
  refine q_S1 dX1_addHex_7 ml_1_21 md_X1_digit (c_digit (by omega)) rfl (by first | decide | omega) (Nat.le_of_ble_eq_true rfl) (Nat.le_of_ble_eq_true rfl) (qk_e ?_)
  refine q_V1 dX1_addHex_10 ml_1_17 md_X1_add (c_badd ho hr hor hn (by omega)) ho rfl rfl (by first | decide | omega) (Nat.le_of_ble_eq_true rfl) (Nat.le_of_ble_eq_true rfl) (qk_v ?_)
  refine q_aload_n dX1_addHex_13 rfl ?_
  refine q_iload_n dX1_addHex_14 rfl ?_
  refine q_bipush dX1_addHex_15 rfl ?_
  refine q_iand dX1_addHex_17 ?_
  rw [e2]
  refine q_S1 dX1_addHex_18 ml_1_21 md_X1_digit (c_digit (by omega)) rfl (by first | decide | omega) (Nat.le_of_ble_eq_true rfl) (Nat.le_of_ble_eq_true rfl) (qk_e ?_)
  refine q_V1 dX1_addHex_21 ml_1_17 md_X1_add (c_badd ho hr hor hn (by rw [bput_len]; omega)) ho rfl rfl (by first | decide | omega) (Nat.le_of_ble_eq_true rfl) (Nat.le_of_ble_eq_true rfl) (qk_v ?_)
  refine q_return dX1_addHex_24 ?_
  exact ⟨rfl, rfl⟩
def bword (M : qM) (o r : Nat) (w : Int) : Nat → qM
  | 0 => M
  | j + 1 => bput (bword M o r w j) o r (zand (zshr w (24 - 8 * j)) 255)
theorem bword_len {M : qM} {o r : Nat} {w : Int} : ∀ j, bword M o r w j o 1 = M o 1 + j := by
  intro j
  induction j with
  | zero => simp [bword]
  | succ j ih => rw [bword, bput_len, ih]; omega
set_option maxHeartbeats 1000000 in
theorem c_addWord {o r n : Nat} {w : Int} {M : qM} (ho : qLay[o]? = some (.inl (1, [some r, none]))) (hr : qLay[r]? = some (.inr (n, false))) (hor : o ≠ r) (hn : n < 2147483648) (hl : 0 ≤ M o 1 ∧ M o 1 + 4 ≤ n) : qCt mX1_addWord 0 1 [.ref o, .int (zI w)] M (qpv (bword M o r w 4)) := by
  refine q_intro (own := 1) (L := [some (.ref o), some (.int (zI w)), none]) md_X1_addWord rfl rfl rfl (Nat.le_of_ble_eq_true rfl) (fun X => ?_)
  refine q_bipush dX1_addWord_0 rfl ?_
  refine q_istore_n dX1_addWord_2 (Nat.le_of_ble_eq_true rfl) rfl ?_
  refine q_lp (fun j : Nat => 5 - j) (fun j => j ≤ 4) (fun j => [some (.ref o), some (.int (zI w)), some (.int (zI (24 - 8 * j)))]) (fun j => bword M o r w j) 0 rfl rfl (by omega) (fun j hj ih => ?_)
  refine q_iload_n dX1_addWord_3 rfl ?_
  refine q_if_lt (tgt := 24) dX1_addWord_4 rfl (by (first | (unfold zR; omega) | (unfold zLR; omega) | omega | (simp only [zR, qup] at *; omega) | (simp [zR, qup]; omega) | (simp [zR, qup]; done))) (fun h4 => ?_) (fun h4 => ?_)
  ·
    refine q_return dX1_addWord_24 ?_
    exact ⟨rfl, by rw [show j = 4 by omega]⟩
  ·
    refine q_aload_n dX1_addWord_7 rfl ?_
    refine q_iload_n dX1_addWord_8 rfl ?_
    refine q_iload_n dX1_addWord_9 rfl ?_
    refine q_ishr dX1_addWord_10 ?_
    refine q_sipush dX1_addWord_11 rfl ?_
    refine q_iand dX1_addWord_14 ?_
    refine q_V1 dX1_addWord_15 ml_1_17 md_X1_add (c_badd ho hr hor hn (by rw [bword_len]; omega)) ho rfl rfl (by first | decide | omega) (Nat.le_of_ble_eq_true rfl) (Nat.le_of_ble_eq_true rfl) (qk_v ?_)
    refine q_iinc dX1_addWord_18 rfl (Nat.le_of_ble_eq_true rfl) rfl ?_
    refine q_goto (tgt := 3) dX1_addWord_21 rfl ?_
    exact ih (j + 1) _ _ (by omega) (by omega) (by rw [show (24 : Int) - 8 * ((j + 1 : Nat) : Int) = 24 - 8 * (j : Int) + -8 by omega]; rfl) rfl
theorem p4_cases {l : Int} (h : 0 ≤ l ∧ l ≤ 4) : l = 0 ∨ l = 1 ∨ l = 2 ∨ l = 3 ∨ l = 4 := by omega
/-- 4 to the power of l -/
def p4 (l : Int) : Int := if l ≤ 0 then 1 else if l = 1 then 4 else if l = 2 then 16 else if l = 3 then 64 else 256
theorem p4_shl {l : Int} (h : 0 ≤ l ∧ l ≤ 4) : zshl 1 (2 * l) = p4 l := by
  rcases p4_cases h with h | h | h | h | h <;> subst h <;> decide
set_option maxHeartbeats 1000000 in
theorem c_cellsIn {l : Int} {M : qM} (h : 0 ≤ l ∧ l ≤ 4) : qCt mX7_cellsIn 0 0 [.int (zI l)] M (qpe (p4 l) M) := by
  refine q_intro (own := 7) (L := [some (.int (zI l))]) md_X7_cellsIn rfl rfl rfl (Nat.le_of_ble_eq_true rfl) (fun X => ?_)
  refine q_iconst dX7_cellsIn_0 ?_
  refine q_iconst dX7_cellsIn_1 ?_
  refine q_iload_n dX7_cellsIn_2 rfl ?_
  refine q_imul dX7_cellsIn_3 ?_
  refine q_ishl dX7_cellsIn_4 ?_
  refine q_ireturn dX7_cellsIn_5 ?_
  exact ⟨by rw [p4_shl h], rfl⟩
set_option maxHeartbeats 1000000 in
theorem c_blocksAt {l k : Int} {M : qM} (h : 0 ≤ l ∧ l ≤ k ∧ k ≤ 4) : qCt mX7_blocksAt 0 0 [.int (zI l), .int (zI k)] M (qpe (p4 (k - l)) M) := by
  refine q_intro (own := 7) (L := [some (.int (zI l)), some (.int (zI k))]) md_X7_blocksAt rfl rfl rfl (Nat.le_of_ble_eq_true rfl) (fun X => ?_)
  refine q_iconst dX7_blocksAt_0 ?_
  refine q_iconst dX7_blocksAt_1 ?_
  refine q_iload_n dX7_blocksAt_2 rfl ?_
  refine q_iload_n dX7_blocksAt_3 rfl ?_
  refine q_isub dX7_blocksAt_4 ?_
  refine q_imul dX7_blocksAt_5 ?_
  refine q_ishl dX7_blocksAt_6 ?_
  refine q_ireturn dX7_blocksAt_7 ?_
  exact ⟨by rw [p4_shl (by omega)], rfl⟩
/-- the code of quarter q in a head -/
def hcode (v q : Int) : Int := if q = 0 then v % 4 else if q = 1 then v / 4 % 4 else if q = 2 then v / 16 % 4 else v / 64 % 4
theorem q4_cases {q : Int} (h : 0 ≤ q ∧ q < 4) : q = 0 ∨ q = 1 ∨ q = 2 ∨ q = 3 := by omega
theorem hcode_shr {v q : Int} (hv : 0 ≤ v ∧ v < 2147483648) (h : 0 ≤ q ∧ q < 4) : zand (zshr v (2 * q)) 3 = hcode v q := by
  have e0 : zshr v (2 * 0) = v := by have : zshr v (0 : Nat) = v / 2 ^ 0 := zshr_c 0 hv.1 hv.2 (by decide); simpa using this
  have e1 : zshr v (2 * 1) = v / 4 := zshr_c 2 hv.1 hv.2 (by decide)
  have e2 : zshr v (2 * 2) = v / 16 := zshr_c 4 hv.1 hv.2 (by decide)
  have e3 : zshr v (2 * 3) = v / 64 := zshr_c 6 hv.1 hv.2 (by decide)
  rcases q4_cases h with h | h | h | h <;> subst h
  · rw [e0, zand_3 (by omega) (by omega)]; rfl
  · rw [e1, zand_3 (by omega) (by omega)]; rfl
  · rw [e2, zand_3 (by omega) (by omega)]; rfl
  · rw [e3, zand_3 (by omega) (by omega)]; rfl
theorem hcode_in (v q : Int) : 0 ≤ hcode v q ∧ hcode v q < 4 := by
  unfold hcode
  by_cases h0 : q = 0
  · rw [if_pos h0]; omega
  · rw [if_neg h0]
    by_cases h1 : q = 1
    · rw [if_pos h1]; omega
    · rw [if_neg h1]
      by_cases h2 : q = 2
      · rw [if_pos h2]; omega
      · rw [if_neg h2]; omega
set_option maxHeartbeats 1000000 in
theorem c_codeIn {v q : Int} {M : qM} (hv : 0 ≤ v ∧ v < 2147483648) (h : 0 ≤ q ∧ q < 4) : qCt mX7_codeIn 0 0 [.int (zI v), .int (zI q)] M (qpe (hcode v q) M) := by
  refine q_intro (own := 7) (L := [some (.int (zI v)), some (.int (zI q))]) md_X7_codeIn rfl rfl rfl (Nat.le_of_ble_eq_true rfl) (fun X => ?_)
  refine q_iload_n dX7_codeIn_0 rfl ?_
  refine q_iconst dX7_codeIn_1 ?_
  refine q_iload_n dX7_codeIn_2 rfl ?_
  refine q_imul dX7_codeIn_3 ?_
  refine q_ishr dX7_codeIn_4 ?_
  refine q_iconst dX7_codeIn_5 ?_
  refine q_iand dX7_codeIn_6 ?_
  refine q_ireturn dX7_codeIn_7 ?_
  exact ⟨by rw [hcode_shr hv h], rfl⟩


/-! QuarterMaps$Bits: the rows of bits. cell i of row r is M 4 (r * 256 + i). -/
set_option maxHeartbeats 1000000 in
theorem c_cell {r i : Int} {M : qM} (hr : 0 ≤ r ∧ r < 33) (hi : 0 ≤ i ∧ i < 256) : qCt mX0_cell 0 0 [.ref 3, .int (zI r), .int (zI i)] M (qpe (M 4 (r * 256 + i)) M) := by
  refine q_intro (own := 0) (L := [some (.ref 3), some (.int (zI r)), some (.int (zI i)), none]) md_X0_cell rfl rfl rfl (Nat.le_of_ble_eq_true rfl) (fun X => ?_)
  refine q_iload_n dX0_cell_0 rfl ?_
  refine q_sipush dX0_cell_1 rfl ?_
  refine q_imul dX0_cell_4 ?_
  refine q_iload_n dX0_cell_5 rfl ?_
  refine q_iadd dX0_cell_6 ?_
  refine q_istore_n dX0_cell_7 (Nat.le_of_ble_eq_true rfl) rfl ?_
  refine q_iload_n dX0_cell_8 rfl ?_
  refine q_if_lt (tgt := 30) dX0_cell_9 rfl (by (first | (unfold zR; omega) | (unfold zLR; omega) | omega | (simp only [zR, qup] at *; omega) | (simp [zR, qup]; omega) | (simp [zR, qup]; done))) (fun h9 => absurd h9 (by omega)) (fun h9 => ?_)
  refine q_iload_n dX0_cell_12 rfl ?_
  refine q_aload_n dX0_cell_13 rfl ?_
  refine q_getr dX0_cell_14 fl_0_9 rfl rfl ?_
  refine q_alen dX0_cell_17 rfl ?_
  refine q_icmp_ge (tgt := 30) dX0_cell_18 rfl (by (first | (unfold zR; omega) | (unfold zLR; omega) | omega | (simp only [zR, qup] at *; omega) | (simp [zR, qup]; omega) | (simp [zR, qup]; done))) (by (first | (unfold zR; omega) | (unfold zLR; omega) | omega | (simp only [zR, qup] at *; omega) | (simp [zR, qup]; omega) | (simp [zR, qup]; done))) (fun h18 => absurd h18 (by omega)) (fun h18 => ?_)
  refine q_aload_n dX0_cell_21 rfl ?_
  refine q_getr dX0_cell_22 fl_0_9 rfl rfl ?_
  refine q_iload_n dX0_cell_25 rfl ?_
  refine q_iald dX0_cell_26 rfl (by (first | (unfold zR; omega) | (unfold zLR; omega) | omega | (simp only [zR, qup] at *; omega) | (simp [zR, qup]; omega) | (simp [zR, qup]; done))) (Nat.le_of_ble_eq_true rfl) ?_
  refine q_goto (tgt := 31) dX0_cell_27 rfl ?_
  refine q_ireturn dX0_cell_31 ?_
  exact ⟨rfl, rfl⟩
set_option maxHeartbeats 1000000 in
theorem c_put {r i v : Int} {M : qM} (hr : 0 ≤ r ∧ r < 33) (hi : 0 ≤ i ∧ i < 256) : qCt mX0_put 0 0 [.ref 3, .int (zI r), .int (zI i), .int (zI v)] M (qpv (qup M 4 (r * 256 + i) v)) := by
  refine q_intro (own := 0) (L := [some (.ref 3), some (.int (zI r)), some (.int (zI i)), some (.int (zI v)), none]) md_X0_put rfl rfl rfl (Nat.le_of_ble_eq_true rfl) (fun X => ?_)
  refine q_iload_n dX0_put_0 rfl ?_
  refine q_sipush dX0_put_1 rfl ?_
  refine q_imul dX0_put_4 ?_
  refine q_iload_n dX0_put_5 rfl ?_
  refine q_iadd dX0_put_6 ?_
  refine q_istore dX0_put_7 (Nat.le_of_ble_eq_true rfl) rfl ?_
  refine q_iload dX0_put_9 rfl ?_
  refine q_if_lt (tgt := 32) dX0_put_11 rfl (by (first | (unfold zR; omega) | (unfold zLR; omega) | omega | (simp only [zR, qup] at *; omega) | (simp [zR, qup]; omega) | (simp [zR, qup]; done))) (fun h11 => absurd h11 (by omega)) (fun h11 => ?_)
  refine q_iload dX0_put_14 rfl ?_
  refine q_aload_n dX0_put_16 rfl ?_
  refine q_getr dX0_put_17 fl_0_9 rfl rfl ?_
  refine q_alen dX0_put_20 rfl ?_
  refine q_icmp_ge (tgt := 32) dX0_put_21 rfl (by (first | (unfold zR; omega) | (unfold zLR; omega) | omega | (simp only [zR, qup] at *; omega) | (simp [zR, qup]; omega) | (simp [zR, qup]; done))) (by (first | (unfold zR; omega) | (unfold zLR; omega) | omega | (simp only [zR, qup] at *; omega) | (simp [zR, qup]; omega) | (simp [zR, qup]; done))) (fun h21 => absurd h21 (by omega)) (fun h21 => ?_)
  refine q_aload_n dX0_put_24 rfl ?_
  refine q_getr dX0_put_25 fl_0_9 rfl rfl ?_
  refine q_iload dX0_put_28 rfl ?_
  refine q_iload_n dX0_put_30 rfl ?_
  refine q_iast dX0_put_31 rfl (by (first | (unfold zR; omega) | (unfold zLR; omega) | omega | (simp only [zR, qup] at *; omega) | (simp [zR, qup]; omega) | (simp [zR, qup]; done))) (Nat.le_of_ble_eq_true rfl) ?_
  refine q_return dX0_put_32 ?_
  exact ⟨rfl, rfl⟩
set_option maxHeartbeats 1000000 in
theorem c_holds {a n : Int} {M : qM} (h0 : 0 ≤ a) (h1 : 0 ≤ n) (h2 : a + n ≤ 8448) : qCt mX0_holds 0 0 [.ref 3, .int (zI a), .int (zI n)] M (qpe 1 M) := by
  refine q_intro (own := 0) (L := [some (.ref 3), some (.int (zI a)), some (.int (zI n))]) md_X0_holds rfl rfl rfl (Nat.le_of_ble_eq_true rfl) (fun X => ?_)
  refine q_iload_n dX0_holds_0 rfl ?_
  refine q_if_lt (tgt := 23) dX0_holds_1 rfl (by (first | (unfold zR; omega) | (unfold zLR; omega) | omega | (simp only [zR, qup] at *; omega) | (simp [zR, qup]; omega) | (simp [zR, qup]; done))) (fun h1 => absurd h1 (by omega)) (fun h1 => ?_)
  refine q_iload_n dX0_holds_4 rfl ?_
  refine q_if_lt (tgt := 23) dX0_holds_5 rfl (by (first | (unfold zR; omega) | (unfold zLR; omega) | omega | (simp only [zR, qup] at *; omega) | (simp [zR, qup]; omega) | (simp [zR, qup]; done))) (fun h5 => absurd h5 (by omega)) (fun h5 => ?_)
  refine q_iload_n dX0_holds_8 rfl ?_
  refine q_aload_n dX0_holds_9 rfl ?_
  refine q_getr dX0_holds_10 fl_0_9 rfl rfl ?_
  refine q_alen dX0_holds_13 rfl ?_
  refine q_iload_n dX0_holds_14 rfl ?_
  refine q_isub dX0_holds_15 ?_
  refine q_icmp_gt (tgt := 23) dX0_holds_16 rfl (by (first | (unfold zR; omega) | (unfold zLR; omega) | omega | (simp only [zR, qup] at *; omega) | (simp [zR, qup]; omega) | (simp [zR, qup]; done))) (by (first | (unfold zR; omega) | (unfold zLR; omega) | omega | (simp only [zR, qup] at *; omega) | (simp [zR, qup]; omega) | (simp [zR, qup]; done))) (fun h16 => absurd h16 (by omega)) (fun h16 => ?_)
  refine q_iconst dX0_holds_19 ?_
  refine q_goto (tgt := 24) dX0_holds_20 rfl ?_
  refine q_zreturn (by first | exact Or.inl rfl | exact Or.inr rfl) dX0_holds_24 ?_
  exact ⟨rfl, rfl⟩
set_option maxHeartbeats 1000000 in
theorem c_copyRow {f t : Int} {M : qM} (hf : 0 ≤ f ∧ f < 33) (ht : 0 ≤ t ∧ t < 33) : qCt mX0_copyRow 0 1 [.ref 3, .int (zI f), .int (zI t)] M (qpv (qrow M t (rowc M f))) := by
  rw [← qcpy_row]
  refine q_intro (own := 0) (L := [some (.ref 3), some (.int (zI f)), some (.int (zI t))]) md_X0_copyRow rfl rfl rfl (Nat.le_of_ble_eq_true rfl) (fun X => ?_)
  refine q_aload_n dX0_copyRow_0 rfl ?_
  refine q_iload_n dX0_copyRow_1 rfl ?_
  refine q_sipush dX0_copyRow_2 rfl ?_
  refine q_imul dX0_copyRow_5 ?_
  refine q_sipush dX0_copyRow_6 rfl ?_
  refine q_V2 dX0_copyRow_9 ml_0_15 md_X0_holds (c_holds (by omega) (by omega) (by omega)) rfl rfl rfl (by first | decide | omega) (Nat.le_of_ble_eq_true rfl) (Nat.le_of_ble_eq_true rfl) (qk_e ?_)
  refine q_if_eq (tgt := 54) dX0_copyRow_12 rfl (by (first | (unfold zR; omega) | (unfold zLR; omega) | omega | (simp only [zR, qup] at *; omega) | (simp [zR, qup]; omega) | (simp [zR, qup]; done))) (fun h12 => absurd h12 (by omega)) (fun h12 => ?_)
  refine q_aload_n dX0_copyRow_15 rfl ?_
  refine q_iload_n dX0_copyRow_16 rfl ?_
  refine q_sipush dX0_copyRow_17 rfl ?_
  refine q_imul dX0_copyRow_20 ?_
  refine q_sipush dX0_copyRow_21 rfl ?_
  refine q_V2 dX0_copyRow_24 ml_0_15 md_X0_holds (c_holds (by omega) (by omega) (by omega)) rfl rfl rfl (by first | decide | omega) (Nat.le_of_ble_eq_true rfl) (Nat.le_of_ble_eq_true rfl) (qk_e ?_)
  refine q_if_eq (tgt := 54) dX0_copyRow_27 rfl (by (first | (unfold zR; omega) | (unfold zLR; omega) | omega | (simp only [zR, qup] at *; omega) | (simp [zR, qup]; omega) | (simp [zR, qup]; done))) (fun h27 => absurd h27 (by omega)) (fun h27 => ?_)
  refine q_aload_n dX0_copyRow_30 rfl ?_
  refine q_getr dX0_copyRow_31 fl_0_9 rfl rfl ?_
  refine q_iload_n dX0_copyRow_34 rfl ?_
  refine q_sipush dX0_copyRow_35 rfl ?_
  refine q_imul dX0_copyRow_38 ?_
  refine q_aload_n dX0_copyRow_39 rfl ?_
  refine q_getr dX0_copyRow_40 fl_0_9 rfl rfl ?_
  refine q_iload_n dX0_copyRow_43 rfl ?_
  refine q_sipush dX0_copyRow_44 rfl ?_
  refine q_imul dX0_copyRow_47 ?_
  refine q_sipush dX0_copyRow_48 rfl ?_
  refine q_acopy dX0_copyRow_51 rfl rfl (Nat.le_of_ble_eq_true rfl) (by (first | (unfold zR; omega) | (unfold zLR; omega) | omega | (simp only [zR, qup] at *; omega) | (simp [zR, qup]; omega) | (simp [zR, qup]; done))) (by (first | (unfold zR; omega) | (unfold zLR; omega) | omega | (simp only [zR, qup] at *; omega) | (simp [zR, qup]; omega) | (simp [zR, qup]; done))) (by (first | (unfold zR; omega) | (unfold zLR; omega) | omega | (simp only [zR, qup] at *; omega) | (simp [zR, qup]; omega) | (simp [zR, qup]; done))) (by (first | (unfold zR; omega) | (unfold zLR; omega) | omega | (simp only [zR, qup] at *; omega) | (simp [zR, qup]; omega) | (simp [zR, qup]; done))) (by (first | (unfold zR; omega) | (unfold zLR; omega) | omega | (simp only [zR, qup] at *; omega) | (simp [zR, qup]; omega) | (simp [zR, qup]; done))) (Nat.le_of_ble_eq_true rfl) ?_
  refine q_return dX0_copyRow_54 ?_
  exact ⟨rfl, rfl⟩
set_option maxHeartbeats 1000000 in
theorem c_copyCells {r f t n : Int} {M : qM} (hr : 0 ≤ r ∧ r < 33) (hf : 0 ≤ f ∧ f + n ≤ 256) (ht : 0 ≤ t ∧ t + n ≤ 256) (hn : 0 ≤ n) : qCt mX0_copyCells 0 1 [.ref 3, .int (zI r), .int (zI f), .int (zI t), .int (zI n)] M (qpv (qcpy M 4 (r * 256 + f) (r * 256 + t) n)) := by
  refine q_intro (own := 0) (L := [some (.ref 3), some (.int (zI r)), some (.int (zI f)), some (.int (zI t)), some (.int (zI n)), none, none]) md_X0_copyCells rfl rfl rfl (Nat.le_of_ble_eq_true rfl) (fun X => ?_)
  refine q_iload_n dX0_copyCells_0 rfl ?_
  refine q_sipush dX0_copyCells_1 rfl ?_
  refine q_imul dX0_copyCells_4 ?_
  refine q_iload_n dX0_copyCells_5 rfl ?_
  refine q_iadd dX0_copyCells_6 ?_
  refine q_istore dX0_copyCells_7 (Nat.le_of_ble_eq_true rfl) rfl ?_
  refine q_iload_n dX0_copyCells_9 rfl ?_
  refine q_sipush dX0_copyCells_10 rfl ?_
  refine q_imul dX0_copyCells_13 ?_
  refine q_iload_n dX0_copyCells_14 rfl ?_
  refine q_iadd dX0_copyCells_15 ?_
  refine q_istore dX0_copyCells_16 (Nat.le_of_ble_eq_true rfl) rfl ?_
  refine q_aload_n dX0_copyCells_18 rfl ?_
  refine q_iload dX0_copyCells_19 rfl ?_
  refine q_iload dX0_copyCells_21 rfl ?_
  refine q_V2 dX0_copyCells_23 ml_0_15 md_X0_holds (c_holds (by omega) (by omega) (by omega)) rfl rfl rfl (by first | decide | omega) (Nat.le_of_ble_eq_true rfl) (Nat.le_of_ble_eq_true rfl) (qk_e ?_)
  refine q_if_eq (tgt := 57) dX0_copyCells_26 rfl (by (first | (unfold zR; omega) | (unfold zLR; omega) | omega | (simp only [zR, qup] at *; omega) | (simp [zR, qup]; omega) | (simp [zR, qup]; done))) (fun h26 => absurd h26 (by omega)) (fun h26 => ?_)
  refine q_aload_n dX0_copyCells_29 rfl ?_
  refine q_iload dX0_copyCells_30 rfl ?_
  refine q_iload dX0_copyCells_32 rfl ?_
  refine q_V2 dX0_copyCells_34 ml_0_15 md_X0_holds (c_holds (by omega) (by omega) (by omega)) rfl rfl rfl (by first | decide | omega) (Nat.le_of_ble_eq_true rfl) (Nat.le_of_ble_eq_true rfl) (qk_e ?_)
  refine q_if_eq (tgt := 57) dX0_copyCells_37 rfl (by (first | (unfold zR; omega) | (unfold zLR; omega) | omega | (simp only [zR, qup] at *; omega) | (simp [zR, qup]; omega) | (simp [zR, qup]; done))) (fun h37 => absurd h37 (by omega)) (fun h37 => ?_)
  refine q_aload_n dX0_copyCells_40 rfl ?_
  refine q_getr dX0_copyCells_41 fl_0_9 rfl rfl ?_
  refine q_iload dX0_copyCells_44 rfl ?_
  refine q_aload_n dX0_copyCells_46 rfl ?_
  refine q_getr dX0_copyCells_47 fl_0_9 rfl rfl ?_
  refine q_iload dX0_copyCells_50 rfl ?_
  refine q_iload dX0_copyCells_52 rfl ?_
  refine q_acopy dX0_copyCells_54 rfl rfl (Nat.le_of_ble_eq_true rfl) (by (first | (unfold zR; omega) | (unfold zLR; omega) | omega | (simp only [zR, qup] at *; omega) | (simp [zR, qup]; omega) | (simp [zR, qup]; done))) (by (first | (unfold zR; omega) | (unfold zLR; omega) | omega | (simp only [zR, qup] at *; omega) | (simp [zR, qup]; omega) | (simp [zR, qup]; done))) (by (first | (unfold zR; omega) | (unfold zLR; omega) | omega | (simp only [zR, qup] at *; omega) | (simp [zR, qup]; omega) | (simp [zR, qup]; done))) (by (first | (unfold zR; omega) | (unfold zLR; omega) | omega | (simp only [zR, qup] at *; omega) | (simp [zR, qup]; omega) | (simp [zR, qup]; done))) (by (first | (unfold zR; omega) | (unfold zLR; omega) | omega | (simp only [zR, qup] at *; omega) | (simp [zR, qup]; omega) | (simp [zR, qup]; done))) (Nat.le_of_ble_eq_true rfl) ?_
  refine q_return dX0_copyCells_57 ?_
  exact ⟨rfl, rfl⟩
set_option maxHeartbeats 1000000 in
theorem c_setCells {r f n v : Int} {M : qM} (hr : 0 ≤ r ∧ r < 33) (hf : 0 ≤ f ∧ f + n ≤ 256) (hn : 0 ≤ n) : qCt mX0_setCells 0 1 [.ref 3, .int (zI r), .int (zI f), .int (zI n), .int (zI v)] M (qpv (qset M 4 (r * 256 + f) n v)) := by
  refine q_intro (own := 0) (L := [some (.ref 3), some (.int (zI r)), some (.int (zI f)), some (.int (zI n)), some (.int (zI v)), none]) md_X0_setCells rfl rfl rfl (Nat.le_of_ble_eq_true rfl) (fun X => ?_)
  refine q_iload_n dX0_setCells_0 rfl ?_
  refine q_istore dX0_setCells_1 (Nat.le_of_ble_eq_true rfl) rfl ?_
  refine q_lp (fun i : Int => (f + n - i).toNat) (fun i => f ≤ i ∧ i ≤ f + n) (fun i => [some (.ref 3), some (.int (zI r)), some (.int (zI f)), some (.int (zI n)), some (.int (zI v)), some (.int (zI i))]) (fun i => qset M 4 (r * 256 + f) (i - f) v) f rfl (qset_0 M 4 (by omega)).symm ⟨by omega, by omega⟩ (fun i hi ih => ?_)
  refine q_iload dX0_setCells_3 rfl ?_
  refine q_iload_n dX0_setCells_5 rfl ?_
  refine q_iload_n dX0_setCells_6 rfl ?_
  refine q_iadd dX0_setCells_7 ?_
  refine q_icmp_ge (tgt := 26) dX0_setCells_8 rfl (by (first | (unfold zR; omega) | (unfold zLR; omega) | omega | (simp only [zR, qup] at *; omega) | (simp [zR, qup]; omega) | (simp [zR, qup]; done))) (by (first | (unfold zR; omega) | (unfold zLR; omega) | omega | (simp only [zR, qup] at *; omega) | (simp [zR, qup]; omega) | (simp [zR, qup]; done))) (fun h8 => ?_) (fun h8 => ?_)
  ·
    refine q_return dX0_setCells_26 ?_
    exact ⟨rfl, by show qset M 4 _ (i - f) v = _; rw [show i - f = n by omega]⟩
  ·
    refine q_aload_n dX0_setCells_11 rfl ?_
    refine q_iload_n dX0_setCells_12 rfl ?_
    refine q_iload dX0_setCells_13 rfl ?_
    refine q_iload dX0_setCells_15 rfl ?_
    refine q_V3 dX0_setCells_17 ml_0_25 md_X0_put (c_put (by omega) (by omega)) rfl rfl rfl (by first | decide | omega) (Nat.le_of_ble_eq_true rfl) (Nat.le_of_ble_eq_true rfl) (qk_v ?_)
    refine q_iinc dX0_setCells_20 rfl (Nat.le_of_ble_eq_true rfl) rfl ?_
    refine q_goto (tgt := 3) dX0_setCells_23 rfl ?_
    exact ih (i + 1) _ _ ⟨by omega, by omega⟩ (by omega) rfl (by rw [qset_up M 4 (by omega) (by omega)]; congr 1; omega)
set_option maxHeartbeats 1000000 in
theorem c_isAll {r f n v : Int} {M : qM} (hr : 0 ≤ r ∧ r < 33) (hf : 0 ≤ f ∧ f + n ≤ 256) (hn : 0 ≤ n) (hv : 0 ≤ v ∧ v < 256) (ok : rowOk M r) : qCt mX0_isAll 0 1 [.ref 3, .int (zI r), .int (zI f), .int (zI n), .int (zI v)] M (qpe (zb (∀ k, 0 ≤ k → k < n → M 4 (r * 256 + (f + k)) = v)) M) := by
  refine q_intro (own := 0) (L := [some (.ref 3), some (.int (zI r)), some (.int (zI f)), some (.int (zI n)), some (.int (zI v)), none]) md_X0_isAll rfl rfl rfl (Nat.le_of_ble_eq_true rfl) (fun X => ?_)
  refine q_iload_n dX0_isAll_0 rfl ?_
  refine q_istore dX0_isAll_1 (Nat.le_of_ble_eq_true rfl) rfl ?_
  refine q_lp (fun i : Int => (f + n - i).toNat) (fun i => f ≤ i ∧ i ≤ f + n ∧ ∀ k, 0 ≤ k → k < i - f → M 4 (r * 256 + (f + k)) = v) (fun i => [some (.ref 3), some (.int (zI r)), some (.int (zI f)), some (.int (zI n)), some (.int (zI v)), some (.int (zI i))]) (fun _ => M) f rfl rfl ⟨by omega, by omega, fun k h1 h2 => by omega⟩ (fun i hi ih => ?_)
  obtain ⟨hi1, hi2, hi3⟩ := hi
  refine q_iload dX0_isAll_3 rfl ?_
  refine q_iload_n dX0_isAll_5 rfl ?_
  refine q_iload_n dX0_isAll_6 rfl ?_
  refine q_iadd dX0_isAll_7 ?_
  refine q_icmp_ge (tgt := 31) dX0_isAll_8 rfl (by (first | (unfold zR; omega) | (unfold zLR; omega) | omega | (simp only [zR, qup] at *; omega) | (simp [zR, qup]; omega) | (simp [zR, qup]; done))) (by (first | (unfold zR; omega) | (unfold zLR; omega) | omega | (simp only [zR, qup] at *; omega) | (simp [zR, qup]; omega) | (simp [zR, qup]; done))) (fun h8 => ?_) (fun h8 => ?_)
  ·
    refine q_iconst dX0_isAll_31 ?_
    refine q_zreturn (by first | exact Or.inl rfl | exact Or.inr rfl) dX0_isAll_32 ?_
    exact ⟨by rw [zb_t (fun k h1 h2 => hi3 k h1 (by omega))], rfl⟩
  ·
    refine q_aload_n dX0_isAll_11 rfl ?_
    refine q_iload_n dX0_isAll_12 rfl ?_
    refine q_iload dX0_isAll_13 rfl ?_
    have hc := ok i
    refine q_V2 dX0_isAll_15 ml_0_29 md_X0_cell (c_cell (by omega) (by omega)) rfl rfl rfl (by first | decide | omega) (Nat.le_of_ble_eq_true rfl) (Nat.le_of_ble_eq_true rfl) (qk_e ?_)
    refine q_iload dX0_isAll_18 rfl ?_
    refine q_icmp_eq (tgt := 25) dX0_isAll_20 rfl (by have := ok i (by omega) (by omega); unfold zR; omega) (by have := ok i (by omega) (by omega); unfold zR; omega) (fun h20 => ?_) (fun h20 => ?_)
    ·
      refine q_iinc dX0_isAll_25 rfl (Nat.le_of_ble_eq_true rfl) rfl ?_
      refine q_goto (tgt := 3) dX0_isAll_28 rfl ?_
      exact ih (i + 1) _ _ ⟨by omega, by omega, fun k h1 h2 => by
        by_cases e : k = i - f
        · rw [e, show f + (i - f) = i by omega]; exact h20
        · exact hi3 k h1 (by omega)⟩ (by omega) rfl rfl
    ·
      refine q_iconst dX0_isAll_23 ?_
      refine q_zreturn (by first | exact Or.inl rfl | exact Or.inr rfl) dX0_isAll_24 ?_
      exact ⟨by rw [zb_f (fun q => h20 (by have := q (i - f) (by omega) (by omega); rwa [show f + (i - f) = i by omega] at this))], rfl⟩
set_option maxHeartbeats 1000000 in
theorem c_bitAt {r p : Int} {M : qM} (hr : 0 ≤ r ∧ r < 33) (hp : 0 ≤ p ∧ p < 2048) (ok : rowOk M r) : qCt mX0_bitAt 0 1 [.ref 3, .int (zI r), .int (zI p)] M (qpe (bitP (rowc M r) p) M) := by
  refine q_intro (own := 0) (L := [some (.ref 3), some (.int (zI r)), some (.int (zI p))]) md_X0_bitAt rfl rfl rfl (Nat.le_of_ble_eq_true rfl) (fun X => ?_)
  refine q_aload_n dX0_bitAt_0 rfl ?_
  refine q_iload_n dX0_bitAt_1 rfl ?_
  refine q_iload_n dX0_bitAt_2 rfl ?_
  refine q_iconst dX0_bitAt_3 ?_
  refine q_ishr dX0_bitAt_4 ?_
  rw [zshr_3 (by omega) (by omega)]
  refine q_V2 dX0_bitAt_5 ml_0_29 md_X0_cell (c_cell (by omega) (by omega)) rfl rfl rfl (by first | decide | omega) (Nat.le_of_ble_eq_true rfl) (Nat.le_of_ble_eq_true rfl) (qk_e ?_)
  refine q_iload_n dX0_bitAt_8 rfl ?_
  refine q_bipush dX0_bitAt_9 rfl ?_
  refine q_iand dX0_bitAt_11 ?_
  rw [zand_7 (by omega) (by omega)]
  refine q_ishr dX0_bitAt_12 ?_
  refine q_iconst dX0_bitAt_13 ?_
  refine q_iand dX0_bitAt_14 ?_
  refine q_ireturn dX0_bitAt_15 ?_
  exact ⟨by have := ok (p / 8) (by omega) (by omega); rw [zbit_eq (by omega) (by omega) (by omega) (by omega)]; rfl, rfl⟩
set_option maxHeartbeats 1000000 in
theorem c_mask {i f t : Int} {M : qM} (hi : 0 ≤ i ∧ i < 256) (hf : 0 ≤ f ∧ f < 2048) (ht : 0 ≤ t ∧ t < 2048) : qCt mX0_mask 0 0 [.int (zI i), .int (zI f), .int (zI t)] M (qpe (maskv i f t) M) := by
  refine q_intro (own := 0) (L := [some (.int (zI i)), some (.int (zI f)), some (.int (zI t)), none, none]) md_X0_mask rfl rfl rfl (Nat.le_of_ble_eq_true rfl) (fun X => ?_)
  refine q_iload_n dX0_mask_0 rfl ?_
  refine q_bipush dX0_mask_1 rfl ?_
  refine q_iload_n dX0_mask_3 rfl ?_
  refine q_imul dX0_mask_4 ?_
  refine q_isub dX0_mask_5 ?_
  refine q_iconst dX0_mask_6 ?_
  refine q_mmax dX0_mask_7 ml_0_33 (by (first | (unfold zR; omega) | (unfold zLR; omega) | omega | (simp only [zR, qup] at *; omega) | (simp [zR, qup]; omega) | (simp [zR, qup]; done))) (by (first | (unfold zR; omega) | (unfold zLR; omega) | omega | (simp only [zR, qup] at *; omega) | (simp [zR, qup]; omega) | (simp [zR, qup]; done))) (Nat.le_of_ble_eq_true rfl) ?_
  refine q_istore_n dX0_mask_10 (Nat.le_of_ble_eq_true rfl) rfl ?_
  refine q_iload_n dX0_mask_11 rfl ?_
  refine q_bipush dX0_mask_12 rfl ?_
  refine q_iload_n dX0_mask_14 rfl ?_
  refine q_imul dX0_mask_15 ?_
  refine q_isub dX0_mask_16 ?_
  refine q_bipush dX0_mask_17 rfl ?_
  refine q_mmin dX0_mask_19 ml_0_38 (by (first | (unfold zR; omega) | (unfold zLR; omega) | omega | (simp only [zR, qup] at *; omega) | (simp [zR, qup]; omega) | (simp [zR, qup]; done))) (by (first | (unfold zR; omega) | (unfold zLR; omega) | omega | (simp only [zR, qup] at *; omega) | (simp [zR, qup]; omega) | (simp [zR, qup]; done))) (Nat.le_of_ble_eq_true rfl) ?_
  refine q_istore dX0_mask_22 (Nat.le_of_ble_eq_true rfl) rfl ?_
  refine q_iload_n dX0_mask_24 rfl ?_
  refine q_iload dX0_mask_25 rfl ?_
  refine q_icmp_le (tgt := 34) dX0_mask_27 rfl (by (first | (unfold zR; omega) | (unfold zLR; omega) | omega | (simp only [zR, qup] at *; omega) | (simp [zR, qup]; omega) | (simp [zR, qup]; done))) (by (first | (unfold zR; omega) | (unfold zLR; omega) | omega | (simp only [zR, qup] at *; omega) | (simp [zR, qup]; omega) | (simp [zR, qup]; done))) (fun h27 => ?_) (fun h27 => ?_)
  ·
    refine q_sipush dX0_mask_34 rfl ?_
    refine q_iload_n dX0_mask_37 rfl ?_
    refine q_ishl dX0_mask_38 ?_
    refine q_sipush dX0_mask_39 rfl ?_
    refine q_bipush dX0_mask_42 rfl ?_
    refine q_iload dX0_mask_44 rfl ?_
    refine q_isub dX0_mask_46 ?_
    refine q_ishr dX0_mask_47 ?_
    refine q_iand dX0_mask_48 ?_
    refine q_ireturn dX0_mask_49 ?_
    exact ⟨by rw [mask_eq (by omega)], rfl⟩
  ·
    refine q_iconst dX0_mask_30 ?_
    refine q_goto (tgt := 49) dX0_mask_31 rfl ?_
    refine q_ireturn dX0_mask_49 ?_
    exact ⟨by rw [mask_0 (by omega)], rfl⟩
theorem bc_lemma : ∀ v : Fin 256, zand (((zand ((zand ((v.val : Int) - zand (zushr (v.val : Int) 1) 1431655765) 858993459 + zand (zushr ((v.val : Int) - zand (zushr (v.val : Int) 1) 1431655765) 2) 858993459) + zushr (zand ((v.val : Int) - zand (zushr (v.val : Int) 1) 1431655765) 858993459 + zand (zushr ((v.val : Int) - zand (zushr (v.val : Int) 1) 1431655765) 2) 858993459) 4) 252645135) + zushr (zand ((zand ((v.val : Int) - zand (zushr (v.val : Int) 1) 1431655765) 858993459 + zand (zushr ((v.val : Int) - zand (zushr (v.val : Int) 1) 1431655765) 2) 858993459) + zushr (zand ((v.val : Int) - zand (zushr (v.val : Int) 1) 1431655765) 858993459 + zand (zushr ((v.val : Int) - zand (zushr (v.val : Int) 1) 1431655765) 2) 858993459) 4) 252645135) 8) + zushr ((zand ((zand ((v.val : Int) - zand (zushr (v.val : Int) 1) 1431655765) 858993459 + zand (zushr ((v.val : Int) - zand (zushr (v.val : Int) 1) 1431655765) 2) 858993459) + zushr (zand ((v.val : Int) - zand (zushr (v.val : Int) 1) 1431655765) 858993459 + zand (zushr ((v.val : Int) - zand (zushr (v.val : Int) 1) 1431655765) 2) 858993459) 4) 252645135) + zushr (zand ((zand ((v.val : Int) - zand (zushr (v.val : Int) 1) 1431655765) 858993459 + zand (zushr ((v.val : Int) - zand (zushr (v.val : Int) 1) 1431655765) 2) 858993459) + zushr (zand ((v.val : Int) - zand (zushr (v.val : Int) 1) 1431655765) 858993459 + zand (zushr ((v.val : Int) - zand (zushr (v.val : Int) 1) 1431655765) 2) 858993459) 4) 252645135) 8) 16) 63 = zpop (v.val : Int) := by decide +kernel
theorem k_bc265 : Cond.constant (qNm 10) 265 (zI 1431655765) ∈ qT := qT_of 699 (by decide +kernel) (by decide +kernel)
theorem k_bc266 : Cond.constant (qNm 10) 266 (zI 858993459) ∈ qT := qT_of 700 (by decide +kernel) (by decide +kernel)
theorem k_bc267 : Cond.constant (qNm 10) 267 (zI 252645135) ∈ qT := qT_of 701 (by decide +kernel) (by decide +kernel)
set_option maxHeartbeats 1000000 in
theorem c_bitCount {v : Int} {M : qM} (hv : 0 ≤ v ∧ v < 256) : qCt mJ6_bitCount_0f7a4 0 0 [.int (zI v)] M (qpe (zpop v) M) := by
  refine q_intro (own := 10) (L := [some (.int (zI v))]) md_J6_bitCount_0f7a4 rfl rfl rfl (Nat.le_of_ble_eq_true rfl) (fun X => ?_)
  refine q_iload_n dJ6_bitCount_0f7a4_0 rfl ?_
  refine q_iload_n dJ6_bitCount_0f7a4_1 rfl ?_
  refine q_iconst dJ6_bitCount_0f7a4_2 ?_
  refine q_iushr dJ6_bitCount_0f7a4_3 ?_
  refine q_ldcw dJ6_bitCount_0f7a4_4 k_bc265 ?_
  refine q_iand dJ6_bitCount_0f7a4_7 ?_
  refine q_isub dJ6_bitCount_0f7a4_8 ?_
  refine q_istore_n dJ6_bitCount_0f7a4_9 (Nat.le_of_ble_eq_true rfl) rfl ?_
  refine q_iload_n dJ6_bitCount_0f7a4_10 rfl ?_
  refine q_ldcw dJ6_bitCount_0f7a4_11 k_bc266 ?_
  refine q_iand dJ6_bitCount_0f7a4_14 ?_
  refine q_iload_n dJ6_bitCount_0f7a4_15 rfl ?_
  refine q_iconst dJ6_bitCount_0f7a4_16 ?_
  refine q_iushr dJ6_bitCount_0f7a4_17 ?_
  refine q_ldcw dJ6_bitCount_0f7a4_18 k_bc266 ?_
  refine q_iand dJ6_bitCount_0f7a4_21 ?_
  refine q_iadd dJ6_bitCount_0f7a4_22 ?_
  refine q_istore_n dJ6_bitCount_0f7a4_23 (Nat.le_of_ble_eq_true rfl) rfl ?_
  refine q_iload_n dJ6_bitCount_0f7a4_24 rfl ?_
  refine q_iload_n dJ6_bitCount_0f7a4_25 rfl ?_
  refine q_iconst dJ6_bitCount_0f7a4_26 ?_
  refine q_iushr dJ6_bitCount_0f7a4_27 ?_
  refine q_iadd dJ6_bitCount_0f7a4_28 ?_
  refine q_ldcw dJ6_bitCount_0f7a4_29 k_bc267 ?_
  refine q_iand dJ6_bitCount_0f7a4_32 ?_
  refine q_istore_n dJ6_bitCount_0f7a4_33 (Nat.le_of_ble_eq_true rfl) rfl ?_
  refine q_iload_n dJ6_bitCount_0f7a4_34 rfl ?_
  refine q_iload_n dJ6_bitCount_0f7a4_35 rfl ?_
  refine q_bipush dJ6_bitCount_0f7a4_36 rfl ?_
  refine q_iushr dJ6_bitCount_0f7a4_38 ?_
  refine q_iadd dJ6_bitCount_0f7a4_39 ?_
  refine q_istore_n dJ6_bitCount_0f7a4_40 (Nat.le_of_ble_eq_true rfl) rfl ?_
  refine q_iload_n dJ6_bitCount_0f7a4_41 rfl ?_
  refine q_iload_n dJ6_bitCount_0f7a4_42 rfl ?_
  refine q_bipush dJ6_bitCount_0f7a4_43 rfl ?_
  refine q_iushr dJ6_bitCount_0f7a4_45 ?_
  refine q_iadd dJ6_bitCount_0f7a4_46 ?_
  refine q_istore_n dJ6_bitCount_0f7a4_47 (Nat.le_of_ble_eq_true rfl) rfl ?_
  refine q_iload_n dJ6_bitCount_0f7a4_48 rfl ?_
  refine q_bipush dJ6_bitCount_0f7a4_49 rfl ?_
  refine q_iand dJ6_bitCount_0f7a4_51 ?_
  refine q_ireturn dJ6_bitCount_0f7a4_52 ?_
  obtain ⟨n, rfl⟩ := z_nat hv.1
  have e := bc_lemma ⟨n, by omega⟩
  exact ⟨by rw [← e], rfl⟩


/-! QuarterMaps$Reader: its world (row r holds w; blocks, heads, quarters; open, whole), its methods. -/
def rdw (M : qM) (r : Int) (w B H Q : Int → Int) (o wh : Int) : qM := fun ob k => if ob = 22 then B k else if ob = 23 then H k else if ob = 24 then Q k else if ob = 18 ∧ k = 6 then o else if ob = 18 ∧ k = 7 then wh else qrow M r w ob k
theorem rdw_o {M : qM} {r : Int} {w B H Q : Int → Int} {o wh : Int} {ob : Nat} {k : Int} (h1 : ob ≠ 22 ∧ ob ≠ 23 ∧ ob ≠ 24 ∧ ob ≠ 4) (h2 : ob = 18 → k ≠ 6 ∧ k ≠ 7) : rdw M r w B H Q o wh ob k = M ob k := by
  unfold rdw
  rw [if_neg h1.1, if_neg h1.2.1, if_neg h1.2.2.1, if_neg (fun q => (h2 q.1).1 q.2), if_neg (fun q => (h2 q.1).2 q.2), qrow_o M _ h1.2.2.2]
section RW
variable {M : qM} {r : Int} {w B H Q : Int → Int} {o wh : Int}
theorem rdw_22 (k : Int) : rdw M r w B H Q o wh 22 k = B k := rfl
theorem rdw_23 (k : Int) : rdw M r w B H Q o wh 23 k = H k := rfl
theorem rdw_24 (k : Int) : rdw M r w B H Q o wh 24 k = Q k := rfl
theorem rdw_op : rdw M r w B H Q o wh 18 6 = o := by simp [rdw]
theorem rdw_wh : rdw M r w B H Q o wh 18 7 = wh := by simp [rdw]
theorem rdw_r : rdw M r w B H Q o wh 18 4 = M 18 4 := rdw_o (by decide) (fun _ => by omega)
theorem rdw_l : rdw M r w B H Q o wh 18 5 = M 18 5 := rdw_o (by decide) (fun _ => by omega)
theorem rdw_4 {i : Int} (hi : 0 ≤ i ∧ i < 256) : rdw M r w B H Q o wh 4 (r * 256 + i) = w i := by
  have : rdw M r w B H Q o wh 4 (r * 256 + i) = qrow M r w 4 (r * 256 + i) := by simp [rdw]
  rw [this, qrow_at M _ hi]
theorem rdw_u22 (k v : Int) : qup (rdw M r w B H Q o wh) 22 k v = rdw M r w (fup B k v) H Q o wh := by
  funext ob k'
  simp only [qup, rdw, fup]
  by_cases h : ob = 22
  · subst h; simp
  · simp [h]
theorem rdw_u23 (k v : Int) : qup (rdw M r w B H Q o wh) 23 k v = rdw M r w B (fup H k v) Q o wh := by
  funext ob k'
  simp only [qup, rdw, fup]
  by_cases h : ob = 23
  · subst h; simp
  · simp [h]
theorem rdw_u24 (k v : Int) : qup (rdw M r w B H Q o wh) 24 k v = rdw M r w B H (fup Q k v) o wh := by
  funext ob k'
  simp only [qup, rdw, fup]
  by_cases h : ob = 24
  · subst h; simp
  · simp [h]
theorem rdw_uo (v : Int) : qup (rdw M r w B H Q o wh) 18 6 v = rdw M r w B H Q v wh := by
  funext ob k'
  simp only [qup, rdw]
  by_cases h : ob = 18
  · subst h
    by_cases e : k' = 6
    · subst e; simp
    · simp [e]
  · simp [h]
theorem rdw_uw (v : Int) : qup (rdw M r w B H Q o wh) 18 7 v = rdw M r w B H Q o v := by
  funext ob k'
  simp only [qup, rdw]
  by_cases h : ob = 18
  · subst h
    by_cases e : k' = 7
    · subst e; simp
    · simp [e]
  · simp [h]
theorem rdw_put {i : Int} (hi : 0 ≤ i ∧ i < 256) (v : Int) : qup (rdw M r w B H Q o wh) 4 (r * 256 + i) v = rdw M r (fup w i v) B H Q o wh := by
  funext ob k'
  by_cases h : ob = 4
  · subst h
    have e1 : rdw M r w B H Q o wh 4 k' = qrow M r w 4 k' := by simp [rdw]
    have e2 : rdw M r (fup w i v) B H Q o wh 4 k' = qrow M r (fup w i v) 4 k' := by simp [rdw]
    have e3 := congrFun (congrFun (qrow_put M (r := r) (v := v) w hi) 4) k'
    rw [e2]
    show _ = qrow M r (fun k => if k = i then v else w k) 4 k'
    rw [← e3]
    simp only [qup, e1]
  · have : qup (rdw M r w B H Q o wh) 4 (r * 256 + i) v ob k' = rdw M r w B H Q o wh ob k' := by simp [qup, h]
    rw [this]
    simp only [rdw]
    rw [qrow_o M _ h, qrow_o M _ h]
theorem rdw_set {f n : Int} (hf : 0 ≤ f ∧ f + n ≤ 256) (v : Int) : qset (rdw M r w B H Q o wh) 4 (r * 256 + f) n v = rdw M r (fset w f n v) B H Q o wh := by
  funext ob k'
  by_cases h : ob = 4
  · subst h
    have e1 : rdw M r w B H Q o wh 4 k' = qrow M r w 4 k' := by simp [rdw]
    have e2 : rdw M r (fset w f n v) B H Q o wh 4 k' = qrow M r (fset w f n v) 4 k' := by simp [rdw]
    rw [e2]
    simp only [qset, e1, qrow, fset]
    by_cases a : r * 256 + f ≤ k' ∧ k' < r * 256 + f + n
    · rw [if_pos ⟨trivial, a⟩, if_pos ⟨trivial, by omega, by omega⟩, if_pos (by omega)]
    · rw [if_neg (fun q => a q.2)]
      by_cases b : r * 256 ≤ k' ∧ k' < r * 256 + 256
      · rw [if_pos ⟨trivial, b⟩, if_pos ⟨trivial, b⟩, if_neg (by omega)]
      · rw [if_neg (fun q => b q.2), if_neg (fun q => b q.2)]
  · have : qset (rdw M r w B H Q o wh) 4 (r * 256 + f) n v ob k' = rdw M r w B H Q o wh ob k' := by simp [qset, h]
    rw [this]
    simp only [rdw]
    rw [qrow_o M _ h, qrow_o M _ h]
theorem rdw_cpy {s t n : Int} (hs : 0 ≤ s ∧ s + n ≤ 256) (ht : 0 ≤ t ∧ t + n ≤ 256) : qcpy (rdw M r w B H Q o wh) 4 (r * 256 + s) (r * 256 + t) n = rdw M r (fcpy w s t n) B H Q o wh := by
  funext ob k'
  by_cases h : ob = 4
  · subst h
    have e1 : ∀ k', rdw M r w B H Q o wh 4 k' = qrow M r w 4 k' := fun k' => by simp [rdw]
    have e2 : rdw M r (fcpy w s t n) B H Q o wh 4 k' = qrow M r (fcpy w s t n) 4 k' := by simp [rdw]
    rw [e2]
    simp only [qcpy, e1, qrow, fcpy]
    by_cases a : r * 256 + t ≤ k' ∧ k' < r * 256 + t + n
    · rw [if_pos ⟨trivial, a⟩, if_pos ⟨trivial, by omega, by omega⟩, if_pos ⟨trivial, by omega, by omega⟩, if_pos (by omega)]
      congr 1
      omega
    · rw [if_neg (fun q => a q.2)]
      by_cases b : r * 256 ≤ k' ∧ k' < r * 256 + 256
      · rw [if_pos ⟨trivial, b⟩, if_pos ⟨trivial, b⟩, if_neg (by omega)]
      · rw [if_neg (fun q => b q.2), if_neg (fun q => b q.2)]
  · have : qcpy (rdw M r w B H Q o wh) 4 (r * 256 + s) (r * 256 + t) n ob k' = rdw M r w B H Q o wh ob k' := by simp [qcpy, h]
    rw [this]
    simp only [rdw]
    rw [qrow_o M _ h, qrow_o M _ h]
theorem rdw_ok (hw : ∀ k, 0 ≤ k → k < 256 → 0 ≤ w k ∧ w k < 256) : rowOk (rdw M r w B H Q o wh) r := fun i h0 h1 => by rw [rdw_4 ⟨h0, h1⟩]; exact hw i h0 h1
set_option maxHeartbeats 2000000 in
theorem c_opensQuarter {L n q : Nat} {b v : Int} (hL : L ≤ 4) (hn : 1 ≤ n ∧ n ≤ L) (hr : 0 ≤ r ∧ r < 33) (h4 : M 18 4 = r) (hB : B n = b) (hH : H n = v) (hQ : Q n = (q : Int)) (hb : 0 ≤ b ∧ b < p4 ((L : Int) - n)) (hv : 0 ≤ v ∧ v < 256) (hq : q < 4) (hd : hdOk v) :
    qCt mX4_opensQuarter 0 2 [.ref 18] (rdw M r w B H Q (n : Int) wh) (qpg (fun z M' => (hcode v q = 2 ∧ z = 1 ∧ M' = rdw M r w (fup B ((n : Int) - 1) (4 * b + q)) H Q ((n : Int) - 1) wh) ∨
      (hcode v q < 2 ∧ z = 0 ∧ M' = rdw M r (fset w (p4 ((n : Int) - 1) * (4 * b + q)) (p4 ((n : Int) - 1)) (255 * hcode v q)) B H (fup Q n (q + 1)) (n : Int) wh) ∨
      (hcode v q = 3 ∧ z = 0 ∧ M' = rdw M r (fcpy w (p4 ((n : Int) - 1) * (4 * b + lastT v q)) (p4 ((n : Int) - 1) * (4 * b + q)) (p4 ((n : Int) - 1))) B H (fup Q n (q + 1)) (n : Int) wh))) := by
  have hc := hcode_in v q
  obtain ⟨l, rfl⟩ : ∃ l : Nat, n = l + 1 := ⟨n - 1, by omega⟩
  have el : ((l + 1 : Nat) : Int) = (l : Int) + 1 := by omega
  have el2 : ((l + 1 : Nat) : Int) - 1 = (l : Int) := by omega
  rw [el2]
  have hkid := fun (q : Nat) (hq : q < 4) => p4_kid (l := l) (L := L) (x := b) (by omega) hL (by rw [← el]; exact hb) hq
  have hk := hkid q hq
  have hrm := blk_room hL (show l ≤ L by omega) hk
  have hpL := p4_le (a := (L : Int)) (b := 4) (by omega)
  rw [show p4 4 = 256 by decide] at hpL
  have hpl := p4_in (l : Int)
  have hlt := lastT_in v q
  refine q_intro (own := 4) (L := [some (.ref 18), none, none, none, none, none, none]) md_X4_opensQuarter rfl rfl rfl (Nat.le_of_ble_eq_true rfl) (fun X => ?_)
  refine q_aload_n dX4_opensQuarter_0 rfl ?_
  refine q_getr dX4_opensQuarter_1 fl_4_20 rfl rfl ?_
  refine q_aload_n dX4_opensQuarter_4 rfl ?_
  refine q_geti (j := 6) dX4_opensQuarter_5 fl_4_37 rfl rfl rfl ?_
  rw [rdw_op]
  refine q_V1 dX4_opensQuarter_8 ml_4_52 md_X5_get (c_rget (o := 20) (r := 23) (n := 5) rfl rfl (by omega) (by omega)) rfl rfl rfl (by first | decide | omega) (Nat.le_of_ble_eq_true rfl) (Nat.le_of_ble_eq_true rfl) (qk_e ?_)
  rw [rdw_23, hH]
  refine q_istore_n dX4_opensQuarter_11 (Nat.le_of_ble_eq_true rfl) rfl ?_
  refine q_aload_n dX4_opensQuarter_12 rfl ?_
  refine q_getr dX4_opensQuarter_13 fl_4_23 rfl rfl ?_
  refine q_aload_n dX4_opensQuarter_16 rfl ?_
  refine q_geti (j := 6) dX4_opensQuarter_17 fl_4_37 rfl rfl rfl ?_
  rw [rdw_op]
  refine q_V1 dX4_opensQuarter_20 ml_4_52 md_X5_get (c_rget (o := 21) (r := 24) (n := 5) rfl rfl (by omega) (by omega)) rfl rfl rfl (by first | decide | omega) (Nat.le_of_ble_eq_true rfl) (Nat.le_of_ble_eq_true rfl) (qk_e ?_)
  rw [rdw_24, hQ]
  refine q_istore_n dX4_opensQuarter_23 (Nat.le_of_ble_eq_true rfl) rfl ?_
  refine q_iload_n dX4_opensQuarter_24 rfl ?_
  refine q_iload_n dX4_opensQuarter_25 rfl ?_
  refine q_N2 dX4_opensQuarter_26 (by decide +kernel) md_X7_codeIn (c_codeIn (by omega) (by omega)) rfl (by first | decide | omega) (Nat.le_of_ble_eq_true rfl) (Nat.le_of_ble_eq_true rfl) (qk_e ?_)
  refine q_istore_n dX4_opensQuarter_29 (Nat.le_of_ble_eq_true rfl) rfl ?_
  refine q_iconst dX4_opensQuarter_30 ?_
  refine q_aload_n dX4_opensQuarter_31 rfl ?_
  refine q_getr dX4_opensQuarter_32 fl_4_14 rfl rfl ?_
  refine q_aload_n dX4_opensQuarter_35 rfl ?_
  refine q_geti (j := 6) dX4_opensQuarter_36 fl_4_37 rfl rfl rfl ?_
  rw [rdw_op]
  refine q_V1 dX4_opensQuarter_39 ml_4_52 md_X5_get (c_rget (o := 19) (r := 22) (n := 5) rfl rfl (by omega) (by omega)) rfl rfl rfl (by first | decide | omega) (Nat.le_of_ble_eq_true rfl) (Nat.le_of_ble_eq_true rfl) (qk_e ?_)
  rw [rdw_22, hB]
  refine q_imul dX4_opensQuarter_42 ?_
  refine q_istore dX4_opensQuarter_43 (Nat.le_of_ble_eq_true rfl) rfl ?_
  refine q_iload_n dX4_opensQuarter_45 rfl ?_
  refine q_iconst dX4_opensQuarter_46 ?_
  refine q_icmp_ne (tgt := 77) dX4_opensQuarter_47 rfl (by (first | (unfold zR; omega) | (unfold zLR; omega) | omega | (simp only [zR, qup] at *; omega) | (simp [zR, qup]; omega) | (simp [zR, qup]; done))) (by (first | (unfold zR; omega) | (unfold zLR; omega) | omega | (simp only [zR, qup] at *; omega) | (simp [zR, qup]; omega) | (simp [zR, qup]; done))) (fun h47 => ?_) (fun h47 => ?_)
  ·
    refine q_aload_n dX4_opensQuarter_77 rfl ?_
    refine q_geti (j := 6) dX4_opensQuarter_78 fl_4_37 rfl rfl rfl ?_
    rw [rdw_op]
    refine q_iconst dX4_opensQuarter_81 ?_
    refine q_isub dX4_opensQuarter_82 ?_
    rw [el2]
    refine q_N1 dX4_opensQuarter_83 (by decide +kernel) md_X7_cellsIn (c_cellsIn (by omega)) rfl (by first | decide | omega) (Nat.le_of_ble_eq_true rfl) (Nat.le_of_ble_eq_true rfl) (qk_e ?_)
    refine q_istore dX4_opensQuarter_86 (Nat.le_of_ble_eq_true rfl) rfl ?_
    refine q_iload dX4_opensQuarter_88 rfl ?_
    refine q_iload_n dX4_opensQuarter_90 rfl ?_
    refine q_iadd dX4_opensQuarter_91 ?_
    refine q_iload dX4_opensQuarter_92 rfl ?_
    refine q_imul dX4_opensQuarter_94 ?_
    refine q_istore dX4_opensQuarter_95 (Nat.le_of_ble_eq_true rfl) rfl ?_
    refine q_iload_n dX4_opensQuarter_97 rfl ?_
    refine q_iconst dX4_opensQuarter_98 ?_
    refine q_icmp_ne (tgt := 131) dX4_opensQuarter_99 rfl (by (first | (unfold zR; omega) | (unfold zLR; omega) | omega | (simp only [zR, qup] at *; omega) | (simp [zR, qup]; omega) | (simp [zR, qup]; done))) (by (first | (unfold zR; omega) | (unfold zLR; omega) | omega | (simp only [zR, qup] at *; omega) | (simp [zR, qup]; omega) | (simp [zR, qup]; done))) (fun h99 => ?_) (fun h99 => ?_)
    ·
      refine q_aload_n dX4_opensQuarter_131 rfl ?_
      refine q_getr dX4_opensQuarter_132 fl_4_26 rfl rfl ?_
      refine q_aload_n dX4_opensQuarter_135 rfl ?_
      refine q_geti (j := 4) dX4_opensQuarter_136 fl_4_30 rfl rfl rfl ?_
      rw [rdw_r, h4]
      refine q_iload dX4_opensQuarter_139 rfl ?_
      refine q_iload dX4_opensQuarter_141 rfl ?_
      refine q_iload_n dX4_opensQuarter_143 rfl ?_
      refine q_iconst dX4_opensQuarter_144 ?_
      refine q_icmp_ne (tgt := 154) dX4_opensQuarter_145 rfl (by (first | (unfold zR; omega) | (unfold zLR; omega) | omega | (simp only [zR, qup] at *; omega) | (simp [zR, qup]; omega) | (simp [zR, qup]; done))) (by (first | (unfold zR; omega) | (unfold zLR; omega) | omega | (simp only [zR, qup] at *; omega) | (simp [zR, qup]; omega) | (simp [zR, qup]; done))) (fun h145 => ?_) (fun h145 => ?_)
      ·
        refine q_iconst dX4_opensQuarter_154 ?_
        rw [Int.mul_comm (4 * b + q)]
        refine q_V4 dX4_opensQuarter_155 ml_4_83 md_X0_setCells (c_setCells hr (by omega) (by omega)) rfl rfl rfl (by first | decide | omega) (Nat.le_of_ble_eq_true rfl) (Nat.le_of_ble_eq_true rfl) (qk_v ?_)
        rw [rdw_set (by omega)]
        refine q_aload_n dX4_opensQuarter_158 rfl ?_
        refine q_getr dX4_opensQuarter_159 fl_4_23 rfl rfl ?_
        refine q_aload_n dX4_opensQuarter_162 rfl ?_
        refine q_geti (j := 6) dX4_opensQuarter_163 fl_4_37 rfl rfl rfl ?_
        rw [rdw_op]
        refine q_iload_n dX4_opensQuarter_166 rfl ?_
        refine q_iconst dX4_opensQuarter_167 ?_
        refine q_iadd dX4_opensQuarter_168 ?_
        refine q_V2 dX4_opensQuarter_169 ml_4_40 md_X5_set (c_rset (o := 21) (r := 24) (n := 5) rfl rfl (by omega) (by omega)) rfl rfl rfl (by first | decide | omega) (Nat.le_of_ble_eq_true rfl) (Nat.le_of_ble_eq_true rfl) (qk_v ?_)
        rw [rdw_u24]
        refine q_iconst dX4_opensQuarter_172 ?_
        refine q_zreturn (by first | exact Or.inl rfl | exact Or.inr rfl) dX4_opensQuarter_173 ?_
        exact ⟨0, rfl, Or.inr (Or.inl ⟨by omega, rfl, by rw [show 255 * hcode v q = 0 by omega]⟩)⟩
      ·
        refine q_sipush dX4_opensQuarter_148 rfl ?_
        refine q_goto (tgt := 155) dX4_opensQuarter_151 rfl ?_
        rw [Int.mul_comm (4 * b + q)]
        refine q_V4 dX4_opensQuarter_155 ml_4_83 md_X0_setCells (c_setCells hr (by omega) (by omega)) rfl rfl rfl (by first | decide | omega) (Nat.le_of_ble_eq_true rfl) (Nat.le_of_ble_eq_true rfl) (qk_v ?_)
        rw [rdw_set (by omega)]
        refine q_aload_n dX4_opensQuarter_158 rfl ?_
        refine q_getr dX4_opensQuarter_159 fl_4_23 rfl rfl ?_
        refine q_aload_n dX4_opensQuarter_162 rfl ?_
        refine q_geti (j := 6) dX4_opensQuarter_163 fl_4_37 rfl rfl rfl ?_
        rw [rdw_op]
        refine q_iload_n dX4_opensQuarter_166 rfl ?_
        refine q_iconst dX4_opensQuarter_167 ?_
        refine q_iadd dX4_opensQuarter_168 ?_
        refine q_V2 dX4_opensQuarter_169 ml_4_40 md_X5_set (c_rset (o := 21) (r := 24) (n := 5) rfl rfl (by omega) (by omega)) rfl rfl rfl (by first | decide | omega) (Nat.le_of_ble_eq_true rfl) (Nat.le_of_ble_eq_true rfl) (qk_v ?_)
        rw [rdw_u24]
        refine q_iconst dX4_opensQuarter_172 ?_
        refine q_zreturn (by first | exact Or.inl rfl | exact Or.inr rfl) dX4_opensQuarter_173 ?_
        exact ⟨0, rfl, Or.inr (Or.inl ⟨by omega, rfl, by rw [show 255 * hcode v q = 255 by omega]⟩)⟩
    ·
      refine q_aload_n dX4_opensQuarter_102 rfl ?_
      refine q_getr dX4_opensQuarter_103 fl_4_26 rfl rfl ?_
      refine q_aload_n dX4_opensQuarter_106 rfl ?_
      refine q_geti (j := 4) dX4_opensQuarter_107 fl_4_30 rfl rfl rfl ?_
      rw [rdw_r, h4]
      refine q_iload dX4_opensQuarter_110 rfl ?_
      refine q_iload_n dX4_opensQuarter_112 rfl ?_
      refine q_iload_n dX4_opensQuarter_113 rfl ?_
      refine q_S2 dX4_opensQuarter_114 ml_4_73 md_X4_lastTree (c_lastTree hv (by omega)) rfl (by first | decide | omega) (Nat.le_of_ble_eq_true rfl) (Nat.le_of_ble_eq_true rfl) (qk_e ?_)
      refine q_iadd dX4_opensQuarter_117 ?_
      refine q_iload dX4_opensQuarter_118 rfl ?_
      refine q_imul dX4_opensQuarter_120 ?_
      refine q_iload dX4_opensQuarter_121 rfl ?_
      refine q_iload dX4_opensQuarter_123 rfl ?_
      have hl3 := hd q (by omega) h99
      have hk2 := hkid (lastT v q).toNat (by omega)
      rw [show (((lastT v q).toNat : Nat) : Int) = lastT v q by omega] at hk2
      have hrm2 := blk_room hL (show l ≤ L by omega) hk2
      rw [Int.mul_comm (4 * b + lastT v q), Int.mul_comm (4 * b + q)]
      refine q_V4 dX4_opensQuarter_125 ml_4_79 md_X0_copyCells (c_copyCells hr (by omega) (by omega) (by omega)) rfl rfl rfl (by first | decide | omega) (Nat.le_of_ble_eq_true rfl) (Nat.le_of_ble_eq_true rfl) (qk_v ?_)
      refine q_goto (tgt := 158) dX4_opensQuarter_128 rfl ?_
      rw [rdw_cpy (by omega) (by omega)]
      refine q_aload_n dX4_opensQuarter_158 rfl ?_
      refine q_getr dX4_opensQuarter_159 fl_4_23 rfl rfl ?_
      refine q_aload_n dX4_opensQuarter_162 rfl ?_
      refine q_geti (j := 6) dX4_opensQuarter_163 fl_4_37 rfl rfl rfl ?_
      rw [rdw_op]
      refine q_iload_n dX4_opensQuarter_166 rfl ?_
      refine q_iconst dX4_opensQuarter_167 ?_
      refine q_iadd dX4_opensQuarter_168 ?_
      refine q_V2 dX4_opensQuarter_169 ml_4_40 md_X5_set (c_rset (o := 21) (r := 24) (n := 5) rfl rfl (by omega) (by omega)) rfl rfl rfl (by first | decide | omega) (Nat.le_of_ble_eq_true rfl) (Nat.le_of_ble_eq_true rfl) (qk_v ?_)
      rw [rdw_u24]
      refine q_iconst dX4_opensQuarter_172 ?_
      refine q_zreturn (by first | exact Or.inl rfl | exact Or.inr rfl) dX4_opensQuarter_173 ?_
      exact ⟨0, rfl, Or.inr (Or.inr ⟨h99, rfl, rfl⟩)⟩
  ·
    refine q_aload_n dX4_opensQuarter_50 rfl ?_
    refine q_dup dX4_opensQuarter_51 rfl ?_
    refine q_geti (j := 6) dX4_opensQuarter_52 fl_4_37 rfl rfl rfl ?_
    rw [rdw_op]
    refine q_iconst dX4_opensQuarter_55 ?_
    refine q_isub dX4_opensQuarter_56 ?_
    refine q_puti (j := 6) dX4_opensQuarter_57 fl_4_37 rfl rfl rfl rfl rfl ?_
    rw [rdw_uo]
    refine q_aload_n dX4_opensQuarter_60 rfl ?_
    refine q_getr dX4_opensQuarter_61 fl_4_14 rfl rfl ?_
    refine q_aload_n dX4_opensQuarter_64 rfl ?_
    refine q_geti (j := 6) dX4_opensQuarter_65 fl_4_37 rfl rfl rfl ?_
    rw [rdw_op, el2]
    refine q_iload dX4_opensQuarter_68 rfl ?_
    refine q_iload_n dX4_opensQuarter_70 rfl ?_
    refine q_iadd dX4_opensQuarter_71 ?_
    refine q_V2 dX4_opensQuarter_72 ml_4_40 md_X5_set (c_rset (o := 19) (r := 22) (n := 5) rfl rfl (by omega) (by omega)) rfl rfl rfl (by first | decide | omega) (Nat.le_of_ble_eq_true rfl) (Nat.le_of_ble_eq_true rfl) (qk_v ?_)
    rw [rdw_u22]
    refine q_iconst dX4_opensQuarter_75 ?_
    refine q_zreturn (by first | exact Or.inl rfl | exact Or.inr rfl) dX4_opensQuarter_76 ?_
    exact ⟨1, rfl, Or.inl ⟨h47, rfl, rfl⟩⟩
theorem allv_n {l b x v : Int} (hb : x = p4 l * b) (hx : 0 ≤ x ∧ x + p4 l ≤ 256) : (∀ k, 0 ≤ k → k < p4 l → rdw M r w B H Q o wh 4 (r * 256 + (x + k)) = v) ↔ allv w l b v := by
  subst hb
  constructor
  · intro h k k0 k1
    have := h k k0 k1
    rwa [rdw_4 (by omega)] at this
  · intro h k k0 k1
    rw [rdw_4 (by omega)]
    exact h k k0 k1
set_option maxHeartbeats 2000000 in
theorem c_mayStand {L n q : Nat} {b v : Int} (hL : L ≤ 4) (hn : n < L) (hr : 0 ≤ r ∧ r < 33) (h4 : M 18 4 = r) (hB0 : B n = 4 * b + q) (hB : B ((n : Int) + 1) = b) (hH : H ((n : Int) + 1) = v) (hQ : Q ((n : Int) + 1) = (q : Int)) (hb : 0 ≤ b ∧ b < p4 ((L : Int) - (n + 1))) (hv : 0 ≤ v ∧ v < 256) (hq : q < 4) (hw : ∀ k, 0 ≤ k → k < 256 → 0 ≤ w k ∧ w k < 256) :
    qCt mX4_mayStand 0 2 [.ref 18] (rdw M r w B H Q (n : Int) wh) (qpe (zb (¬ bad w n (4 * b + q) (lastB b v q))) (rdw M r w B H Q (n : Int) wh)) := by
  have hkid := fun (q : Nat) (hq : q < 4) => p4_kid (l := n) (L := L) (x := b) (by omega) hL hb hq
  have hk := hkid q hq
  have hrm := blk_room hL (show n ≤ L by omega) hk
  have hpL := p4_le (a := (L : Int)) (b := 4) (by omega)
  rw [show p4 4 = 256 by decide] at hpL
  have hpl := p4_in (n : Int)
  have hlt := lastT_in v q
  have ok := rdw_ok (M := M) (r := r) (B := B) (H := H) (Q := Q) (o := (n : Int)) (wh := wh) hw
  refine q_intro (own := 4) (L := [some (.ref 18), none, none, none, none]) md_X4_mayStand rfl rfl rfl (Nat.le_of_ble_eq_true rfl) (fun X => ?_)
  refine q_aload_n dX4_mayStand_0 rfl ?_
  refine q_geti (j := 6) dX4_mayStand_1 fl_4_37 rfl rfl rfl ?_
  rw [rdw_op]
  refine q_N1 dX4_mayStand_4 (by decide +kernel) md_X7_cellsIn (c_cellsIn (by omega)) rfl (by first | decide | omega) (Nat.le_of_ble_eq_true rfl) (Nat.le_of_ble_eq_true rfl) (qk_e ?_)
  refine q_istore_n dX4_mayStand_7 (Nat.le_of_ble_eq_true rfl) rfl ?_
  refine q_aload_n dX4_mayStand_8 rfl ?_
  refine q_getr dX4_mayStand_9 fl_4_14 rfl rfl ?_
  refine q_aload_n dX4_mayStand_12 rfl ?_
  refine q_geti (j := 6) dX4_mayStand_13 fl_4_37 rfl rfl rfl ?_
  rw [rdw_op]
  refine q_V1 dX4_mayStand_16 ml_4_52 md_X5_get (c_rget (o := 19) (r := 22) (n := 5) rfl rfl (by omega) (by omega)) rfl rfl rfl (by first | decide | omega) (Nat.le_of_ble_eq_true rfl) (Nat.le_of_ble_eq_true rfl) (qk_e ?_)
  rw [rdw_22, hB0]
  refine q_iload_n dX4_mayStand_19 rfl ?_
  refine q_imul dX4_mayStand_20 ?_
  rw [Int.mul_comm (4 * b + (q : Int))]
  refine q_istore_n dX4_mayStand_21 (Nat.le_of_ble_eq_true rfl) rfl ?_
  refine q_aload_n dX4_mayStand_22 rfl ?_
  refine q_getr dX4_mayStand_23 fl_4_26 rfl rfl ?_
  refine q_aload_n dX4_mayStand_26 rfl ?_
  refine q_geti (j := 4) dX4_mayStand_27 fl_4_30 rfl rfl rfl ?_
  rw [rdw_r, h4]
  refine q_iload_n dX4_mayStand_30 rfl ?_
  refine q_iload_n dX4_mayStand_31 rfl ?_
  refine q_iconst dX4_mayStand_32 ?_
  refine q_V4 dX4_mayStand_33 ml_4_86 md_X0_isAll (c_isAll hr (by omega) (by omega) (by omega) ok) rfl rfl rfl (by first | decide | omega) (Nat.le_of_ble_eq_true rfl) (Nat.le_of_ble_eq_true rfl) (qk_e ?_)
  rw [zb_c (allv_n rfl (by omega))]
  refine q_if_ne (tgt := 58) dX4_mayStand_36 rfl (by have := zb_01 (allv w n (4 * b + q) 0); unfold zR; omega) (fun h36 => ?_) (fun h36 => ?_)
  ·
    refine q_iconst dX4_mayStand_58 ?_
    refine q_zreturn (by first | exact Or.inl rfl | exact Or.inr rfl) dX4_mayStand_59 ?_
    exact ⟨by rw [zb_f (fun ww => ww (Or.inl (zb_1.mp (by have := zb_01 (allv w n (4 * b + q) 0); omega))))], rfl⟩
  ·
    refine q_aload_n dX4_mayStand_39 rfl ?_
    refine q_getr dX4_mayStand_40 fl_4_26 rfl rfl ?_
    refine q_aload_n dX4_mayStand_43 rfl ?_
    refine q_geti (j := 4) dX4_mayStand_44 fl_4_30 rfl rfl rfl ?_
    rw [rdw_r, h4]
    refine q_iload_n dX4_mayStand_47 rfl ?_
    refine q_iload_n dX4_mayStand_48 rfl ?_
    refine q_sipush dX4_mayStand_49 rfl ?_
    refine q_V4 dX4_mayStand_52 ml_4_86 md_X0_isAll (c_isAll hr (by omega) (by omega) (by omega) ok) rfl rfl rfl (by first | decide | omega) (Nat.le_of_ble_eq_true rfl) (Nat.le_of_ble_eq_true rfl) (qk_e ?_)
    rw [zb_c (allv_n rfl (by omega))]
    refine q_if_eq (tgt := 60) dX4_mayStand_55 rfl (by have := zb_01 (allv w n (4 * b + q) 255); unfold zR; omega) (fun h55 => ?_) (fun h55 => ?_)
    ·
      refine q_aload_n dX4_mayStand_60 rfl ?_
      refine q_getr dX4_mayStand_61 fl_4_20 rfl rfl ?_
      refine q_aload_n dX4_mayStand_64 rfl ?_
      refine q_geti (j := 6) dX4_mayStand_65 fl_4_37 rfl rfl rfl ?_
      rw [rdw_op]
      refine q_iconst dX4_mayStand_68 ?_
      refine q_iadd dX4_mayStand_69 ?_
      refine q_V1 dX4_mayStand_70 ml_4_52 md_X5_get (c_rget (o := 20) (r := 23) (n := 5) rfl rfl (by omega) (by omega)) rfl rfl rfl (by first | decide | omega) (Nat.le_of_ble_eq_true rfl) (Nat.le_of_ble_eq_true rfl) (qk_e ?_)
      rw [rdw_23, hH]
      refine q_aload_n dX4_mayStand_73 rfl ?_
      refine q_getr dX4_mayStand_74 fl_4_23 rfl rfl ?_
      refine q_aload_n dX4_mayStand_77 rfl ?_
      refine q_geti (j := 6) dX4_mayStand_78 fl_4_37 rfl rfl rfl ?_
      rw [rdw_op]
      refine q_iconst dX4_mayStand_81 ?_
      refine q_iadd dX4_mayStand_82 ?_
      refine q_V1 dX4_mayStand_83 ml_4_52 md_X5_get (c_rget (o := 21) (r := 24) (n := 5) rfl rfl (by omega) (by omega)) rfl rfl rfl (by first | decide | omega) (Nat.le_of_ble_eq_true rfl) (Nat.le_of_ble_eq_true rfl) (qk_e ?_)
      rw [rdw_24, hQ]
      refine q_S2 dX4_mayStand_86 ml_4_73 md_X4_lastTree (c_lastTree hv (by omega)) rfl (by first | decide | omega) (Nat.le_of_ble_eq_true rfl) (Nat.le_of_ble_eq_true rfl) (qk_e ?_)
      refine q_istore_n dX4_mayStand_89 (Nat.le_of_ble_eq_true rfl) rfl ?_
      refine q_iconst dX4_mayStand_90 ?_
      refine q_aload_n dX4_mayStand_91 rfl ?_
      refine q_getr dX4_mayStand_92 fl_4_14 rfl rfl ?_
      refine q_aload_n dX4_mayStand_95 rfl ?_
      refine q_geti (j := 6) dX4_mayStand_96 fl_4_37 rfl rfl rfl ?_
      rw [rdw_op]
      refine q_iconst dX4_mayStand_99 ?_
      refine q_iadd dX4_mayStand_100 ?_
      refine q_V1 dX4_mayStand_101 ml_4_52 md_X5_get (c_rget (o := 19) (r := 22) (n := 5) rfl rfl (by omega) (by omega)) rfl rfl rfl (by first | decide | omega) (Nat.le_of_ble_eq_true rfl) (Nat.le_of_ble_eq_true rfl) (qk_e ?_)
      rw [rdw_22, hB]
      refine q_imul dX4_mayStand_104 ?_
      refine q_iload_n dX4_mayStand_105 rfl ?_
      refine q_iadd dX4_mayStand_106 ?_
      refine q_iload_n dX4_mayStand_107 rfl ?_
      refine q_imul dX4_mayStand_108 ?_
      rw [Int.mul_comm (4 * b + lastT v q)]
      have n0 : ¬ allv w n (4 * b + q) 0 := zb_0.mp h36
      have n1 : ¬ allv w n (4 * b + q) 255 := zb_0.mp h55
      refine q_istore dX4_mayStand_109 (Nat.le_of_ble_eq_true rfl) rfl ?_
      refine q_iload_n dX4_mayStand_111 rfl ?_
      refine q_iconst dX4_mayStand_112 ?_
      refine q_icmp_eq (tgt := 138) dX4_mayStand_113 rfl (by (first | (unfold zR; omega) | (unfold zLR; omega) | omega | (simp only [zR, qup] at *; omega) | (simp [zR, qup]; omega) | (simp [zR, qup]; done))) (by (first | (unfold zR; omega) | (unfold zLR; omega) | omega | (simp only [zR, qup] at *; omega) | (simp [zR, qup]; omega) | (simp [zR, qup]; done))) (fun h113 => ?_) (fun h113 => ?_)
      ·
        refine q_iconst dX4_mayStand_138 ?_
        refine q_goto (tgt := 143) dX4_mayStand_139 rfl ?_
        refine q_zreturn (by first | exact Or.inl rfl | exact Or.inr rfl) dX4_mayStand_143 ?_
        exact ⟨by rw [zb_t (fun ww => by
          rcases ww with ww | ww | ww
          · exact n0 ww
          · exact n1 ww
          · exact ww.1 (if_pos h113))], rfl⟩
      ·
        refine q_aload_n dX4_mayStand_116 rfl ?_
        refine q_getr dX4_mayStand_117 fl_4_26 rfl rfl ?_
        refine q_aload_n dX4_mayStand_120 rfl ?_
        refine q_geti (j := 4) dX4_mayStand_121 fl_4_30 rfl rfl rfl ?_
        rw [rdw_r, h4]
        refine q_iload dX4_mayStand_124 rfl ?_
        refine q_aload_n dX4_mayStand_126 rfl ?_
        refine q_geti (j := 4) dX4_mayStand_127 fl_4_30 rfl rfl rfl ?_
        rw [rdw_r, h4]
        refine q_iload_n dX4_mayStand_130 rfl ?_
        refine q_iload_n dX4_mayStand_131 rfl ?_
        have hk2 := hkid (lastT v q).toNat (by omega)
        rw [show (((lastT v q).toNat : Nat) : Int) = lastT v q by omega] at hk2
        have hrm2 := blk_room hL (show n ≤ L by omega) hk2
        refine q_V5 dX4_mayStand_132 ml_4_90 md_X0_unlikeBits (c_unlikeBits hr (by omega) hr (by omega) (by omega) ok ok) rfl rfl rfl (by first | decide | omega) (Nat.le_of_ble_eq_true rfl) (Nat.le_of_ble_eq_true rfl) (qk_e ?_)
        have hz : ∀ i, (0 : Int) ≤ i → i < 0 + (((p4 n).toNat : Nat) : Int) → 0 ≤ (fun i => zpop (zxor (rdw M r w B H Q (n : Int) wh 4 (r * 256 + (p4 n * (4 * b + lastT v q) + i))) (rdw M r w B H Q (n : Int) wh 4 (r * 256 + (p4 n * (4 * b + q) + i))))) i := fun i _ _ => (zpop_in _).1
        have hs0 := zsum_00 hz
        have hsR := zsum_in (f := fun i => zpop (zxor (rdw M r w B H Q (n : Int) wh 4 (r * 256 + (p4 n * (4 * b + lastT v q) + i))) (rdw M r w B H Q (n : Int) wh 4 (r * 256 + (p4 n * (4 * b + q) + i))))) (a := 0) (B := 8) (n := (p4 n).toNat) (fun i _ _ => zpop_in _)
        have hsame : (∀ i, (0 : Int) ≤ i → i < 0 + (((p4 n).toNat : Nat) : Int) → (fun i => zpop (zxor (rdw M r w B H Q (n : Int) wh 4 (r * 256 + (p4 n * (4 * b + lastT v q) + i))) (rdw M r w B H Q (n : Int) wh 4 (r * 256 + (p4 n * (4 * b + q) + i))))) i = 0) ↔ same w n (4 * b + lastT v q) (4 * b + q) := by
          constructor
          · intro h i i0 i1
            have := (zpop_x (ok _ (by omega) (by omega)) (ok _ (by omega) (by omega))).mp (h i i0 (by omega))
            rwa [rdw_4 (by omega), rdw_4 (by omega)] at this
          · intro h i i0 i1
            refine (zpop_x (ok _ (by omega) (by omega)) (ok _ (by omega) (by omega))).mpr ?_
            rw [rdw_4 (by omega), rdw_4 (by omega)]
            exact h i i0 (by omega)
        generalize zsum (fun i => zpop (zxor (rdw M r w B H Q (n : Int) wh 4 (r * 256 + (p4 n * (4 * b + lastT v q) + i))) (rdw M r w B H Q (n : Int) wh 4 (r * 256 + (p4 n * (4 * b + q) + i))))) 0 (p4 n).toNat = sm at hs0 hsR ⊢
        refine q_if_le (tgt := 142) dX4_mayStand_135 rfl (by (first | (unfold zR; omega) | (unfold zLR; omega) | omega | (simp only [zR, qup] at *; omega) | (simp [zR, qup]; omega) | (simp [zR, qup]; done))) (fun h135 => ?_) (fun h135 => ?_)
        ·
          refine q_iconst dX4_mayStand_142 ?_
          refine q_zreturn (by first | exact Or.inl rfl | exact Or.inr rfl) dX4_mayStand_143 ?_
          exact ⟨by rw [zb_f (fun ww => ww (Or.inr (Or.inr ⟨by unfold lastB; rw [if_neg h113]; omega, by unfold lastB; rw [if_neg h113]; exact hsame.mp (hs0.mp (by omega))⟩)))], rfl⟩
        ·
          refine q_iconst dX4_mayStand_138 ?_
          refine q_goto (tgt := 143) dX4_mayStand_139 rfl ?_
          refine q_zreturn (by first | exact Or.inl rfl | exact Or.inr rfl) dX4_mayStand_143 ?_
          exact ⟨by rw [zb_t (fun ww => by
            rcases ww with ww | ww | ww
            · exact n0 ww
            · exact n1 ww
            · have w2 := ww.2
              unfold lastB at w2
              rw [if_neg h113] at w2
              have := hs0.mpr (hsame.mpr w2)
              omega)], rfl⟩
    ·
      refine q_iconst dX4_mayStand_58 ?_
      refine q_zreturn (by first | exact Or.inl rfl | exact Or.inr rfl) dX4_mayStand_59 ?_
      exact ⟨by rw [zb_f (fun ww => ww (Or.inr (Or.inl (zb_1.mp (by have := zb_01 (allv w n (4 * b + q) 255); omega)))))], rfl⟩
end RW


/-! The class: what is asked of two maps, and of all. -/
theorem onesI_c {c c' : Int → Int} (h : ∀ i, 0 ≤ i → i < 256 → c i = c' i) (f t : Int) : onesI c f t = onesI c' f t := zsum_congr (fun p h0 h1 => by
  unfold ind bitP
  rw [h (p / 8) (by omega) (by omega)])
theorem row_at {M : qM} {r : Int} {F : Int → Int} : ∀ i, 0 ≤ i → i < 256 → rowc (qrow M r F) r i = F i := fun i h0 h1 => qrow_at M F ⟨h0, h1⟩
theorem tsz_row {c c' : Int → Int} {L : Nat} (hL : L ≤ 4) (h : ∀ i, 0 ≤ i → i < 256 → c i = c' i) : tsz c L 0 = tsz c' L 0 := tsz_c L hL 0 (Int.le_refl 0) (fun k h0 h1 => by
  have := p4_in (L : Int)
  rw [Int.mul_zero, Int.zero_add]
  exact h k h0 (by omega))
theorem Scr_lv {M M' : qM} (h : Scr M M') : M' 0 10 = M 0 10 := by rw [h.1 0 (by unfold sfr; decide)]
theorem Scr_mp {M M' : qM} (h : Scr M M') : M' 0 11 = M 0 11 := by rw [h.1 0 (by unfold sfr; decide)]
theorem Scr_cell {M M' : qM} (h : Scr M M') {k : Int} (hk : 0 ≤ k ∧ k < 6) : ∀ i, 0 ≤ i → i < 256 → rowc M' k i = rowc M k i := fun i h0 h1 => h.2.1 _ (Or.inl (by omega))
/-- the bits that differ in n cells -/
def unl (c c' : Int → Int) (f g n : Int) : Int := zsum (fun i => zpop (zxor (c (f + i)) (c' (g + i)))) 0 n.toNat
theorem unl_in (c c' : Int → Int) (f g : Int) {n : Int} (h : 0 ≤ n) : 0 ≤ unl c c' f g n ∧ unl c c' f g n ≤ n * 8 := by
  have := zsum_in (f := fun i => zpop (zxor (c (f + i)) (c' (g + i)))) (a := 0) (B := 8) (n := n.toNat) (fun j _ _ => zpop_in _)
  rw [Int.toNat_of_nonneg h] at this
  exact this
theorem c_unl {a f b g n : Int} {M : qM} (ha : 0 ≤ a ∧ a < 33) (hf : 0 ≤ f ∧ f + n ≤ 256) (hb : 0 ≤ b ∧ b < 33) (hg : 0 ≤ g ∧ g + n ≤ 256) (hn : 0 ≤ n) (h : CI M) : qCt mX0_unlikeBits 0 1 [.ref 3, .int (zI a), .int (zI f), .int (zI b), .int (zI g), .int (zI n)] M (qpe (unl (rowc M a) (rowc M b) f g n) M) := c_unlikeBits ha hf hb hg hn (CI_ok h ha) (CI_ok h hb)
/-- the least of a row of numbers, the first such; one is left out -/
def bst (f : Int → Int) (sk a : Int) : Nat → Int
  | 0 => -1
  | n + 1 => if a + n ≠ sk ∧ (bst f sk a n = -1 ∨ f (a + n) < f (bst f sk a n)) then a + n else bst f sk a n
theorem bst_in (f : Int → Int) (sk : Int) {a : Int} (ha : 0 ≤ a) : ∀ n : Nat, bst f sk a n = -1 ∨ (a ≤ bst f sk a n ∧ bst f sk a n < a + n ∧ bst f sk a n ≠ sk) := by
  intro n
  induction n with
  | zero => exact Or.inl rfl
  | succ n ih =>
    rw [bst]
    by_cases h : a + n ≠ sk ∧ (bst f sk a n = -1 ∨ f (a + n) < f (bst f sk a n))
    · rw [if_pos h]; exact Or.inr ⟨by omega, by omega, h.1⟩
    · rw [if_neg h]
      rcases ih with e | e
      · exact Or.inl e
      · exact Or.inr ⟨e.1, by omega, e.2.2⟩
section GG
variable {M : qM} {L : Nat} {k o l q : Int}
set_option maxHeartbeats 2000000 in
theorem c_sizeOfAll (hC : CI M) (hL : M 0 10 = (L : Int)) (hLv : 1 ≤ L ∧ L ≤ 4) : qCt mX7_sizeOfAll 0 5 [.ref 0] M (qpg (fun z M' => z = zsum (fun k => tsz (rowc M k) L 0) 0 (M 0 11).toNat ∧ Scr M M')) := by
  have hmp := CI_maps hC
  have ht2 := tmax_in L hLv.2
  refine q_intro (own := 7) (L := [some (.ref 0), none, none]) md_X7_sizeOfAll rfl rfl rfl (Nat.le_of_ble_eq_true rfl) (fun X => ?_)
  refine q_iconst dX7_sizeOfAll_0 ?_
  refine q_istore_n dX7_sizeOfAll_1 (Nat.le_of_ble_eq_true rfl) rfl ?_
  refine q_iconst dX7_sizeOfAll_2 ?_
  refine q_istore_n dX7_sizeOfAll_3 (Nat.le_of_ble_eq_true rfl) rfl ?_
  refine q_lp (α := Int × qM) (fun x => (M 0 11 - x.1).toNat) (fun x => 0 ≤ x.1 ∧ x.1 ≤ M 0 11 ∧ Scr M x.2) (fun x => [some (.ref 0), some (.int (zI (zsum (fun k => tsz (rowc M k) L 0) 0 x.1.toNat))), some (.int (zI x.1))]) (fun x => x.2) (0, M) rfl rfl ⟨by omega, by omega, Scr_rf hC⟩ (fun x hx ih => ?_)
  obtain ⟨i, M1⟩ := x
  obtain ⟨hi0, hi1, hS⟩ := hx
  dsimp only at hi0 hi1 hS ih ⊢
  have hzs := zsum_s (fun k => tsz (rowc M k) L 0) hi0
  have hzi := zsum_in (f := fun k => tsz (rowc M k) L 0) (a := 0) (B := 341) (n := i.toNat) (fun j _ _ => by have := tsz_in (rowc M j) L 0; omega)
  have hti := tsz_in (rowc M i) L 0
  refine q_iload_n dX7_sizeOfAll_4 rfl ?_
  refine q_aload_n dX7_sizeOfAll_5 rfl ?_
  refine q_geti (j := 11) dX7_sizeOfAll_6 fl_7_111 rfl rfl rfl ?_
  rw [Scr_mp hS]
  refine q_icmp_ge (tgt := 26) dX7_sizeOfAll_9 rfl (by (first | (unfold zR; omega) | (unfold zLR; omega) | omega | (simp only [zR, qup] at *; omega) | (simp [zR, qup]; omega) | (simp [zR, qup]; done))) (by (first | (unfold zR; omega) | (unfold zLR; omega) | omega | (simp only [zR, qup] at *; omega) | (simp [zR, qup]; omega) | (simp [zR, qup]; done))) (fun h9 => ?_) (fun h9 => ?_)
  rotate_left
  ·
    refine q_iload_n dX7_sizeOfAll_12 rfl ?_
    refine q_aload_n dX7_sizeOfAll_13 rfl ?_
    refine q_iload_n dX7_sizeOfAll_14 rfl ?_
    refine q_V1 dX7_sizeOfAll_15 ml_7_202 md_X7_sizeOfRow (c_sizeR (Scr_CI hC hS) (by rw [Scr_lv hS]; exact hL) hLv (by omega)) rfl rfl rfl (by first | decide | omega) (Nat.le_of_ble_eq_true rfl) (Nat.le_of_ble_eq_true rfl) (qk_g (fun z15 N15 hq15 => ?_))
    obtain ⟨hz, hS2⟩ := hq15
    rw [tsz_row hLv.2 (Scr_cell hS (by omega))] at hz
    subst hz
    refine q_iadd dX7_sizeOfAll_18 ?_
    refine q_istore_n dX7_sizeOfAll_19 (Nat.le_of_ble_eq_true rfl) rfl ?_
    refine q_iinc dX7_sizeOfAll_20 rfl (Nat.le_of_ble_eq_true rfl) rfl ?_
    refine q_goto (tgt := 4) dX7_sizeOfAll_23 rfl ?_
    exact ih (i + 1, N15) _ _ ⟨by dsimp only; omega, by dsimp only; omega, Scr_tr hS hS2⟩ (by dsimp only; omega) (by dsimp only; rw [hzs]; rfl) rfl
  refine q_iload_n dX7_sizeOfAll_26 rfl ?_
  refine q_ireturn dX7_sizeOfAll_27 ?_
  exact ⟨_, rfl, by rw [show i = M 0 11 by omega], hS⟩
set_option maxHeartbeats 2000000 in
theorem k_cheapest (hC : CI M) (hL : M 0 10 = (L : Int)) : qCt mX7_cheapest 1 9 [.ref 0] M (qpx (gor (gText M) 0) (fun z M' => z = bst (fun k => tsz (rowc M k) L 0) (-1) 0 (M 0 11).toNat ∧ Scr M M') (Scr M)) := by
  have hmp := CI_maps hC
  refine q_intro (own := 7) (L := [some (.ref 0), none, none, none, none]) md_X7_cheapest rfl rfl rfl (Nat.le_of_ble_eq_true rfl) (fun X => ?_)
  refine q_aload_n dX7_cheapest_0 rfl ?_
  refine q_V0 dX7_cheapest_1 ml_7_141 md_X7_requireText (c_requireText hC) rfl rfl rfl (by first | decide | omega) (Nat.le_of_ble_eq_true rfl) (Nat.le_of_ble_eq_true rfl) (qk_G (fun hq1 => ?_) (Scr_rf hC))
  have hLv := CI_lv hC hL hq1
  have ht2 := tmax_in L hLv.2
  refine q_iconst dX7_cheapest_4 ?_
  refine q_istore_n dX7_cheapest_5 (Nat.le_of_ble_eq_true rfl) rfl ?_
  refine q_iconst dX7_cheapest_6 ?_
  refine q_istore_n dX7_cheapest_7 (Nat.le_of_ble_eq_true rfl) rfl ?_
  refine q_iconst dX7_cheapest_8 ?_
  refine q_istore_n dX7_cheapest_9 (Nat.le_of_ble_eq_true rfl) rfl ?_
  refine q_lp (α := Nat × qM) (fun x => (M 0 11).toNat - x.1) (fun x => (x.1 : Int) ≤ M 0 11 ∧ Scr M x.2) (fun x => [some (.ref 0), some (.int (zI (bst (fun k => tsz (rowc M k) L 0) (-1) 0 x.1))), some (.int (zI (if bst (fun k => tsz (rowc M k) L 0) (-1) 0 x.1 = -1 then 0 else tsz (rowc M (bst (fun k => tsz (rowc M k) L 0) (-1) 0 x.1)) L 0))), some (.int (zI (x.1 : Int))), none]) (fun x => x.2) (0, M) rfl rfl ⟨by dsimp only; omega, Scr_rf hC⟩ (fun x hx ih => ?_)
  obtain ⟨i, M1⟩ := x
  obtain ⟨hi1, hS⟩ := hx
  dsimp only at hi1 hS ih ⊢
  have hb := bst_in (fun k => tsz (rowc M k) L 0) (-1) (Int.le_refl 0) i
  have hbs : bst (fun k => tsz (rowc M k) L 0) (-1) 0 (i + 1) = if (0 : Int) + i ≠ -1 ∧ (bst (fun k => tsz (rowc M k) L 0) (-1) 0 i = -1 ∨ tsz (rowc M (0 + i)) L 0 < tsz (rowc M (bst (fun k => tsz (rowc M k) L 0) (-1) 0 i)) L 0) then 0 + (i : Int) else bst (fun k => tsz (rowc M k) L 0) (-1) 0 i := rfl
  rw [Int.zero_add] at hbs
  generalize hg : bst (fun k => tsz (rowc M k) L 0) (-1) 0 i = w at hb hbs
  have hti := tsz_in (rowc M i) L 0
  have htw := tsz_in (rowc M w) L 0
  have hiw : 0 ≤ (if w = -1 then 0 else tsz (rowc M w) L 0) ∧ (if w = -1 then 0 else tsz (rowc M w) L 0) ≤ 341 := by
    by_cases e : w = -1
    · rw [if_pos e]; omega
    · rw [if_neg e]; omega
  refine q_iload_n dX7_cheapest_10 rfl ?_
  refine q_aload_n dX7_cheapest_11 rfl ?_
  refine q_geti (j := 11) dX7_cheapest_12 fl_7_111 rfl rfl rfl ?_
  rw [Scr_mp hS]
  refine q_icmp_ge (tgt := 47) dX7_cheapest_15 rfl (by (first | (unfold zR; omega) | (unfold zLR; omega) | omega | (simp only [zR, qup] at *; omega) | (simp [zR, qup]; omega) | (simp [zR, qup]; done))) (by (first | (unfold zR; omega) | (unfold zLR; omega) | omega | (simp only [zR, qup] at *; omega) | (simp [zR, qup]; omega) | (simp [zR, qup]; done))) (fun h15 => ?_) (fun h15 => ?_)
  rotate_left
  ·
    refine q_aload_n dX7_cheapest_18 rfl ?_
    refine q_iload_n dX7_cheapest_19 rfl ?_
    refine q_V1 dX7_cheapest_20 ml_7_202 md_X7_sizeOfRow (c_sizeR (Scr_CI hC hS) (by rw [Scr_lv hS]; exact hL) hLv (by omega)) rfl rfl rfl (by first | decide | omega) (Nat.le_of_ble_eq_true rfl) (Nat.le_of_ble_eq_true rfl) (qk_g (fun z20 N20 hq20 => ?_))
    obtain ⟨hz, hS2⟩ := hq20
    rw [tsz_row hLv.2 (Scr_cell hS (by omega))] at hz
    subst hz
    refine q_istore dX7_cheapest_23 (Nat.le_of_ble_eq_true rfl) rfl ?_
    refine q_iload_n dX7_cheapest_25 rfl ?_
    refine q_iconst dX7_cheapest_26 ?_
    refine q_icmp_eq (tgt := 36) dX7_cheapest_27 rfl (by (first | (unfold zR; omega) | (unfold zLR; omega) | omega | (simp only [zR, qup] at *; omega) | (simp [zR, qup]; omega) | (simp [zR, qup]; done))) (by (first | (unfold zR; omega) | (unfold zLR; omega) | omega | (simp only [zR, qup] at *; omega) | (simp [zR, qup]; omega) | (simp [zR, qup]; done))) (fun h27 => ?_) (fun h27 => ?_)
    ·
      refine q_iload_n dX7_cheapest_36 rfl ?_
      refine q_istore_n dX7_cheapest_37 (Nat.le_of_ble_eq_true rfl) rfl ?_
      refine q_iload dX7_cheapest_38 rfl ?_
      refine q_istore_n dX7_cheapest_40 (Nat.le_of_ble_eq_true rfl) rfl ?_
      refine q_iinc dX7_cheapest_41 rfl (Nat.le_of_ble_eq_true rfl) rfl ?_
      refine q_goto (tgt := 10) dX7_cheapest_44 rfl ?_
      have e2 : (if (i : Int) = -1 then 0 else tsz (rowc M i) L 0) = tsz (rowc M i) L 0 := if_neg (by omega)
      have e1 : bst (fun k => tsz (rowc M k) L 0) (-1) 0 (i + 1) = i := by rw [hbs, if_pos ⟨by omega, Or.inl h27⟩]
      refine q_wk _ ?_ (ih (i + 1, N20) _ _ ⟨by dsimp only; omega, Scr_tr hS hS2⟩ (by dsimp only; omega) rfl rfl)
      simp only [wkB, e1, e2]
      (repeat (first | exact rfl | exact trivial | refine ⟨rfl, ?_⟩))
    ·
      refine q_iload dX7_cheapest_30 rfl ?_
      refine q_iload_n dX7_cheapest_32 rfl ?_
      refine q_icmp_ge (tgt := 41) dX7_cheapest_33 rfl (by (first | (unfold zR; omega) | (unfold zLR; omega) | omega | (simp only [zR, qup] at *; omega) | (simp [zR, qup]; omega) | (simp [zR, qup]; done))) (by (first | (unfold zR; omega) | (unfold zLR; omega) | omega | (simp only [zR, qup] at *; omega) | (simp [zR, qup]; omega) | (simp [zR, qup]; done))) (fun h33 => ?_) (fun h33 => ?_)
      ·
        refine q_iinc dX7_cheapest_41 rfl (Nat.le_of_ble_eq_true rfl) rfl ?_
        refine q_goto (tgt := 10) dX7_cheapest_44 rfl ?_
        have e1 : bst (fun k => tsz (rowc M k) L 0) (-1) 0 (i + 1) = w := by rw [hbs, if_neg (fun q => q.2.elim (fun q => h27 q) (fun q => by rw [if_neg h27] at h33; omega))]
        refine q_wk _ ?_ (ih (i + 1, N20) _ _ ⟨by dsimp only; omega, Scr_tr hS hS2⟩ (by dsimp only; omega) rfl rfl)
        simp only [wkB, e1]
        (repeat (first | exact rfl | exact trivial | refine ⟨rfl, ?_⟩))
      ·
        refine q_iload_n dX7_cheapest_36 rfl ?_
        refine q_istore_n dX7_cheapest_37 (Nat.le_of_ble_eq_true rfl) rfl ?_
        refine q_iload dX7_cheapest_38 rfl ?_
        refine q_istore_n dX7_cheapest_40 (Nat.le_of_ble_eq_true rfl) rfl ?_
        refine q_iinc dX7_cheapest_41 rfl (Nat.le_of_ble_eq_true rfl) rfl ?_
        refine q_goto (tgt := 10) dX7_cheapest_44 rfl ?_
        have e2 : (if (i : Int) = -1 then 0 else tsz (rowc M i) L 0) = tsz (rowc M i) L 0 := if_neg (by omega)
        have e1 : bst (fun k => tsz (rowc M k) L 0) (-1) 0 (i + 1) = i := by rw [hbs, if_pos ⟨by omega, Or.inr (by rw [if_neg h27] at h33; omega)⟩]
        refine q_wk _ ?_ (ih (i + 1, N20) _ _ ⟨by dsimp only; omega, Scr_tr hS hS2⟩ (by dsimp only; omega) rfl rfl)
        simp only [wkB, e1, e2]
        (repeat (first | exact rfl | exact trivial | refine ⟨rfl, ?_⟩))
  refine q_iload_n dX7_cheapest_47 rfl ?_
  refine q_ireturn dX7_cheapest_48 ?_
  exact gxk rfl ⟨by rw [← hg, show (M 0 11).toNat = i by omega], hS⟩
set_option maxHeartbeats 1000000 in
theorem k_common (hC : CI M) (hL : M 0 10 = (L : Int)) (hk : zR k) (ho : zR o) : qCt mX7_common 3 9 [.ref 0, .int (zI k), .int (zI o)] M (qpx (gor (gText M) (gor (gMap M k) (gor (gMap M o) 0))) (fun z M' => z = onesI (fun i => mgF 1 (rowc M k i) (rowc M o i)) 0 (8 * p4 L - 1) ∧ Scr M M') (Scr M)) := by
  refine q_intro (own := 7) (L := [some (.ref 0), some (.int (zI k)), some (.int (zI o))]) md_X7_common rfl rfl rfl (Nat.le_of_ble_eq_true rfl) (fun X => ?_)
  refine q_aload_n dX7_common_0 rfl ?_
  refine q_V0 dX7_common_1 ml_7_141 md_X7_requireText (c_requireText hC) rfl rfl rfl (by first | decide | omega) (Nat.le_of_ble_eq_true rfl) (Nat.le_of_ble_eq_true rfl) (qk_G (fun hq1 => ?_) (Scr_rf hC))
  have hLv := CI_lv hC hL hq1
  refine q_aload_n dX7_common_4 rfl ?_
  refine q_iload_n dX7_common_5 rfl ?_
  refine q_V1 dX7_common_6 ml_7_172 md_X7_requireMap (c_requireMap hC hk) rfl rfl rfl (by first | decide | omega) (Nat.le_of_ble_eq_true rfl) (Nat.le_of_ble_eq_true rfl) (qk_G (fun hq6 => ?_) (Scr_rf hC))
  refine q_aload_n dX7_common_9 rfl ?_
  refine q_iload_n dX7_common_10 rfl ?_
  refine q_V1 dX7_common_11 ml_7_172 md_X7_requireMap (c_requireMap hC ho) rfl rfl rfl (by first | decide | omega) (Nat.le_of_ble_eq_true rfl) (Nat.le_of_ble_eq_true rfl) (qk_G (fun hq11 => ?_) (Scr_rf hC))
  have hmk := CI_mp hC hq6
  have hmo := CI_mp hC hq11
  have hS : Scr M (qrow M 32 (fun i => mgF 1 (rowc M k i) (rowc M o i))) := Scr_32 hC (fun i h0 h1 => mgF_in (CI_ok hC (by omega) i h0 h1) (CI_ok hC (by omega) i h0 h1))
  refine q_aload_n dX7_common_14 rfl ?_
  refine q_getr dX7_common_15 fl_7_26 rfl rfl ?_
  refine q_iconst dX7_common_18 ?_
  refine q_iload_n dX7_common_19 rfl ?_
  refine q_iload_n dX7_common_20 rfl ?_
  refine q_bipush dX7_common_21 rfl ?_
  refine q_V4 dX7_common_23 ml_7_257 md_X0_merge (c_merge (by omega) (by omega) (by omega) (by omega)) rfl rfl rfl (by first | decide | omega) (Nat.le_of_ble_eq_true rfl) (Nat.le_of_ble_eq_true rfl) (qk_v ?_)
  refine q_aload_n dX7_common_26 rfl ?_
  refine q_bipush dX7_common_27 rfl ?_
  refine q_V1 dX7_common_29 ml_7_254 md_X7_onesOfRow (c_onesOfRow (Scr_CI hC hS) (by rw [Scr_lv hS]; exact hL) hLv (by omega)) rfl rfl rfl (by first | decide | omega) (Nat.le_of_ble_eq_true rfl) (Nat.le_of_ble_eq_true rfl) (qk_e ?_)
  refine q_ireturn dX7_common_32 ?_
  exact gxk rfl ⟨onesI_c row_at _ _, hS⟩
set_option maxHeartbeats 1000000 in
theorem k_isWithin (hC : CI M) (hL : M 0 10 = (L : Int)) (hk : zR k) (ho : zR o) : qCt mX7_isWithin 3 9 [.ref 0, .int (zI k), .int (zI o)] M (qpx (gor (gText M) (gor (gMap M k) (gor (gMap M o) 0))) (fun z M' => z = zb (onesI (fun i => mgF 2 (rowc M k i) (rowc M o i)) 0 (8 * p4 L - 1) = 0) ∧ Scr M M') (Scr M)) := by
  refine q_intro (own := 7) (L := [some (.ref 0), some (.int (zI k)), some (.int (zI o))]) md_X7_isWithin rfl rfl rfl (Nat.le_of_ble_eq_true rfl) (fun X => ?_)
  refine q_aload_n dX7_isWithin_0 rfl ?_
  refine q_V0 dX7_isWithin_1 ml_7_141 md_X7_requireText (c_requireText hC) rfl rfl rfl (by first | decide | omega) (Nat.le_of_ble_eq_true rfl) (Nat.le_of_ble_eq_true rfl) (qk_G (fun hq1 => ?_) (Scr_rf hC))
  have hLv := CI_lv hC hL hq1
  refine q_aload_n dX7_isWithin_4 rfl ?_
  refine q_iload_n dX7_isWithin_5 rfl ?_
  refine q_V1 dX7_isWithin_6 ml_7_172 md_X7_requireMap (c_requireMap hC hk) rfl rfl rfl (by first | decide | omega) (Nat.le_of_ble_eq_true rfl) (Nat.le_of_ble_eq_true rfl) (qk_G (fun hq6 => ?_) (Scr_rf hC))
  refine q_aload_n dX7_isWithin_9 rfl ?_
  refine q_iload_n dX7_isWithin_10 rfl ?_
  refine q_V1 dX7_isWithin_11 ml_7_172 md_X7_requireMap (c_requireMap hC ho) rfl rfl rfl (by first | decide | omega) (Nat.le_of_ble_eq_true rfl) (Nat.le_of_ble_eq_true rfl) (qk_G (fun hq11 => ?_) (Scr_rf hC))
  have hmk := CI_mp hC hq6
  have hmo := CI_mp hC hq11
  have hS : Scr M (qrow M 32 (fun i => mgF 2 (rowc M k i) (rowc M o i))) := Scr_32 hC (fun i h0 h1 => mgF_in (CI_ok hC (by omega) i h0 h1) (CI_ok hC (by omega) i h0 h1))
  have hon : onesI (rowc (qrow M 32 (fun i => mgF 2 (rowc M k i) (rowc M o i))) 32) 0 (8 * p4 L - 1) = onesI (fun i => mgF 2 (rowc M k i) (rowc M o i)) 0 (8 * p4 L - 1) := onesI_c row_at _ _
  have hoi := zsum_in (f := ind (fun i => mgF 2 (rowc M k i) (rowc M o i)) 0 (8 * p4 L - 1)) (a := 0) (B := 1) (n := 2048) (fun p _ _ => by have := ind_01 (fun i => mgF 2 (rowc M k i) (rowc M o i)) 0 (8 * p4 L - 1) p; omega)
  have hoi2 : zR (onesI (fun i => mgF 2 (rowc M k i) (rowc M o i)) 0 (8 * p4 L - 1)) := by unfold zR onesI; omega
  refine q_aload_n dX7_isWithin_14 rfl ?_
  refine q_getr dX7_isWithin_15 fl_7_26 rfl rfl ?_
  refine q_iconst dX7_isWithin_18 ?_
  refine q_iload_n dX7_isWithin_19 rfl ?_
  refine q_iload_n dX7_isWithin_20 rfl ?_
  refine q_bipush dX7_isWithin_21 rfl ?_
  refine q_V4 dX7_isWithin_23 ml_7_257 md_X0_merge (c_merge (by omega) (by omega) (by omega) (by omega)) rfl rfl rfl (by first | decide | omega) (Nat.le_of_ble_eq_true rfl) (Nat.le_of_ble_eq_true rfl) (qk_v ?_)
  refine q_aload_n dX7_isWithin_26 rfl ?_
  refine q_bipush dX7_isWithin_27 rfl ?_
  refine q_V1 dX7_isWithin_29 ml_7_254 md_X7_onesOfRow (c_onesOfRow (Scr_CI hC hS) (by rw [Scr_lv hS]; exact hL) hLv (by omega)) rfl rfl rfl (by first | decide | omega) (Nat.le_of_ble_eq_true rfl) (Nat.le_of_ble_eq_true rfl) (qk_e ?_)
  rw [hon]
  refine q_if_ne (tgt := 39) dX7_isWithin_32 rfl (by (first | (unfold zR; omega) | (unfold zLR; omega) | omega | (simp only [zR, qup] at *; omega) | (simp [zR, qup]; omega) | (simp [zR, qup]; done))) (fun h32 => ?_) (fun h32 => ?_)
  ·
    refine q_iconst dX7_isWithin_39 ?_
    refine q_zreturn (by first | exact Or.inl rfl | exact Or.inr rfl) dX7_isWithin_40 ?_
    exact gxk rfl ⟨(zb_f h32).symm, hS⟩
  ·
    refine q_iconst dX7_isWithin_35 ?_
    refine q_goto (tgt := 40) dX7_isWithin_36 rfl ?_
    refine q_zreturn (by first | exact Or.inl rfl | exact Or.inr rfl) dX7_isWithin_40 ?_
    exact gxk rfl ⟨(zb_t h32).symm, hS⟩
set_option maxHeartbeats 1000000 in
theorem k_distance (hC : CI M) (hL : M 0 10 = (L : Int)) (hk : zR k) (ho : zR o) : qCt mX7_distance 3 9 [.ref 0, .int (zI k), .int (zI o)] M (qpx (gor (gText M) (gor (gMap M k) (gor (gMap M o) 0))) (fun z M' => z = unl (rowc M k) (rowc M o) 0 0 (p4 L) ∧ M' = M) (Scr M)) := by
  have hpin := p4_in (L : Int)
  refine q_intro (own := 7) (L := [some (.ref 0), some (.int (zI k)), some (.int (zI o))]) md_X7_distance rfl rfl rfl (Nat.le_of_ble_eq_true rfl) (fun X => ?_)
  refine q_aload_n dX7_distance_0 rfl ?_
  refine q_V0 dX7_distance_1 ml_7_141 md_X7_requireText (c_requireText hC) rfl rfl rfl (by first | decide | omega) (Nat.le_of_ble_eq_true rfl) (Nat.le_of_ble_eq_true rfl) (qk_G (fun hq1 => ?_) (Scr_rf hC))
  have hLv := CI_lv hC hL hq1
  refine q_aload_n dX7_distance_4 rfl ?_
  refine q_iload_n dX7_distance_5 rfl ?_
  refine q_V1 dX7_distance_6 ml_7_172 md_X7_requireMap (c_requireMap hC hk) rfl rfl rfl (by first | decide | omega) (Nat.le_of_ble_eq_true rfl) (Nat.le_of_ble_eq_true rfl) (qk_G (fun hq6 => ?_) (Scr_rf hC))
  refine q_aload_n dX7_distance_9 rfl ?_
  refine q_iload_n dX7_distance_10 rfl ?_
  refine q_V1 dX7_distance_11 ml_7_172 md_X7_requireMap (c_requireMap hC ho) rfl rfl rfl (by first | decide | omega) (Nat.le_of_ble_eq_true rfl) (Nat.le_of_ble_eq_true rfl) (qk_G (fun hq11 => ?_) (Scr_rf hC))
  have hmk := CI_mp hC hq6
  have hmo := CI_mp hC hq11
  refine q_aload_n dX7_distance_14 rfl ?_
  refine q_getr dX7_distance_15 fl_7_26 rfl rfl ?_
  refine q_iload_n dX7_distance_18 rfl ?_
  refine q_iconst dX7_distance_19 ?_
  refine q_iload_n dX7_distance_20 rfl ?_
  refine q_iconst dX7_distance_21 ?_
  refine q_aload_n dX7_distance_22 rfl ?_
  refine q_geti (j := 10) dX7_distance_23 fl_7_121 rfl rfl rfl ?_
  rw [hL]
  refine q_S1 dX7_distance_26 ml_7_164 md_X7_cellsIn (c_cellsIn (by omega)) rfl (by first | decide | omega) (Nat.le_of_ble_eq_true rfl) (Nat.le_of_ble_eq_true rfl) (qk_e ?_)
  refine q_V5 dX7_distance_29 ml_7_261 md_X0_unlikeBits (c_unl (by omega) (by omega) (by omega) (by omega) (by omega) hC) rfl rfl rfl (by first | decide | omega) (Nat.le_of_ble_eq_true rfl) (Nat.le_of_ble_eq_true rfl) (qk_e ?_)
  refine q_ireturn dX7_distance_32 ?_
  exact gxk rfl ⟨rfl, rfl⟩
set_option maxHeartbeats 2000000 in
theorem k_differs (hC : CI M) (hL : M 0 10 = (L : Int)) (hk : zR k) (ho : zR o) : qCt mX7_differs 3 9 [.ref 0, .int (zI k), .int (zI o)] M (qpx (gor (gText M) (gor (gMap M k) (gor (gMap M o) 0))) (fun z M' => frst (fun i => bitP (rowc M k) i ≠ bitP (rowc M o) i) 0 (8 * p4 L) z ∧ M' = M) (Scr M)) := by
  have hpin := p4_in (L : Int)
  refine q_intro (own := 7) (L := [some (.ref 0), some (.int (zI k)), some (.int (zI o)), none]) md_X7_differs rfl rfl rfl (Nat.le_of_ble_eq_true rfl) (fun X => ?_)
  refine q_aload_n dX7_differs_0 rfl ?_
  refine q_V0 dX7_differs_1 ml_7_141 md_X7_requireText (c_requireText hC) rfl rfl rfl (by first | decide | omega) (Nat.le_of_ble_eq_true rfl) (Nat.le_of_ble_eq_true rfl) (qk_G (fun hq1 => ?_) (Scr_rf hC))
  have hLv := CI_lv hC hL hq1
  refine q_aload_n dX7_differs_4 rfl ?_
  refine q_iload_n dX7_differs_5 rfl ?_
  refine q_V1 dX7_differs_6 ml_7_172 md_X7_requireMap (c_requireMap hC hk) rfl rfl rfl (by first | decide | omega) (Nat.le_of_ble_eq_true rfl) (Nat.le_of_ble_eq_true rfl) (qk_G (fun hq6 => ?_) (Scr_rf hC))
  refine q_aload_n dX7_differs_9 rfl ?_
  refine q_iload_n dX7_differs_10 rfl ?_
  refine q_V1 dX7_differs_11 ml_7_172 md_X7_requireMap (c_requireMap hC ho) rfl rfl rfl (by first | decide | omega) (Nat.le_of_ble_eq_true rfl) (Nat.le_of_ble_eq_true rfl) (qk_G (fun hq11 => ?_) (Scr_rf hC))
  have hmk := CI_mp hC hq6
  have hmo := CI_mp hC hq11
  refine q_iconst dX7_differs_14 ?_
  refine q_istore_n dX7_differs_15 (Nat.le_of_ble_eq_true rfl) rfl ?_
  refine q_lp (fun i : Int => (8 * p4 L - i).toNat) (fun i => 0 ≤ i ∧ i ≤ 8 * p4 L ∧ ∀ j, 0 ≤ j → j < i → ¬ (bitP (rowc M k) j ≠ bitP (rowc M o) j)) (fun i => [some (.ref 0), some (.int (zI k)), some (.int (zI o)), some (.int (zI i))]) (fun _ => M) 0 rfl rfl ⟨by omega, by omega, fun j q1 q2 => by omega⟩ (fun i hi ih => ?_)
  have hb0 := bitP_01 (rowc M k) i
  have hb1 := bitP_01 (rowc M o) i
  refine q_iload_n dX7_differs_16 rfl ?_
  refine q_bipush dX7_differs_17 rfl ?_
  refine q_aload_n dX7_differs_19 rfl ?_
  refine q_geti (j := 10) dX7_differs_20 fl_7_121 rfl rfl rfl ?_
  rw [hL]
  refine q_S1 dX7_differs_23 ml_7_164 md_X7_cellsIn (c_cellsIn (by omega)) rfl (by first | decide | omega) (Nat.le_of_ble_eq_true rfl) (Nat.le_of_ble_eq_true rfl) (qk_e ?_)
  refine q_imul dX7_differs_26 ?_
  refine q_icmp_ge (tgt := 59) dX7_differs_27 rfl (by (first | (unfold zR; omega) | (unfold zLR; omega) | omega | (simp only [zR, qup] at *; omega) | (simp [zR, qup]; omega) | (simp [zR, qup]; done))) (by (first | (unfold zR; omega) | (unfold zLR; omega) | omega | (simp only [zR, qup] at *; omega) | (simp [zR, qup]; omega) | (simp [zR, qup]; done))) (fun h27 => ?_) (fun h27 => ?_)
  rotate_left
  ·
    refine q_aload_n dX7_differs_30 rfl ?_
    refine q_getr dX7_differs_31 fl_7_26 rfl rfl ?_
    refine q_iload_n dX7_differs_34 rfl ?_
    refine q_iload_n dX7_differs_35 rfl ?_
    refine q_V2 dX7_differs_36 ml_7_178 md_X0_bitAt (c_bitAt (by omega) (by omega) (CI_ok hC (by omega))) rfl rfl rfl (by first | decide | omega) (Nat.le_of_ble_eq_true rfl) (Nat.le_of_ble_eq_true rfl) (qk_e ?_)
    refine q_aload_n dX7_differs_39 rfl ?_
    refine q_getr dX7_differs_40 fl_7_26 rfl rfl ?_
    refine q_iload_n dX7_differs_43 rfl ?_
    refine q_iload_n dX7_differs_44 rfl ?_
    refine q_V2 dX7_differs_45 ml_7_178 md_X0_bitAt (c_bitAt (by omega) (by omega) (CI_ok hC (by omega))) rfl rfl rfl (by first | decide | omega) (Nat.le_of_ble_eq_true rfl) (Nat.le_of_ble_eq_true rfl) (qk_e ?_)
    refine q_icmp_eq (tgt := 53) dX7_differs_48 rfl (by (first | (unfold zR; omega) | (unfold zLR; omega) | omega | (simp only [zR, qup] at *; omega) | (simp [zR, qup]; omega) | (simp [zR, qup]; done))) (by (first | (unfold zR; omega) | (unfold zLR; omega) | omega | (simp only [zR, qup] at *; omega) | (simp [zR, qup]; omega) | (simp [zR, qup]; done))) (fun h48 => ?_) (fun h48 => ?_)
    ·
      refine q_iinc dX7_differs_53 rfl (Nat.le_of_ble_eq_true rfl) rfl ?_
      refine q_goto (tgt := 16) dX7_differs_56 rfl ?_
      exact ih (i + 1) _ _ ⟨by omega, by omega, fun j q1 q2 => by
        by_cases q3 : j = i
        · subst q3; exact fun q4 => q4 h48
        · exact hi.2.2 j q1 (by omega)⟩ (by omega) rfl rfl
    ·
      refine q_iload_n dX7_differs_51 rfl ?_
      refine q_ireturn dX7_differs_52 ?_
      exact gxk rfl ⟨Or.inr ⟨hi.1, h27, h48, hi.2.2⟩, rfl⟩
  refine q_iconst dX7_differs_59 ?_
  refine q_ireturn dX7_differs_60 ?_
  exact gxk rfl ⟨Or.inl ⟨rfl, fun j q1 q2 => hi.2.2 j q1 (by omega)⟩, rfl⟩
set_option maxHeartbeats 1000000 in
theorem k_combined (hC : CI M) (hL : M 0 10 = (L : Int)) (hk : zR k) (ho : zR o) (hq : zR q) : qCt mX7_combined 4 9 [.ref 0, .int (zI q), .int (zI k), .int (zI o)] M (qpx (gor (gText M) (gor (gMap M k) (gor (gMap M o) (gor (gKind q) 0)))) (fun z M' => z = tsz (fun i => mgF q (rowc M k i) (rowc M o i)) L 0 ∧ Scr M M') (Scr M)) := by
  refine q_intro (own := 7) (L := [some (.ref 0), some (.int (zI q)), some (.int (zI k)), some (.int (zI o))]) md_X7_combined rfl rfl rfl (Nat.le_of_ble_eq_true rfl) (fun X => ?_)
  refine q_aload_n dX7_combined_0 rfl ?_
  refine q_V0 dX7_combined_1 ml_7_141 md_X7_requireText (c_requireText hC) rfl rfl rfl (by first | decide | omega) (Nat.le_of_ble_eq_true rfl) (Nat.le_of_ble_eq_true rfl) (qk_G (fun hq1 => ?_) (Scr_rf hC))
  have hLv := CI_lv hC hL hq1
  refine q_aload_n dX7_combined_4 rfl ?_
  refine q_iload_n dX7_combined_5 rfl ?_
  refine q_V1 dX7_combined_6 ml_7_172 md_X7_requireMap (c_requireMap hC hk) rfl rfl rfl (by first | decide | omega) (Nat.le_of_ble_eq_true rfl) (Nat.le_of_ble_eq_true rfl) (qk_G (fun hq6 => ?_) (Scr_rf hC))
  refine q_aload_n dX7_combined_9 rfl ?_
  refine q_iload_n dX7_combined_10 rfl ?_
  refine q_V1 dX7_combined_11 ml_7_172 md_X7_requireMap (c_requireMap hC ho) rfl rfl rfl (by first | decide | omega) (Nat.le_of_ble_eq_true rfl) (Nat.le_of_ble_eq_true rfl) (qk_G (fun hq11 => ?_) (Scr_rf hC))
  refine q_aload_n dX7_combined_14 rfl ?_
  refine q_iload_n dX7_combined_15 rfl ?_
  refine q_V1 dX7_combined_16 ml_7_271 md_X7_requireKind (c_requireKind hq) rfl rfl rfl (by first | decide | omega) (Nat.le_of_ble_eq_true rfl) (Nat.le_of_ble_eq_true rfl) (qk_G (fun hq16 => ?_) (Scr_rf hC))
  have hmk := CI_mp hC hq6
  have hmo := CI_mp hC hq11
  have hkd := gKind_0.1 hq16
  have hS : Scr M (qrow M 32 (fun i => mgF q (rowc M k i) (rowc M o i))) := Scr_32 hC (fun i h0 h1 => mgF_in (CI_ok hC (by omega) i h0 h1) (CI_ok hC (by omega) i h0 h1))
  refine q_aload_n dX7_combined_19 rfl ?_
  refine q_getr dX7_combined_20 fl_7_26 rfl rfl ?_
  refine q_iload_n dX7_combined_23 rfl ?_
  refine q_iload_n dX7_combined_24 rfl ?_
  refine q_iload_n dX7_combined_25 rfl ?_
  refine q_bipush dX7_combined_26 rfl ?_
  refine q_V4 dX7_combined_28 ml_7_257 md_X0_merge (c_merge (by omega) (by omega) (by omega) (by omega)) rfl rfl rfl (by first | decide | omega) (Nat.le_of_ble_eq_true rfl) (Nat.le_of_ble_eq_true rfl) (qk_v ?_)
  refine q_aload_n dX7_combined_31 rfl ?_
  refine q_bipush dX7_combined_32 rfl ?_
  refine q_V1 dX7_combined_34 ml_7_202 md_X7_sizeOfRow (c_sizeR (Scr_CI hC hS) (by rw [Scr_lv hS]; exact hL) hLv (by omega)) rfl rfl rfl (by first | decide | omega) (Nat.le_of_ble_eq_true rfl) (Nat.le_of_ble_eq_true rfl) (qk_g (fun z34 N34 hq34 => ?_))
  obtain ⟨hz, hS2⟩ := hq34
  rw [tsz_row hLv.2 row_at] at hz
  refine q_ireturn dX7_combined_37 ?_
  exact gxk rfl ⟨hz, Scr_tr hS hS2⟩
set_option maxHeartbeats 2000000 in
theorem k_nearest (hC : CI M) (hL : M 0 10 = (L : Int)) (hk : zR k) : qCt mX7_nearest 2 9 [.ref 0, .int (zI k)] M (qpx (gor (gText M) (gor (gMap M k) 0)) (fun z M' => z = bst (fun j => unl (rowc M k) (rowc M j) 0 0 (p4 L)) k 0 (M 0 11).toNat ∧ M' = M) (Scr M)) := by
  have hmp := CI_maps hC
  have hpin := p4_in (L : Int)
  refine q_intro (own := 7) (L := [some (.ref 0), some (.int (zI k)), none, none, none, none]) md_X7_nearest rfl rfl rfl (Nat.le_of_ble_eq_true rfl) (fun X => ?_)
  refine q_aload_n dX7_nearest_0 rfl ?_
  refine q_V0 dX7_nearest_1 ml_7_141 md_X7_requireText (c_requireText hC) rfl rfl rfl (by first | decide | omega) (Nat.le_of_ble_eq_true rfl) (Nat.le_of_ble_eq_true rfl) (qk_G (fun hq1 => ?_) (Scr_rf hC))
  have hLv := CI_lv hC hL hq1
  refine q_aload_n dX7_nearest_4 rfl ?_
  refine q_iload_n dX7_nearest_5 rfl ?_
  refine q_V1 dX7_nearest_6 ml_7_172 md_X7_requireMap (c_requireMap hC hk) rfl rfl rfl (by first | decide | omega) (Nat.le_of_ble_eq_true rfl) (Nat.le_of_ble_eq_true rfl) (qk_G (fun hq6 => ?_) (Scr_rf hC))
  have hmk := CI_mp hC hq6
  refine q_iconst dX7_nearest_9 ?_
  refine q_istore_n dX7_nearest_10 (Nat.le_of_ble_eq_true rfl) rfl ?_
  refine q_iconst dX7_nearest_11 ?_
  refine q_istore_n dX7_nearest_12 (Nat.le_of_ble_eq_true rfl) rfl ?_
  refine q_iconst dX7_nearest_13 ?_
  refine q_istore dX7_nearest_14 (Nat.le_of_ble_eq_true rfl) rfl ?_
  refine q_lp (fun i : Nat => (M 0 11).toNat - i) (fun i => (i : Int) ≤ M 0 11) (fun i => [some (.ref 0), some (.int (zI k)), some (.int (zI (bst (fun j => unl (rowc M k) (rowc M j) 0 0 (p4 L)) k 0 i))), some (.int (zI (if bst (fun j => unl (rowc M k) (rowc M j) 0 0 (p4 L)) k 0 i = -1 then 0 else unl (rowc M k) (rowc M (bst (fun j => unl (rowc M k) (rowc M j) 0 0 (p4 L)) k 0 i)) 0 0 (p4 L)))), some (.int (zI (i : Int))), none]) (fun _ => M) 0 rfl rfl (by omega) (fun i hi1 ih => ?_)
  have hb := bst_in (fun j => unl (rowc M k) (rowc M j) 0 0 (p4 L)) k (Int.le_refl 0) i
  have hbs : bst (fun j => unl (rowc M k) (rowc M j) 0 0 (p4 L)) k 0 (i + 1) = if (0 : Int) + i ≠ k ∧ (bst (fun j => unl (rowc M k) (rowc M j) 0 0 (p4 L)) k 0 i = -1 ∨ unl (rowc M k) (rowc M (0 + i)) 0 0 (p4 L) < unl (rowc M k) (rowc M (bst (fun j => unl (rowc M k) (rowc M j) 0 0 (p4 L)) k 0 i)) 0 0 (p4 L)) then 0 + (i : Int) else bst (fun j => unl (rowc M k) (rowc M j) 0 0 (p4 L)) k 0 i := rfl
  rw [Int.zero_add] at hbs
  generalize hg : bst (fun j => unl (rowc M k) (rowc M j) 0 0 (p4 L)) k 0 i = w at hb hbs
  have hti := unl_in (rowc M k) (rowc M i) 0 0 (show 0 ≤ p4 (L : Int) by omega)
  have htw := unl_in (rowc M k) (rowc M w) 0 0 (show 0 ≤ p4 (L : Int) by omega)
  have hiw : 0 ≤ (if w = -1 then 0 else unl (rowc M k) (rowc M w) 0 0 (p4 L)) ∧ (if w = -1 then 0 else unl (rowc M k) (rowc M w) 0 0 (p4 L)) ≤ 2048 := by
    by_cases e : w = -1
    · rw [if_pos e]; omega
    · rw [if_neg e]; omega
  refine q_iload dX7_nearest_16 rfl ?_
  refine q_aload_n dX7_nearest_18 rfl ?_
  refine q_geti (j := 11) dX7_nearest_19 fl_7_111 rfl rfl rfl ?_
  refine q_icmp_ge (tgt := 75) dX7_nearest_22 rfl (by (first | (unfold zR; omega) | (unfold zLR; omega) | omega | (simp only [zR, qup] at *; omega) | (simp [zR, qup]; omega) | (simp [zR, qup]; done))) (by (first | (unfold zR; omega) | (unfold zLR; omega) | omega | (simp only [zR, qup] at *; omega) | (simp [zR, qup]; omega) | (simp [zR, qup]; done))) (fun h22 => ?_) (fun h22 => ?_)
  rotate_left
  ·
    refine q_aload_n dX7_nearest_25 rfl ?_
    refine q_getr dX7_nearest_26 fl_7_26 rfl rfl ?_
    refine q_iload_n dX7_nearest_29 rfl ?_
    refine q_iconst dX7_nearest_30 ?_
    refine q_iload dX7_nearest_31 rfl ?_
    refine q_iconst dX7_nearest_33 ?_
    refine q_aload_n dX7_nearest_34 rfl ?_
    refine q_geti (j := 10) dX7_nearest_35 fl_7_121 rfl rfl rfl ?_
    rw [hL]
    refine q_S1 dX7_nearest_38 ml_7_164 md_X7_cellsIn (c_cellsIn (by omega)) rfl (by first | decide | omega) (Nat.le_of_ble_eq_true rfl) (Nat.le_of_ble_eq_true rfl) (qk_e ?_)
    refine q_V5 dX7_nearest_41 ml_7_261 md_X0_unlikeBits (c_unl (by omega) (by omega) (by omega) (by omega) (by omega) hC) rfl rfl rfl (by first | decide | omega) (Nat.le_of_ble_eq_true rfl) (Nat.le_of_ble_eq_true rfl) (qk_e ?_)
    refine q_istore dX7_nearest_44 (Nat.le_of_ble_eq_true rfl) rfl ?_
    refine q_iload dX7_nearest_46 rfl ?_
    refine q_iload_n dX7_nearest_48 rfl ?_
    refine q_icmp_eq (tgt := 69) dX7_nearest_49 rfl (by (first | (unfold zR; omega) | (unfold zLR; omega) | omega | (simp only [zR, qup] at *; omega) | (simp [zR, qup]; omega) | (simp [zR, qup]; done))) (by (first | (unfold zR; omega) | (unfold zLR; omega) | omega | (simp only [zR, qup] at *; omega) | (simp [zR, qup]; omega) | (simp [zR, qup]; done))) (fun h49 => ?_) (fun h49 => ?_)
    ·
      refine q_iinc dX7_nearest_69 rfl (Nat.le_of_ble_eq_true rfl) rfl ?_
      refine q_goto (tgt := 16) dX7_nearest_72 rfl ?_
      have e1 : bst (fun j => unl (rowc M k) (rowc M j) 0 0 (p4 L)) k 0 (i + 1) = w := by rw [hbs, if_neg (fun q => q.1 h49)]
      refine q_wk _ ?_ (ih (i + 1) _ _ (by omega) (by omega) rfl rfl)
      simp only [wkB, e1]
      (repeat (first | exact rfl | exact trivial | refine ⟨rfl, ?_⟩))
    ·
      refine q_iload_n dX7_nearest_52 rfl ?_
      refine q_iconst dX7_nearest_53 ?_
      refine q_icmp_eq (tgt := 63) dX7_nearest_54 rfl (by (first | (unfold zR; omega) | (unfold zLR; omega) | omega | (simp only [zR, qup] at *; omega) | (simp [zR, qup]; omega) | (simp [zR, qup]; done))) (by (first | (unfold zR; omega) | (unfold zLR; omega) | omega | (simp only [zR, qup] at *; omega) | (simp [zR, qup]; omega) | (simp [zR, qup]; done))) (fun h54 => ?_) (fun h54 => ?_)
      ·
        refine q_iload dX7_nearest_63 rfl ?_
        refine q_istore_n dX7_nearest_65 (Nat.le_of_ble_eq_true rfl) rfl ?_
        refine q_iload dX7_nearest_66 rfl ?_
        refine q_istore_n dX7_nearest_68 (Nat.le_of_ble_eq_true rfl) rfl ?_
        refine q_iinc dX7_nearest_69 rfl (Nat.le_of_ble_eq_true rfl) rfl ?_
        refine q_goto (tgt := 16) dX7_nearest_72 rfl ?_
        have e2 : (if (i : Int) = -1 then 0 else unl (rowc M k) (rowc M i) 0 0 (p4 L)) = unl (rowc M k) (rowc M i) 0 0 (p4 L) := if_neg (by omega)
        have e1 : bst (fun j => unl (rowc M k) (rowc M j) 0 0 (p4 L)) k 0 (i + 1) = i := by rw [hbs, if_pos ⟨h49, Or.inl h54⟩]
        refine q_wk _ ?_ (ih (i + 1) _ _ (by omega) (by omega) rfl rfl)
        simp only [wkB, e1, e2]
        (repeat (first | exact rfl | exact trivial | refine ⟨rfl, ?_⟩))
      ·
        refine q_iload dX7_nearest_57 rfl ?_
        refine q_iload_n dX7_nearest_59 rfl ?_
        refine q_icmp_ge (tgt := 69) dX7_nearest_60 rfl (by (first | (unfold zR; omega) | (unfold zLR; omega) | omega | (simp only [zR, qup] at *; omega) | (simp [zR, qup]; omega) | (simp [zR, qup]; done))) (by (first | (unfold zR; omega) | (unfold zLR; omega) | omega | (simp only [zR, qup] at *; omega) | (simp [zR, qup]; omega) | (simp [zR, qup]; done))) (fun h60 => ?_) (fun h60 => ?_)
        ·
          refine q_iinc dX7_nearest_69 rfl (Nat.le_of_ble_eq_true rfl) rfl ?_
          refine q_goto (tgt := 16) dX7_nearest_72 rfl ?_
          have e1 : bst (fun j => unl (rowc M k) (rowc M j) 0 0 (p4 L)) k 0 (i + 1) = w := by rw [hbs, if_neg (fun q => q.2.elim (fun q => h54 q) (fun q => by rw [if_neg h54] at h60; omega))]
          refine q_wk _ ?_ (ih (i + 1) _ _ (by omega) (by omega) rfl rfl)
          simp only [wkB, e1]
          (repeat (first | exact rfl | exact trivial | refine ⟨rfl, ?_⟩))
        ·
          refine q_iload dX7_nearest_63 rfl ?_
          refine q_istore_n dX7_nearest_65 (Nat.le_of_ble_eq_true rfl) rfl ?_
          refine q_iload dX7_nearest_66 rfl ?_
          refine q_istore_n dX7_nearest_68 (Nat.le_of_ble_eq_true rfl) rfl ?_
          refine q_iinc dX7_nearest_69 rfl (Nat.le_of_ble_eq_true rfl) rfl ?_
          refine q_goto (tgt := 16) dX7_nearest_72 rfl ?_
          have e2 : (if (i : Int) = -1 then 0 else unl (rowc M k) (rowc M i) 0 0 (p4 L)) = unl (rowc M k) (rowc M i) 0 0 (p4 L) := if_neg (by omega)
          have e1 : bst (fun j => unl (rowc M k) (rowc M j) 0 0 (p4 L)) k 0 (i + 1) = i := by rw [hbs, if_pos ⟨h49, Or.inr (by rw [if_neg h54] at h60; omega)⟩]
          refine q_wk _ ?_ (ih (i + 1) _ _ (by omega) (by omega) rfl rfl)
          simp only [wkB, e1, e2]
          (repeat (first | exact rfl | exact trivial | refine ⟨rfl, ?_⟩))
  refine q_iload_n dX7_nearest_75 rfl ?_
  refine q_ireturn dX7_nearest_76 ?_
  exact gxk rfl ⟨by rw [← hg, show (M 0 11).toNat = i by omega], rfl⟩
end GG


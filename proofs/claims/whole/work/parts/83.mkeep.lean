/-! The model: the block most like one; what a change keeps; fill, shift. -/
/-- the state is kept before a change -/
def kaW (M : qM) : qM := fun o i => if o = 37 ∧ i = 7 then (if M 37 7 = 8 then 8 else M 37 7 + 1) else if o = 40 then (if M 37 7 = 8 then (if 0 ≤ i ∧ i < 10752 then M 40 (i + 1536) else if 10752 ≤ i ∧ i < 12288 then M 39 (i - 10752) else M 40 i) else if 1536 * M 37 7 ≤ i ∧ i < 1536 * M 37 7 + 1536 then M 39 (i - 1536 * M 37 7) else M 40 i) else M o i
def shW (M : qM) (n : Int) : qM := fun o i => if o = 40 ∧ 0 ≤ i ∧ i < n then M 40 (i + 1536) else M o i
/-- the cells of a map are others -/
def putF (M : qM) (k : Int) (L : Nat) (F : Int → Int) : qM := fun o j => if o = 39 ∧ 256 * k ≤ j ∧ j < 256 * k + p4 L then F (j - 256 * k) else M o j
theorem kaW_o {M : qM} {o : Nat} (h : o ≠ 37) (h' : o ≠ 40) : kaW M o = M o := by
  funext j
  unfold kaW
  rw [if_neg (fun w => h w.1), if_neg h']
theorem kaW_37 {M : qM} {k : Int} (h : k ≠ 7) : kaW M 37 k = M 37 k := by
  unfold kaW
  rw [if_neg (fun w => h w.2), if_neg (by decide)]
theorem kaW_7 {M : qM} : kaW M 37 7 = if M 37 7 = 8 then 8 else M 37 7 + 1 := if_pos ⟨rfl, rfl⟩
theorem kaW_40 {M : qM} {i : Int} : kaW M 40 i = if M 37 7 = 8 then (if 0 ≤ i ∧ i < 10752 then M 40 (i + 1536) else if 10752 ≤ i ∧ i < 12288 then M 39 (i - 10752) else M 40 i) else if 1536 * M 37 7 ≤ i ∧ i < 1536 * M 37 7 + 1536 then M 39 (i - 1536 * M 37 7) else M 40 i := by
  unfold kaW
  rw [if_neg (fun w => by have := w.1; omega), if_pos rfl]
theorem kaW_scl {M : qM} {k : Int} : scl (kaW M) k = scl M k := by
  funext i
  unfold scl
  rw [kaW_o (by decide) (by decide)]
theorem MI_ka {M : qM} (hM : MI M) : MI (kaW M) := by
  obtain ⟨a1, a2, a3, a4, a5, a6, a7, a8, a9, a10, a11, a12, a13, a14⟩ := hM
  unfold MI
  rw [kaW_37 (k := 1) (by decide), kaW_37 (k := 2) (by decide), kaW_37 (k := 3) (by decide), kaW_37 (k := 21) (by decide), kaW_37 (k := 35) (by decide), kaW_o (o := 38) (by decide) (by decide), kaW_o (o := 39) (by decide) (by decide), kaW_o (o := 41) (by decide) (by decide), kaW_o (o := 48) (by decide) (by decide), kaW_7]
  have hp4 := p4_in (M 37 2)
  refine ⟨a1, a2, a3, a4, a5, fun j h0 h1 => ?_, ?_, a8, a9, a10, a11, a12, a13, fun st k i h0 h1 hq k0 k1 i0 i1 => ?_⟩
  · rw [kaW_40]
    by_cases e : M 37 7 = 8
    · rw [if_pos e]
      by_cases w : 0 ≤ j ∧ j < 10752
      · rw [if_pos w]; exact a6 _ (by omega) (by omega)
      · rw [if_neg w]
        by_cases w2 : 10752 ≤ j ∧ j < 12288
        · rw [if_pos w2]; exact a5 _ (by omega) (by omega)
        · rw [if_neg w2]; exact a6 j h0 h1
    · rw [if_neg e]
      by_cases w : 1536 * M 37 7 ≤ j ∧ j < 1536 * M 37 7 + 1536
      · rw [if_pos w]; exact a5 _ (by omega) (by omega)
      · rw [if_neg w]; exact a6 j h0 h1
  · by_cases e : M 37 7 = 8
    · rw [if_pos e]; omega
    · rw [if_neg e]; omega
  · rw [kaW_40]
    by_cases e : M 37 7 = 8
    · rw [if_pos e] at hq ⊢
      by_cases w : st < 7
      · rw [if_pos ⟨by omega, by omega⟩, show 1536 * st + 256 * k + i + 1536 = 1536 * (st + 1) + 256 * k + i by omega]
        exact a14 (st + 1) k i (by omega) (by omega) (Or.inl (by omega)) k0 k1 i0 i1
      · rw [if_neg (by omega)]
        by_cases w2 : st = 7
        · subst w2
          rw [if_pos ⟨by omega, by omega⟩, show 1536 * 7 + 256 * k + i - 10752 = 256 * k + i by omega]
          exact a12 k i k0 k1 i0 i1
        · rw [if_neg (by omega)]
          exact a14 st k i h0 h1 (hq.elim (fun g => Or.inl (by omega)) Or.inr) k0 k1 i0 i1
    · rw [if_neg e] at hq ⊢
      by_cases w : st = M 37 7
      · subst w
        rw [if_pos ⟨by omega, by omega⟩, show 1536 * M 37 7 + 256 * k + i - 1536 * M 37 7 = 256 * k + i by omega]
        exact a12 k i k0 k1 i0 i1
      · rw [if_neg (by omega)]
        exact a14 st k i h0 h1 (hq.elim (fun g => Or.inl (by omega)) Or.inr) k0 k1 i0 i1
theorem putW_42 {M : qM} {k n : Int} : putW M k n 42 = M 42 := by
  funext j
  unfold putW
  rw [if_neg (fun w => by have := w.1; omega)]
theorem putW_37 {M : qM} {k n j : Int} : putW M k n 37 j = M 37 j := by
  unfold putW
  rw [if_neg (fun w => by have := w.1; omega)]
theorem MS_put {A B : qM} {k : Int} {L : Nat} {F : Int → Int} (h : MS A B) (he : cE (B 42) F L) : MS (putF A k L F) (putW B k (p4 L)) := by
  refine ⟨fun o a1 a2 a3 a4 a5 a6 a7 a8 a9 => ?_, fun j hj => ?_⟩
  · funext j
    unfold putF putW
    by_cases w : o = 39 ∧ 256 * k ≤ j ∧ j < 256 * k + p4 L
    · rw [if_pos w, if_pos w]; exact he _ (by have := w.2; omega) (by have := w.2; omega)
    · rw [if_neg w, if_neg w, h.1 o a1 a2 a3 a4 a5 a6 a7 a8 a9]
  · rw [putW_37]
    unfold putF
    rw [if_neg (fun w => by have := w.1; omega)]
    exact h.2 j hj
section MK
variable {M N : qM} {L l : Nat} {c T K F S : Int → Int} {k o x y a b v p q f t n g i : Int}
set_option maxHeartbeats 1500000 in
theorem o_mostLike (hM : MI M) (hL : M 37 2 = (L : Int)) (hk : zR k) (hx : zR x) (hy : zR y) : qCt mX8_mostLike 0 4 [.ref 37, .int (zI k), .int (zI x), .int (zI y)] M (mpx (gor (gG M k) (mBk M x y)) (fun z M' => z = bst (fun u => unl (scl M k) (scl M k) (p4 x * y) (p4 x * u) (p4 x)) y 0 (p4 ((L : Int) - x)).toNat ∧ MS (qup M 37 0 0) M') M) := by
  have hL4 : L ≤ 4 := by have := hM.2.1; omega
  have hpL := p4_in (L : Int)
  refine q_intro (own := 8) (L := [some (.ref 37), some (.int (zI k)), some (.int (zI x)), some (.int (zI y)), none, none, none, none, none]) md_X8_mostLike rfl rfl rfl (Nat.le_of_ble_eq_true rfl) (fun X => ?_)
  refine q_aload_n dX8_mostLike_0 rfl ?_
  refine q_iload_n dX8_mostLike_1 rfl ?_
  refine q_iload_n dX8_mostLike_2 rfl ?_
  refine q_iload_n dX8_mostLike_3 rfl ?_
  refine q_V3 dX8_mostLike_4 ml_8_335 md_X8_noBlock (m_noBlock hM hk hx hy) rfl rfl rfl (by first | decide | omega) (Nat.le_of_ble_eq_true rfl) (Nat.le_of_ble_eq_true rfl) (qk_e ?_)
  refine q_if_eq (tgt := 12) dX8_mostLike_7 rfl (by exact zb_R _) (fun h7 => ?_) (fun h7 => ?_)
  ·
    have hg := zbz h7
    have hg2 := gor_00.1 hg
    have hgk := gG_0 hM hg2.1
    have hbk := mBk_0 hL hg2.2
    have hbi := blk_in hL4 hbk.1 hbk.2
    have hpx := p4_in x
    have hpd := p4_in ((L : Int) - x)
    rw [hg]
    refine q_aload_n dX8_mostLike_12 rfl ?_
    refine q_iload_n dX8_mostLike_13 rfl ?_
    refine q_V1 dX8_mostLike_14 ml_8_117 md_X8_fetches (m_fetchG hM hL (by omega)) rfl rfl rfl (by first | decide | omega) (Nat.le_of_ble_eq_true rfl) (Nat.le_of_ble_eq_true rfl) (qk_v ?_)
    refine q_iconst dX8_mostLike_17 ?_
    refine q_istore dX8_mostLike_18 (Nat.le_of_ble_eq_true rfl) rfl ?_
    refine q_iconst dX8_mostLike_20 ?_
    refine q_istore dX8_mostLike_21 (Nat.le_of_ble_eq_true rfl) rfl ?_
    refine q_iconst dX8_mostLike_23 ?_
    refine q_istore dX8_mostLike_24 (Nat.le_of_ble_eq_true rfl) rfl ?_
    refine q_lp (fun i : Nat => (p4 ((L : Int) - x)).toNat - i) (fun i => (i : Int) ≤ p4 ((L : Int) - x)) (fun i => [some (.ref 37), some (.int (zI k)), some (.int (zI x)), some (.int (zI y)), some (.int (zI (bst (fun u => unl (scl M k) (scl M k) (p4 x * y) (p4 x * u) (p4 x)) y 0 i))), some (.int (zI (if bst (fun u => unl (scl M k) (scl M k) (p4 x * y) (p4 x * u) (p4 x)) y 0 i = -1 then 0 else unl (scl M k) (scl M k) (p4 x * y) (p4 x * bst (fun u => unl (scl M k) (scl M k) (p4 x * y) (p4 x * u) (p4 x)) y 0 i) (p4 x)))), some (.int (zI (i : Int))), none, none]) (fun _ => fW M 0 L k) 0 rfl rfl (by omega) (fun i hi1 ih => ?_)
    have hb := bst_in (fun u => unl (scl M k) (scl M k) (p4 x * y) (p4 x * u) (p4 x)) y (Int.le_refl 0) i
    have hbs : bst (fun u => unl (scl M k) (scl M k) (p4 x * y) (p4 x * u) (p4 x)) y 0 (i + 1) = if (0 : Int) + i ≠ y ∧ (bst (fun u => unl (scl M k) (scl M k) (p4 x * y) (p4 x * u) (p4 x)) y 0 i = -1 ∨ unl (scl M k) (scl M k) (p4 x * y) (p4 x * (0 + i)) (p4 x) < unl (scl M k) (scl M k) (p4 x * y) (p4 x * bst (fun u => unl (scl M k) (scl M k) (p4 x * y) (p4 x * u) (p4 x)) y 0 i) (p4 x)) then 0 + (i : Int) else bst (fun u => unl (scl M k) (scl M k) (p4 x * y) (p4 x * u) (p4 x)) y 0 i := rfl
    rw [Int.zero_add] at hbs
    generalize hgw : bst (fun u => unl (scl M k) (scl M k) (p4 x * y) (p4 x * u) (p4 x)) y 0 i = w at hb hbs
    have hti := unl_in (scl M k) (scl M k) (p4 x * y) (p4 x * i) (show 0 ≤ p4 x by omega)
    have htw := unl_in (scl M k) (scl M k) (p4 x * y) (p4 x * w) (show 0 ≤ p4 x by omega)
    have e2 : (if (i : Int) = -1 then 0 else unl (scl M k) (scl M k) (p4 x * y) (p4 x * i) (p4 x)) = unl (scl M k) (scl M k) (p4 x * y) (p4 x * i) (p4 x) := if_neg (by omega)
    have hiw : 0 ≤ (if w = -1 then 0 else unl (scl M k) (scl M k) (p4 x * y) (p4 x * w) (p4 x)) ∧ (if w = -1 then 0 else unl (scl M k) (scl M k) (p4 x * y) (p4 x * w) (p4 x)) ≤ 2048 := by
      by_cases e : w = -1
      · rw [if_pos e]; omega
      · rw [if_neg e]; omega
    refine q_iload dX8_mostLike_26 rfl ?_
    refine q_aload_n dX8_mostLike_28 rfl ?_
    refine q_iload_n dX8_mostLike_29 rfl ?_
    refine q_V1 dX8_mostLike_30 ml_8_90 md_X8_blocks (m_blocks (L := L) fW_9 ⟨hbk.1.1, hbk.1.2, hL4⟩) rfl rfl rfl (by first | decide | omega) (Nat.le_of_ble_eq_true rfl) (Nat.le_of_ble_eq_true rfl) (qk_e ?_)
    refine q_icmp_ge (tgt := 128) dX8_mostLike_33 rfl (by (first | (unfold zR; omega) | (unfold zLR; omega) | omega | (simp only [zR, qup] at *; omega) | (simp [zR, qup]; omega) | (simp [zR, qup]; done))) (by (first | (unfold zR; omega) | (unfold zLR; omega) | omega | (simp only [zR, qup] at *; omega) | (simp [zR, qup]; omega) | (simp [zR, qup]; done))) (fun h33 => ?_) (fun h33 => ?_)
    rotate_left
    ·
      have hby := blk_in hL4 hbk.1 (x := (i : Int)) ⟨by omega, h33⟩
      refine q_iconst dX8_mostLike_36 ?_
      refine q_istore dX8_mostLike_37 (Nat.le_of_ble_eq_true rfl) rfl ?_
      refine q_iconst dX8_mostLike_39 ?_
      refine q_istore dX8_mostLike_40 (Nat.le_of_ble_eq_true rfl) rfl ?_
      generalize hlw : (if w = -1 then 0 else unl (scl M k) (scl M k) (p4 x * y) (p4 x * w) (p4 x)) = lw at hiw
      refine q_wk [some (.ref 37), some (.int (zI k)), some (.int (zI x)), some (.int (zI y)), some (.int (zI w)), some (.int (zI lw)), some (.int (zI (i : Int))), some (.int (zI 0)), some (.int (zI 0))] (by simp only [wkB]; (repeat (first | exact rfl | exact trivial | refine ⟨rfl, ?_⟩))) ?_
      refine q_lp (fun j : Int => (p4 x - j).toNat) (fun j => 0 ≤ j ∧ j ≤ p4 x) (fun j => [some (.ref 37), some (.int (zI k)), some (.int (zI x)), some (.int (zI y)), some (.int (zI w)), some (.int (zI lw)), some (.int (zI (i : Int))), some (.int (zI (zsum (fun u => zpop (zxor (scl M k (p4 x * y + u)) (scl M k (p4 x * i + u)))) 0 j.toNat))), some (.int (zI j))]) (fun _ => fW M 0 L k) 0 rfl rfl ⟨by omega, by omega⟩ (fun j hj ih2 => ?_)
      have hzs := zsum_s (fun u => zpop (zxor (scl M k (p4 x * y + u)) (scl M k (p4 x * i + u)))) hj.1
      refine q_iload dX8_mostLike_42 rfl ?_
      refine q_iload_n dX8_mostLike_44 rfl ?_
      refine q_S1 dX8_mostLike_45 ml_8_94 md_X8_span (m_span (by omega)) rfl (by first | decide | omega) (Nat.le_of_ble_eq_true rfl) (Nat.le_of_ble_eq_true rfl) (qk_e ?_)
      refine q_icmp_ge (tgt := 95) dX8_mostLike_48 rfl (by (first | (unfold zR; omega) | (unfold zLR; omega) | omega | (simp only [zR, qup] at *; omega) | (simp [zR, qup]; omega) | (simp [zR, qup]; done))) (by (first | (unfold zR; omega) | (unfold zLR; omega) | omega | (simp only [zR, qup] at *; omega) | (simp [zR, qup]; omega) | (simp [zR, qup]; done))) (fun h48 => ?_) (fun h48 => ?_)
      rotate_left
      ·
        have hb1 := scl_b hM (k := k) (i := p4 x * y + j) (by omega) (by omega)
        have hb2 := scl_b hM (k := k) (i := p4 x * i + j) (by omega) (by omega)
        refine q_iload dX8_mostLike_51 rfl ?_
        refine q_aload_n dX8_mostLike_53 rfl ?_
        refine q_getr dX8_mostLike_54 fl_8_23 rfl rfl ?_
        refine q_iload_n dX8_mostLike_57 rfl ?_
        refine q_S1 dX8_mostLike_58 ml_8_94 md_X8_span (m_span (by omega)) rfl (by first | decide | omega) (Nat.le_of_ble_eq_true rfl) (Nat.le_of_ble_eq_true rfl) (qk_e ?_)
        refine q_iload_n dX8_mostLike_61 rfl ?_
        refine q_imul dX8_mostLike_62 ?_
        refine q_iload dX8_mostLike_63 rfl ?_
        refine q_iadd dX8_mostLike_65 ?_
        refine q_iald dX8_mostLike_66 rfl (by (first | (unfold zR; omega) | (unfold zLR; omega) | omega | (simp only [zR, qup] at *; omega) | (simp [zR, qup]; omega) | (simp [zR, qup]; done))) (Nat.le_of_ble_eq_true rfl) ?_
        rw [fW_42 (show 0 ≤ p4 x * y + j ∧ p4 x * y + j < p4 L by omega)]
        refine q_aload_n dX8_mostLike_67 rfl ?_
        refine q_getr dX8_mostLike_68 fl_8_23 rfl rfl ?_
        refine q_iload_n dX8_mostLike_71 rfl ?_
        refine q_S1 dX8_mostLike_72 ml_8_94 md_X8_span (m_span (by omega)) rfl (by first | decide | omega) (Nat.le_of_ble_eq_true rfl) (Nat.le_of_ble_eq_true rfl) (qk_e ?_)
        refine q_iload dX8_mostLike_75 rfl ?_
        refine q_imul dX8_mostLike_77 ?_
        refine q_iload dX8_mostLike_78 rfl ?_
        refine q_iadd dX8_mostLike_80 ?_
        refine q_iald dX8_mostLike_81 rfl (by (first | (unfold zR; omega) | (unfold zLR; omega) | omega | (simp only [zR, qup] at *; omega) | (simp [zR, qup]; omega) | (simp [zR, qup]; done))) (Nat.le_of_ble_eq_true rfl) ?_
        rw [fW_42 (show 0 ≤ p4 x * i + j ∧ p4 x * i + j < p4 L by omega)]
        refine q_ixor dX8_mostLike_82 ?_
        refine q_S1 dX8_mostLike_83 ml_8_347 md_X8_onesOf (m_onesOf (zxor_in hb1 hb2)) rfl (by first | decide | omega) (Nat.le_of_ble_eq_true rfl) (Nat.le_of_ble_eq_true rfl) (qk_e ?_)
        refine q_iadd dX8_mostLike_86 ?_
        refine q_istore dX8_mostLike_87 (Nat.le_of_ble_eq_true rfl) rfl ?_
        refine q_iinc dX8_mostLike_89 rfl (Nat.le_of_ble_eq_true rfl) rfl ?_
        refine q_goto (tgt := 42) dX8_mostLike_92 rfl ?_
        exact ih2 (j + 1) _ _ ⟨by omega, by omega⟩ (by omega) (by rw [hzs]; rfl) rfl
      have hjp : j = p4 x := by omega
      subst hjp
      have hun : zsum (fun u => zpop (zxor (scl M k (p4 x * y + u)) (scl M k (p4 x * i + u)))) 0 (p4 x).toNat = unl (scl M k) (scl M k) (p4 x * y) (p4 x * i) (p4 x) := rfl
      rw [hun]
      refine q_iload dX8_mostLike_95 rfl ?_
      refine q_iload_n dX8_mostLike_97 rfl ?_
      refine q_icmp_eq (tgt := 122) dX8_mostLike_98 rfl (by (first | (unfold zR; omega) | (unfold zLR; omega) | omega | (simp only [zR, qup] at *; omega) | (simp [zR, qup]; omega) | (simp [zR, qup]; done))) (by (first | (unfold zR; omega) | (unfold zLR; omega) | omega | (simp only [zR, qup] at *; omega) | (simp [zR, qup]; omega) | (simp [zR, qup]; done))) (fun h98 => ?_) (fun h98 => ?_)
      ·
        refine q_iinc dX8_mostLike_122 rfl (Nat.le_of_ble_eq_true rfl) rfl ?_
        refine q_goto (tgt := 26) dX8_mostLike_125 rfl ?_
        have e1 : bst (fun u => unl (scl M k) (scl M k) (p4 x * y) (p4 x * u) (p4 x)) y 0 (i + 1) = w := by rw [hbs, if_neg (fun q => q.1 h98)]
        refine q_wk _ ?_ (ih (i + 1) _ _ (by omega) (by omega) rfl rfl)
        simp only [wkB, e1, hlw]
        (repeat (first | exact rfl | exact trivial | refine ⟨rfl, ?_⟩))
      ·
        refine q_iload dX8_mostLike_101 rfl ?_
        refine q_iconst dX8_mostLike_103 ?_
        refine q_icmp_eq (tgt := 114) dX8_mostLike_104 rfl (by (first | (unfold zR; omega) | (unfold zLR; omega) | omega | (simp only [zR, qup] at *; omega) | (simp [zR, qup]; omega) | (simp [zR, qup]; done))) (by (first | (unfold zR; omega) | (unfold zLR; omega) | omega | (simp only [zR, qup] at *; omega) | (simp [zR, qup]; omega) | (simp [zR, qup]; done))) (fun h104 => ?_) (fun h104 => ?_)
        ·
          refine q_iload dX8_mostLike_114 rfl ?_
          refine q_istore dX8_mostLike_116 (Nat.le_of_ble_eq_true rfl) rfl ?_
          refine q_iload dX8_mostLike_118 rfl ?_
          refine q_istore dX8_mostLike_120 (Nat.le_of_ble_eq_true rfl) rfl ?_
          refine q_iinc dX8_mostLike_122 rfl (Nat.le_of_ble_eq_true rfl) rfl ?_
          refine q_goto (tgt := 26) dX8_mostLike_125 rfl ?_
          have e1 : bst (fun u => unl (scl M k) (scl M k) (p4 x * y) (p4 x * u) (p4 x)) y 0 (i + 1) = i := by rw [hbs, if_pos ⟨h98, Or.inl h104⟩]
          refine q_wk _ ?_ (ih (i + 1) _ _ (by omega) (by omega) rfl rfl)
          simp only [wkB, e1, e2]
          (repeat (first | exact rfl | exact trivial | refine ⟨rfl, ?_⟩))
        ·
          refine q_iload dX8_mostLike_107 rfl ?_
          refine q_iload dX8_mostLike_109 rfl ?_
          refine q_icmp_ge (tgt := 122) dX8_mostLike_111 rfl (by (first | (unfold zR; omega) | (unfold zLR; omega) | omega | (simp only [zR, qup] at *; omega) | (simp [zR, qup]; omega) | (simp [zR, qup]; done))) (by (first | (unfold zR; omega) | (unfold zLR; omega) | omega | (simp only [zR, qup] at *; omega) | (simp [zR, qup]; omega) | (simp [zR, qup]; done))) (fun h111 => ?_) (fun h111 => ?_)
          ·
            refine q_iinc dX8_mostLike_122 rfl (Nat.le_of_ble_eq_true rfl) rfl ?_
            refine q_goto (tgt := 26) dX8_mostLike_125 rfl ?_
            have e1 : bst (fun u => unl (scl M k) (scl M k) (p4 x * y) (p4 x * u) (p4 x)) y 0 (i + 1) = w := by rw [hbs, if_neg (fun q => q.2.elim (fun q => h104 q) (fun q => by rw [if_neg h104] at hlw; omega))]
            refine q_wk _ ?_ (ih (i + 1) _ _ (by omega) (by omega) rfl rfl)
            simp only [wkB, e1, hlw]
            (repeat (first | exact rfl | exact trivial | refine ⟨rfl, ?_⟩))
          ·
            refine q_iload dX8_mostLike_114 rfl ?_
            refine q_istore dX8_mostLike_116 (Nat.le_of_ble_eq_true rfl) rfl ?_
            refine q_iload dX8_mostLike_118 rfl ?_
            refine q_istore dX8_mostLike_120 (Nat.le_of_ble_eq_true rfl) rfl ?_
            refine q_iinc dX8_mostLike_122 rfl (Nat.le_of_ble_eq_true rfl) rfl ?_
            refine q_goto (tgt := 26) dX8_mostLike_125 rfl ?_
            have e1 : bst (fun u => unl (scl M k) (scl M k) (p4 x * y) (p4 x * u) (p4 x)) y 0 (i + 1) = i := by rw [hbs, if_pos ⟨h98, Or.inr (by rw [if_neg h104] at hlw; omega)⟩]
            refine q_wk _ ?_ (ih (i + 1) _ _ (by omega) (by omega) rfl rfl)
            simp only [wkB, e1, e2]
            (repeat (first | exact rfl | exact trivial | refine ⟨rfl, ?_⟩))
    refine q_iload dX8_mostLike_128 rfl ?_
    refine q_ireturn dX8_mostLike_130 ?_
    exact mpx_k hg ⟨by rw [← hgw, show (p4 ((L : Int) - x)).toNat = i by omega], fW_MS M 0 L k⟩
  ·
    refine q_iconst dX8_mostLike_10 ?_
    refine q_ireturn dX8_mostLike_11 ?_
    exact mpx_g (zbn h7)
set_option maxHeartbeats 2000000 in
theorem m_keepsAll (h7 : 0 ≤ M 37 7 ∧ M 37 7 ≤ 8) : qCt mX8_keepsAll 0 1 [.ref 37] M (qpv (kaW M)) := by
  refine q_intro (own := 8) (L := [some (.ref 37), none]) md_X8_keepsAll rfl rfl rfl (Nat.le_of_ble_eq_true rfl) (fun X => ?_)
  refine q_aload_n dX8_keepsAll_0 rfl ?_
  refine q_geti (j := 7) dX8_keepsAll_1 fl_8_280 rfl rfl rfl ?_
  refine q_bipush dX8_keepsAll_4 rfl ?_
  refine q_icmp_ne (tgt := 50) dX8_keepsAll_6 rfl (by (first | (unfold zR; omega) | (unfold zLR; omega) | omega | (simp only [zR, qup] at *; omega) | (simp [zR, qup]; omega) | (simp [zR, qup]; done))) (by (first | (unfold zR; omega) | (unfold zLR; omega) | omega | (simp only [zR, qup] at *; omega) | (simp [zR, qup]; omega) | (simp [zR, qup]; done))) (fun h6 => ?_) (fun h6 => ?_)
  ·
    refine q_aload_n dX8_keepsAll_50 rfl ?_
    refine q_iconst dX8_keepsAll_51 ?_
    refine q_aload_n dX8_keepsAll_52 rfl ?_
    refine q_geti (j := 7) dX8_keepsAll_53 fl_8_280 rfl rfl rfl ?_
    refine q_iadd dX8_keepsAll_56 ?_
    refine q_V1 dX8_keepsAll_57 ml_8_387 md_X8_keeps (m_keeps (by omega)) rfl rfl rfl (by first | decide | omega) (Nat.le_of_ble_eq_true rfl) (Nat.le_of_ble_eq_true rfl) (qk_v ?_)
    refine q_aload_n dX8_keepsAll_60 rfl ?_
    refine q_dup dX8_keepsAll_61 rfl ?_
    refine q_geti (j := 7) dX8_keepsAll_62 fl_8_280 rfl rfl rfl ?_
    refine q_iconst dX8_keepsAll_65 ?_
    refine q_iadd dX8_keepsAll_66 ?_
    refine q_puti (j := 7) dX8_keepsAll_67 fl_8_280 rfl rfl rfl rfl rfl ?_
    refine q_return dX8_keepsAll_70 ?_
    refine ⟨rfl, ?_⟩
    rw [Int.zero_add]
    funext u i
    unfold kaW
    by_cases g : u = 37 ∧ i = 7
    · obtain ⟨rfl, rfl⟩ := g
      rw [qup_s, if_pos ⟨rfl, rfl⟩, if_neg h6]
      unfold kpW
      rw [if_neg (fun w => by have := w.1; omega)]
    · have e : qup (kpW M (M 37 7) 1536) 37 7 (kpW M (M 37 7) 1536 37 7 + 1) u i = kpW M (M 37 7) 1536 u i := by
        by_cases g2 : u = 37
        · subst g2; exact qup_k _ _ _ (fun w => g ⟨rfl, w⟩)
        · exact qup_o _ _ _ _ g2
      rw [if_neg g, e]
      unfold kpW
      by_cases g2 : u = 40
      · subst g2
        rw [if_pos rfl, if_neg h6]
        by_cases w : 1536 * M 37 7 ≤ i ∧ i < 1536 * M 37 7 + 1536
        · rw [if_pos w, if_pos ⟨rfl, w⟩]
        · rw [if_neg w, if_neg (fun q => w q.2)]
      · rw [if_neg g2, if_neg (fun w => g2 w.1)]
  ·
    refine q_iconst dX8_keepsAll_9 ?_
    refine q_istore_n dX8_keepsAll_10 (Nat.le_of_ble_eq_true rfl) rfl ?_
    refine q_lp (fun i : Int => (10752 - i).toNat) (fun i => 0 ≤ i ∧ i ≤ 10752) (fun i => [some (.ref 37), some (.int (zI i))]) (fun i => shW M i) 0 rfl (by funext u j; unfold shW; rw [if_neg (by omega)]) ⟨by omega, by omega⟩ (fun i hi ih => ?_)
    refine q_iload_n dX8_keepsAll_11 rfl ?_
    refine q_sipush dX8_keepsAll_12 rfl ?_
    refine q_icmp_ge (tgt := 40) dX8_keepsAll_15 rfl (by (first | (unfold zR; omega) | (unfold zLR; omega) | omega | (simp only [zR, qup] at *; omega) | (simp [zR, qup]; omega) | (simp [zR, qup]; done))) (by (first | (unfold zR; omega) | (unfold zLR; omega) | omega | (simp only [zR, qup] at *; omega) | (simp [zR, qup]; omega) | (simp [zR, qup]; done))) (fun h15 => ?_) (fun h15 => ?_)
    rotate_left
    ·
      refine q_aload_n dX8_keepsAll_18 rfl ?_
      refine q_getr dX8_keepsAll_19 fl_8_16 rfl rfl ?_
      refine q_iload_n dX8_keepsAll_22 rfl ?_
      refine q_aload_n dX8_keepsAll_23 rfl ?_
      refine q_getr dX8_keepsAll_24 fl_8_16 rfl rfl ?_
      refine q_iload_n dX8_keepsAll_27 rfl ?_
      refine q_sipush dX8_keepsAll_28 rfl ?_
      refine q_iadd dX8_keepsAll_31 ?_
      refine q_iald dX8_keepsAll_32 rfl (by (first | (unfold zR; omega) | (unfold zLR; omega) | omega | (simp only [zR, qup] at *; omega) | (simp [zR, qup]; omega) | (simp [zR, qup]; done))) (Nat.le_of_ble_eq_true rfl) ?_
      rw [show shW M i 40 (i + 1536) = M 40 (i + 1536) by unfold shW; rw [if_neg (by omega)]]
      refine q_iast dX8_keepsAll_33 rfl (by (first | (unfold zR; omega) | (unfold zLR; omega) | omega | (simp only [zR, qup] at *; omega) | (simp [zR, qup]; omega) | (simp [zR, qup]; done))) (Nat.le_of_ble_eq_true rfl) ?_
      refine q_iinc dX8_keepsAll_34 rfl (Nat.le_of_ble_eq_true rfl) rfl ?_
      refine q_goto (tgt := 11) dX8_keepsAll_37 rfl ?_
      exact ih (i + 1) _ _ ⟨by omega, by omega⟩ (by omega) rfl (by
        funext u j
        by_cases g : u = 40
        · subst g
          by_cases g2 : j = i
          · subst g2; rw [qup_s]; unfold shW; rw [if_pos ⟨rfl, by omega, by omega⟩]
          · rw [qup_k _ _ _ g2]; unfold shW
            by_cases g3 : 0 ≤ j ∧ j < i
            · rw [if_pos ⟨rfl, g3⟩, if_pos ⟨rfl, g3.1, by omega⟩]
            · rw [if_neg (fun w => g3 w.2), if_neg (by omega)]
        · rw [qup_o _ _ _ _ g]; unfold shW; rw [if_neg (fun w => g w.1), if_neg (fun w => g w.1)])
    have hi2 : i = 10752 := by omega
    subst hi2
    have e7 : shW M 10752 37 7 = 8 := by unfold shW; rw [if_neg (fun w => by have := w.1; omega)]; omega
    refine q_aload_n dX8_keepsAll_40 rfl ?_
    refine q_dup dX8_keepsAll_41 rfl ?_
    refine q_geti (j := 7) dX8_keepsAll_42 fl_8_280 rfl rfl rfl ?_
    refine q_iconst dX8_keepsAll_45 ?_
    rw [e7]
    refine q_isub dX8_keepsAll_46 ?_
    refine q_puti (j := 7) dX8_keepsAll_47 fl_8_280 rfl rfl rfl rfl rfl ?_
    refine q_aload_n dX8_keepsAll_50 rfl ?_
    refine q_iconst dX8_keepsAll_51 ?_
    refine q_aload_n dX8_keepsAll_52 rfl ?_
    refine q_geti (j := 7) dX8_keepsAll_53 fl_8_280 rfl rfl rfl ?_
    refine q_iadd dX8_keepsAll_56 ?_
    refine q_V1 dX8_keepsAll_57 ml_8_387 md_X8_keeps (m_keeps (k := 7) (by omega)) rfl rfl rfl (by first | decide | omega) (Nat.le_of_ble_eq_true rfl) (Nat.le_of_ble_eq_true rfl) (qk_v ?_)
    refine q_aload_n dX8_keepsAll_60 rfl ?_
    refine q_dup dX8_keepsAll_61 rfl ?_
    refine q_geti (j := 7) dX8_keepsAll_62 fl_8_280 rfl rfl rfl ?_
    refine q_iconst dX8_keepsAll_65 ?_
    refine q_iadd dX8_keepsAll_66 ?_
    refine q_puti (j := 7) dX8_keepsAll_67 fl_8_280 rfl rfl rfl rfl rfl ?_
    refine q_return dX8_keepsAll_70 ?_
    refine ⟨rfl, ?_⟩
    funext u i
    have h8 : M 37 7 = 8 := by omega
    unfold kaW
    by_cases g : u = 37 ∧ i = 7
    · obtain ⟨rfl, rfl⟩ := g
      rw [qup_s, if_pos ⟨rfl, rfl⟩, if_pos h8]
      unfold kpW
      rw [if_neg (fun w => by have := w.1; omega), qup_s]
      rfl
    · rw [if_neg g]
      have e : ∀ (W : qM) (v : Int), qup W 37 7 v u i = W u i := fun W v => by
        by_cases g2 : u = 37
        · subst g2; exact qup_k _ _ _ (fun w => g ⟨rfl, w⟩)
        · exact qup_o _ _ _ _ g2
      rw [e]
      unfold kpW
      by_cases g2 : u = 40
      · subst g2
        rw [if_pos rfl, if_pos h8]
        by_cases w2 : 10752 ≤ i ∧ i < 12288
        · rw [if_pos ⟨rfl, by omega, by omega⟩, if_neg (by omega), if_pos w2, qup_o _ _ _ _ (by decide)]
          unfold shW
          rw [if_neg (fun w => by have := w.1; omega)]
          rfl
        · rw [if_neg (by omega), e]
          unfold shW
          by_cases w : 0 ≤ i ∧ i < 10752
          · rw [if_pos w, if_pos ⟨rfl, w⟩]
          · rw [if_neg w, if_neg w2, if_neg (fun q => w q.2)]
      · rw [if_neg g2, if_neg (fun w => g2 w.1), e]
        unfold shW
        rw [if_neg (fun w => g2 w.1)]
theorem m_fetchN (hM : MI N) (hL : N 37 2 = (L : Int)) (hk : 0 ≤ k ∧ k < 6) : qCt mX8_fetches 0 1 [.ref 37, .int (zI k)] N (qpv (fW N (N 37 0) L k)) := by
  have h := m_fetchG (M := N) (g := N 37 0) hM hL hk
  rw [qup_id] at h
  exact h
theorem MS_fN (N : qM) (L : Nat) (k : Int) : MS N (fW N (N 37 0) L k) := by
  have h := fW_MS N (N 37 0) L k
  rw [qup_id] at h
  exact h
set_option maxHeartbeats 1500000 in
theorem o_fill (hM : MI M) (hL : M 37 2 = (L : Int)) (hk : zR k) (hf : zR f) (ht : zR t) (hb : zR b) : qCt mX8_fill 0 4 [.ref 37, .int (zI k), .int (zI f), .int (zI t), .int (zI b)] M (mpx (gor (gor (gG M k) (mRg M f t)) (gBit b)) (fun z M' => z = (if b = 1 then t - f + 1 - zsum (bitP (scl M k)) f (t - f + 1).toNat else zsum (bitP (scl M k)) f (t - f + 1).toNat) ∧ MS (putF (kaW (qup M 37 0 0)) k L (covF (scl M k) f t b)) M') M) := by
  have hL4 : L ≤ 4 := by have := hM.2.1; omega
  have z01 := zb_01 (b = 0 ∨ b = 1)
  have hN := MI_ka (MI_g hM 0)
  have hNL : kaW (qup M 37 0 0) 37 2 = (L : Int) := by rw [kaW_37 (by decide), qup_k _ _ _ (by decide)]; exact hL
  have hNs : scl (kaW (qup M 37 0 0)) k = scl M k := by rw [kaW_scl, scl_g]
  refine q_intro (own := 8) (L := [some (.ref 37), some (.int (zI k)), some (.int (zI f)), some (.int (zI t)), some (.int (zI b)), none]) md_X8_fill rfl rfl rfl (Nat.le_of_ble_eq_true rfl) (fun X => ?_)
  refine q_aload_n dX8_fill_0 rfl ?_
  refine q_iload_n dX8_fill_1 rfl ?_
  refine q_iload_n dX8_fill_2 rfl ?_
  refine q_iload_n dX8_fill_3 rfl ?_
  refine q_V3 dX8_fill_4 ml_8_302 md_X8_noRange (m_noRange hM hk hf ht) rfl rfl rfl (by first | decide | omega) (Nat.le_of_ble_eq_true rfl) (Nat.le_of_ble_eq_true rfl) (qk_e ?_)
  refine q_if_ne (tgt := 31) dX8_fill_7 rfl (by exact zb_R _) (fun h7 => ?_) (fun h7 => ?_)
  ·
    refine q_iconst dX8_fill_31 ?_
    refine q_ireturn dX8_fill_32 ?_
    exact mpx_g2 (zbn h7)
  ·
    refine q_aload_n dX8_fill_10 rfl ?_
    refine q_iload dX8_fill_11 rfl ?_
    refine q_S1 dX8_fill_13 ml_8_308 md_X8_isBit (m_isBit hb) rfl (by first | decide | omega) (Nat.le_of_ble_eq_true rfl) (Nat.le_of_ble_eq_true rfl) (qk_e ?_)
    refine q_if_ne (tgt := 23) dX8_fill_16 rfl (by (first | (unfold zR; omega) | (unfold zLR; omega) | omega | (simp only [zR, qup] at *; omega) | (simp [zR, qup]; omega) | (simp [zR, qup]; done))) (fun h16 => ?_) (fun h16 => ?_)
    ·
      refine q_iconst dX8_fill_23 ?_
      refine q_iconst dX8_fill_24 ?_
      have hgb : (if (0 : Int) = 1 then (3 : Int) else 0) = gBit b := (if_pos (zb_1.1 (by omega))).symm
      refine q_V2 dX8_fill_25 ml_8_64 md_X8_refuse (m_refH (by omega) (gor_R (gor_R (mT_R M) mMp_R) (ite_R (by unfold zR; omega) (by unfold zR; omega))) (by (first | (unfold zR; omega) | (unfold zLR; omega) | omega | (simp only [zR, qup] at *; omega) | (simp [zR, qup]; omega) | (simp [zR, qup]; done))) hgb) rfl rfl rfl (by first | decide | omega) (Nat.le_of_ble_eq_true rfl) (Nat.le_of_ble_eq_true rfl) (qk_e ?_)
      refine q_if_eq (tgt := 33) dX8_fill_28 rfl (by exact zb_R _) (fun h28 => ?_) (fun h28 => ?_)
      ·
        have hg := zbz h28
        have hg1 := gor_00.1 hg
        have hg2 := gor_00.1 hg1.1
        have hgk := gG_0 hM hg2.1
        have hps := mRg_0 hL hg2.2
        have hbb := gBit_0.1 hg1.2
        rw [hg]
        refine q_aload_n dX8_fill_33 rfl ?_
        refine q_V0 dX8_fill_34 ml_8_390 md_X8_keepsAll (m_keepsAll (by rw [qup_k _ _ _ (by decide)]; exact hM.2.2.2.2.2.2.1)) rfl rfl rfl (by first | decide | omega) (Nat.le_of_ble_eq_true rfl) (Nat.le_of_ble_eq_true rfl) (qk_v ?_)
        refine q_aload_n dX8_fill_37 rfl ?_
        refine q_iload_n dX8_fill_38 rfl ?_
        refine q_V1 dX8_fill_39 ml_8_117 md_X8_fetches (m_fetchN hN hNL (by omega)) rfl rfl rfl (by first | decide | omega) (Nat.le_of_ble_eq_true rfl) (Nat.le_of_ble_eq_true rfl) (qk_v ?_)
        refine q_aload_n dX8_fill_42 rfl ?_
        refine q_iload_n dX8_fill_43 rfl ?_
        refine q_iload_n dX8_fill_44 rfl ?_
        refine q_iload dX8_fill_45 rfl ?_
        refine q_V3 dX8_fill_47 ml_8_366 md_X8_fillsHere (m_fillsHere hL4 hps hbb (fun j j0 j1 => fW_b hN (by omega) ⟨j0, j1⟩)) rfl rfl rfl (by first | decide | omega) (Nat.le_of_ble_eq_true rfl) (Nat.le_of_ble_eq_true rfl) (qk_g (fun z47 N47 hq47 => ?_))
        obtain ⟨hz, Gq, rfl, hG, hE⟩ := hq47
        have he : cE (fW (kaW (qup M 37 0 0)) (kaW (qup M 37 0 0) 37 0) L k 42) (scl M k) L := fun i i0 i1 => by rw [fW_42 ⟨i0, i1⟩, hNs]
        refine q_istore dX8_fill_50 (Nat.le_of_ble_eq_true rfl) rfl ?_
        refine q_aload_n dX8_fill_52 rfl ?_
        refine q_iload_n dX8_fill_53 rfl ?_
        refine q_V1 dX8_fill_54 ml_8_393 md_X8_puts (m_puts (L := L) (by rw [rowF_o _ _ (by decide)]; exact fW_9) hL4 (by omega)) rfl rfl rfl (by first | decide | omega) (Nat.le_of_ble_eq_true rfl) (Nat.le_of_ble_eq_true rfl) (qk_v ?_)
        refine q_iload dX8_fill_57 rfl ?_
        refine q_ireturn dX8_fill_59 ?_
        exact mpx_k hg ⟨by rw [hz, zsum_bit_e he hps.1 (by omega)], MS_put (MS_tr (MS_fN _ L k) (rowF_MS _ _)) (cE_tr hE (cov_e he f t b))⟩
      ·
        refine q_iconst dX8_fill_31 ?_
        refine q_ireturn dX8_fill_32 ?_
        exact mpx_g (zbn h28)
    ·
      refine q_iconst dX8_fill_19 ?_
      refine q_goto (tgt := 24) dX8_fill_20 rfl ?_
      refine q_iconst dX8_fill_24 ?_
      have hgb : (if (1 : Int) = 1 then (3 : Int) else 0) = gBit b := (if_neg (zb_0.1 (by omega))).symm
      refine q_V2 dX8_fill_25 ml_8_64 md_X8_refuse (m_refH (by omega) (gor_R (gor_R (mT_R M) mMp_R) (ite_R (by unfold zR; omega) (by unfold zR; omega))) (by (first | (unfold zR; omega) | (unfold zLR; omega) | omega | (simp only [zR, qup] at *; omega) | (simp [zR, qup]; omega) | (simp [zR, qup]; done))) hgb) rfl rfl rfl (by first | decide | omega) (Nat.le_of_ble_eq_true rfl) (Nat.le_of_ble_eq_true rfl) (qk_e ?_)
      refine q_if_eq (tgt := 33) dX8_fill_28 rfl (by exact zb_R _) (fun h28 => ?_) (fun h28 => ?_)
      ·
        have hg := zbz h28
        have hg1 := gor_00.1 hg
        have hg2 := gor_00.1 hg1.1
        have hgk := gG_0 hM hg2.1
        have hps := mRg_0 hL hg2.2
        have hbb := gBit_0.1 hg1.2
        rw [hg]
        refine q_aload_n dX8_fill_33 rfl ?_
        refine q_V0 dX8_fill_34 ml_8_390 md_X8_keepsAll (m_keepsAll (by rw [qup_k _ _ _ (by decide)]; exact hM.2.2.2.2.2.2.1)) rfl rfl rfl (by first | decide | omega) (Nat.le_of_ble_eq_true rfl) (Nat.le_of_ble_eq_true rfl) (qk_v ?_)
        refine q_aload_n dX8_fill_37 rfl ?_
        refine q_iload_n dX8_fill_38 rfl ?_
        refine q_V1 dX8_fill_39 ml_8_117 md_X8_fetches (m_fetchN hN hNL (by omega)) rfl rfl rfl (by first | decide | omega) (Nat.le_of_ble_eq_true rfl) (Nat.le_of_ble_eq_true rfl) (qk_v ?_)
        refine q_aload_n dX8_fill_42 rfl ?_
        refine q_iload_n dX8_fill_43 rfl ?_
        refine q_iload_n dX8_fill_44 rfl ?_
        refine q_iload dX8_fill_45 rfl ?_
        refine q_V3 dX8_fill_47 ml_8_366 md_X8_fillsHere (m_fillsHere hL4 hps hbb (fun j j0 j1 => fW_b hN (by omega) ⟨j0, j1⟩)) rfl rfl rfl (by first | decide | omega) (Nat.le_of_ble_eq_true rfl) (Nat.le_of_ble_eq_true rfl) (qk_g (fun z47 N47 hq47 => ?_))
        obtain ⟨hz, Gq, rfl, hG, hE⟩ := hq47
        have he : cE (fW (kaW (qup M 37 0 0)) (kaW (qup M 37 0 0) 37 0) L k 42) (scl M k) L := fun i i0 i1 => by rw [fW_42 ⟨i0, i1⟩, hNs]
        refine q_istore dX8_fill_50 (Nat.le_of_ble_eq_true rfl) rfl ?_
        refine q_aload_n dX8_fill_52 rfl ?_
        refine q_iload_n dX8_fill_53 rfl ?_
        refine q_V1 dX8_fill_54 ml_8_393 md_X8_puts (m_puts (L := L) (by rw [rowF_o _ _ (by decide)]; exact fW_9) hL4 (by omega)) rfl rfl rfl (by first | decide | omega) (Nat.le_of_ble_eq_true rfl) (Nat.le_of_ble_eq_true rfl) (qk_v ?_)
        refine q_iload dX8_fill_57 rfl ?_
        refine q_ireturn dX8_fill_59 ?_
        exact mpx_k hg ⟨by rw [hz, zsum_bit_e he hps.1 (by omega)], MS_put (MS_tr (MS_fN _ L k) (rowF_MS _ _)) (cE_tr hE (cov_e he f t b))⟩
      ·
        refine q_iconst dX8_fill_31 ?_
        refine q_ireturn dX8_fill_32 ?_
        exact mpx_g (zbn h28)
set_option maxHeartbeats 1500000 in
theorem o_shift (hM : MI M) (hL : M 37 2 = (L : Int)) (hk : zR k) (hb : zR b) : qCt mX8_shift 0 4 [.ref 37, .int (zI k), .int (zI b)] M (mpx (gG M k) (fun z M' => z = zsum (bitP (scl M k)) 0 (8 * p4 L).toNat - zsum (bitP (mkF (shS (scl M k) b (8 * p4 L)) 0 (8 * p4 L))) 0 (8 * p4 L).toNat ∧ MS (putF (kaW (qup M 37 0 0)) k L (mkF (shS (scl M k) b (8 * p4 L)) 0 (8 * p4 L))) M') M) := by
  have hL4 : L ≤ 4 := by have := hM.2.1; omega
  have hpL := p4_in (L : Int)
  have hN := MI_ka (MI_g hM 0)
  have hNL : kaW (qup M 37 0 0) 37 2 = (L : Int) := by rw [kaW_37 (by decide), qup_k _ _ _ (by decide)]; exact hL
  have hNs : scl (kaW (qup M 37 0 0)) k = scl M k := by rw [kaW_scl, scl_g]
  refine q_intro (own := 8) (L := [some (.ref 37), some (.int (zI k)), some (.int (zI b)), none]) md_X8_shift rfl rfl rfl (Nat.le_of_ble_eq_true rfl) (fun X => ?_)
  refine q_aload_n dX8_shift_0 rfl ?_
  refine q_iload_n dX8_shift_1 rfl ?_
  refine q_V1 dX8_shift_2 ml_8_292 md_X8_noMap (m_noMap hM.1 hM.2.2.2.1 hk) rfl rfl rfl (by first | decide | omega) (Nat.le_of_ble_eq_true rfl) (Nat.le_of_ble_eq_true rfl) (qk_e ?_)
  refine q_if_eq (tgt := 10) dX8_shift_5 rfl (by exact zb_R _) (fun h5 => ?_) (fun h5 => ?_)
  ·
    have hg : gG M k = 0 := zbz h5
    have hgk := gG_0 hM hg
    rw [show gor (mT M) (mMp M k) = 0 from hg]
    refine q_aload_n dX8_shift_10 rfl ?_
    refine q_V0 dX8_shift_11 ml_8_390 md_X8_keepsAll (m_keepsAll (by rw [qup_k _ _ _ (by decide)]; exact hM.2.2.2.2.2.2.1)) rfl rfl rfl (by first | decide | omega) (Nat.le_of_ble_eq_true rfl) (Nat.le_of_ble_eq_true rfl) (qk_v ?_)
    refine q_aload_n dX8_shift_14 rfl ?_
    refine q_iload_n dX8_shift_15 rfl ?_
    refine q_V1 dX8_shift_16 ml_8_117 md_X8_fetches (m_fetchN hN hNL (by omega)) rfl rfl rfl (by first | decide | omega) (Nat.le_of_ble_eq_true rfl) (Nat.le_of_ble_eq_true rfl) (qk_v ?_)
    refine q_aload_n dX8_shift_19 rfl ?_
    refine q_iload_n dX8_shift_20 rfl ?_
    refine q_V1 dX8_shift_21 ml_8_369 md_X8_shiftsHere (m_shiftsHere hL4 fW_9 hb (fun j j0 j1 => fW_b hN (by omega) ⟨j0, j1⟩)) rfl rfl rfl (by first | decide | omega) (Nat.le_of_ble_eq_true rfl) (Nat.le_of_ble_eq_true rfl) (qk_g (fun z21 N21 hq21 => ?_))
    obtain ⟨hz, Gq, rfl, hG, hE⟩ := hq21
    have he : cE (fW (kaW (qup M 37 0 0)) (kaW (qup M 37 0 0) 37 0) L k 42) (scl M k) L := fun i i0 i1 => by rw [fW_42 ⟨i0, i1⟩, hNs]
    rw [show shS (fW (kaW (qup M 37 0 0)) (kaW (qup M 37 0 0) 37 0) L k 42) b (8 * p4 L) = shS (scl M k) b (8 * p4 L) by funext q; exact shS_e he b q] at hE hz
    refine q_istore_n dX8_shift_24 (Nat.le_of_ble_eq_true rfl) rfl ?_
    refine q_aload_n dX8_shift_25 rfl ?_
    refine q_iload_n dX8_shift_26 rfl ?_
    refine q_V1 dX8_shift_27 ml_8_393 md_X8_puts (m_puts (L := L) (by rw [rowF_o _ _ (by decide)]; exact fW_9) hL4 (by omega)) rfl rfl rfl (by first | decide | omega) (Nat.le_of_ble_eq_true rfl) (Nat.le_of_ble_eq_true rfl) (qk_v ?_)
    refine q_iload_n dX8_shift_30 rfl ?_
    refine q_ireturn dX8_shift_31 ?_
    exact mpx_k hg ⟨by rw [hz, zsum_bit_e he (Int.le_refl 0) (by omega)], MS_put (MS_tr (MS_fN _ L k) (rowF_MS _ _)) hE⟩
  ·
    refine q_iconst dX8_shift_8 ?_
    refine q_ireturn dX8_shift_9 ?_
    exact mpx_g (zbn h5)
end MK


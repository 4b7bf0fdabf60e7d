/-! The model: tells, teller, told. -/
theorem zdiv_i {a b : Int} (h0 : 0 ≤ a) (h1 : a < 2147483648) (b0 : 0 < b) (b1 : b < 2147483648) : zdiv a b = a / b := by
  obtain ⟨n, rfl⟩ := Int.eq_ofNat_of_zero_le h0
  obtain ⟨m, rfl⟩ := Int.eq_ofNat_of_zero_le (show 0 ≤ b by omega)
  rw [zdiv_nat (by omega) (by omega) (by omega)]
  exact Int.natCast_ediv n m
theorem zrem_i {a b : Int} (h0 : 0 ≤ a) (h1 : a < 2147483648) (b0 : 0 < b) (b1 : b < 2147483648) : zrem a b = a % b := by
  obtain ⟨n, rfl⟩ := Int.eq_ofNat_of_zero_le h0
  obtain ⟨m, rfl⟩ := Int.eq_ofNat_of_zero_le (show 0 ≤ b by omega)
  rw [zrem_nat (by omega) (by omega) (by omega)]
  exact Int.natCast_emod n m
theorem tl_div {p : Int} {k : Nat} (hk : k < 4) (hp : 0 ≤ p) : p % (8 * p4 ((k + 1 : Nat) : Int)) / (8 * p4 (k : Int)) = p / 8 / p4 (k : Int) % 4 ∧ p % (8 * p4 ((k + 1 : Nat) : Int)) % (8 * p4 (k : Int)) = p % (8 * p4 (k : Int)) := by
  have e : k = 0 ∨ k = 1 ∨ k = 2 ∨ k = 3 := by omega
  rcases e with rfl | rfl | rfl | rfl
  · rw [show p4 ((0 + 1 : Nat) : Int) = 4 by decide, show p4 ((0 : Nat) : Int) = 1 by decide]; omega
  · rw [show p4 ((1 + 1 : Nat) : Int) = 16 by decide, show p4 ((1 : Nat) : Int) = 4 by decide]; omega
  · rw [show p4 ((2 + 1 : Nat) : Int) = 64 by decide, show p4 ((2 : Nat) : Int) = 16 by decide]; omega
  · rw [show p4 ((3 + 1 : Nat) : Int) = 256 by decide, show p4 ((3 : Nat) : Int) = 64 by decide]; omega
section MT
variable {M N : qM} {L l : Nat} {c T K F S : Int → Int} {k o x y a b v p q f t n g i : Int}
theorem bcode_q {k : Nat} {j : Nat} (hk : k + 1 ≤ L) (hs : sr c L 0 (L - (k + 1)) b ≠ -1) (hj : j < 4) : bcode c L (L - k) (4 * b + j) = qcode c k b j := by
  obtain ⟨d, hd⟩ : ∃ d, L - k = d + 1 := ⟨L - k - 1, by omega⟩
  rw [show L - (k + 1) = d by omega] at hs
  rw [hd]
  show (if sr c L 0 d ((4 * b + j) / 4) ≠ -1 then qcode c ((L : Int) - d - 1) ((4 * b + j) / 4) ((4 * b + j) % 4).toNat else -1) = _
  rw [show (4 * b + (j : Int)) / 4 = b by omega, if_pos hs, show ((4 * b + (j : Int)) % 4).toNat = j by omega, show (L : Int) - d - 1 = k by omega]
theorem sr_kid {k : Nat} {j : Nat} (hk : k + 1 ≤ L) (hs : sr c L 0 (L - (k + 1)) b ≠ -1) (hj : j < 4) (hq : qcode c k b j = 2) : sr c L 0 (L - k) (4 * b + j) ≠ -1 := by
  obtain ⟨d, hd⟩ : ∃ d, L - k = d + 1 := ⟨L - k - 1, by omega⟩
  rw [show L - (k + 1) = d by omega] at hs
  have h0 := (sr_nn (c := c) (l := L) (Int.le_refl 0) d b).resolve_left hs
  rw [hd, sr_s, show (4 * b + (j : Int)) / 4 = b by omega, show ((4 * b + (j : Int)) % 4).toNat = j by omega, show (L : Int) - d - 1 = k by omega, if_pos ⟨hs, hq⟩]
  have := (tsum_in (c := c) (sub := tsz c (L - d - 1)) (l := (k : Int)) (B := b) (fun x => tsz_in c (L - d - 1) x) j).1
  omega
set_option maxHeartbeats 8000000 in
theorem m_tells (hL : L ≤ 4) (h9 : M 37 9 = (L : Int)) (hm : Mt c L T K F S) (hp : 0 ≤ p ∧ p < 8 * p4 L) : qCt mX8_tells 0 2 [.ref 37, .int (zI p)] (mtw M T K F S n) (qpe (tellF c L (p / 8) L 0) (mtw M T K F S n)) := by
  have hpL := p4_in (L : Int)
  refine q_intro (own := 8) (L := [some (.ref 37), some (.int (zI p)), none, none, none, none, none, none]) md_X8_tells rfl rfl rfl (Nat.le_of_ble_eq_true rfl) (fun X => ?_)
  refine q_aload_n dX8_tells_0 rfl ?_
  refine q_geti (j := 9) dX8_tells_1 fl_8_83 rfl rfl rfl ?_
  rw [mtw_9, h9]
  refine q_istore_n dX8_tells_4 (Nat.le_of_ble_eq_true rfl) rfl ?_
  refine q_iconst dX8_tells_5 ?_
  refine q_istore_n dX8_tells_6 (Nat.le_of_ble_eq_true rfl) rfl ?_
  refine q_iload_n dX8_tells_7 rfl ?_
  refine q_istore dX8_tells_8 (Nat.le_of_ble_eq_true rfl) rfl ?_
  refine q_lp (α := Nat × Int) (fun x => x.1) (fun x => x.1 ≤ L ∧ 0 ≤ x.2 ∧ x.2 < p4 ((L : Int) - x.1) ∧ sr c L 0 (L - x.1) x.2 ≠ -1 ∧ tellF c L (p / 8) x.1 x.2 = tellF c L (p / 8) L 0) (fun x => [some (.ref 37), some (.int (zI p)), some (.int (zI (x.1 : Int))), some (.int (zI x.2)), some (.int (zI (p % (8 * p4 (x.1 : Int))))), none, none, none]) (fun _ => mtw M T K F S n) (L, 0) (by dsimp only; rw [Int.emod_eq_of_lt hp.1 hp.2]; rfl) rfl ⟨Nat.le_refl L, Int.le_refl 0, by dsimp only; rw [show (L : Int) - L = 0 by omega]; decide, by dsimp only; rw [Nat.sub_self, sr_0]; decide, rfl⟩ (fun x hx ih => ?_)
  obtain ⟨l, b⟩ := x
  obtain ⟨hl, hb0, hb1, hbs, hb2⟩ := hx
  dsimp only at hl hb0 hb1 hbs hb2 ih ⊢
  have hpl := p4_in (l : Int)
  have hw2 : 0 ≤ p % (8 * p4 (l : Int)) ∧ p % (8 * p4 (l : Int)) < 8 * p4 (l : Int) := ⟨Int.emod_nonneg _ (by omega), Int.emod_lt_of_pos _ (by omega)⟩
  refine q_iload_n dX8_tells_10 rfl ?_
  refine q_if_le (tgt := 110) dX8_tells_11 rfl (by (first | (unfold zR; omega) | (unfold zLR; omega) | omega | (simp only [zR, qup] at *; omega) | (simp [zR, qup]; omega) | (simp [zR, qup]; done))) (fun h11 => ?_) (fun h11 => ?_)
  rotate_left
  ·
    obtain ⟨k, rfl⟩ : ∃ k : Nat, l = k + 1 := ⟨l - 1, by omega⟩
    have hpk := p4_in (k : Int)
    have htd := tl_div (p := p) (k := k) (by omega) hp.1
    have hb1' : b < p4 ((L : Int) - ((k : Int) + 1)) := by rw [show (L : Int) - ((k : Int) + 1) = (L : Int) - ((k + 1 : Nat) : Int) by omega]; exact hb1
    refine q_bipush dX8_tells_14 rfl ?_
    refine q_iload_n dX8_tells_16 rfl ?_
    refine q_iconst dX8_tells_17 ?_
    refine q_isub dX8_tells_18 ?_
    rw [show ((k + 1 : Nat) : Int) - 1 = k by omega]
    refine q_S1 dX8_tells_19 ml_8_94 md_X8_span (m_span (by omega)) rfl (by first | decide | omega) (Nat.le_of_ble_eq_true rfl) (Nat.le_of_ble_eq_true rfl) (qk_e ?_)
    refine q_imul dX8_tells_22 ?_
    refine q_istore dX8_tells_23 (Nat.le_of_ble_eq_true rfl) rfl ?_
    refine q_iconst dX8_tells_25 ?_
    refine q_iload_n dX8_tells_26 rfl ?_
    refine q_imul dX8_tells_27 ?_
    refine q_iload dX8_tells_28 rfl ?_
    refine q_iload dX8_tells_30 rfl ?_
    refine q_idiv dX8_tells_32 (by (first | (unfold zR; omega) | (unfold zLR; omega) | omega | (simp only [zR, qup] at *; omega) | (simp [zR, qup]; omega) | (simp [zR, qup]; done))) (by (first | (unfold zR; omega) | (unfold zLR; omega) | omega | (simp only [zR, qup] at *; omega) | (simp [zR, qup]; omega) | (simp [zR, qup]; done))) ?_
    rw [zdiv_i hw2.1 (by omega) (by omega) (by omega), htd.1]
    have hu : tellF c L (p / 8) (k + 1) b = if qcode c k b (p / 8 / p4 k % 4).toNat < 2 then sr c L 0 (L - k - 1) b else tellF c L (p / 8) k (if qcode c k b (p / 8 / p4 k % 4).toNat = 2 then 4 * b + p / 8 / p4 k % 4 else qlast c k b (p / 8 / p4 k % 4).toNat) := rfl
    have hq4 : 0 ≤ p / 8 / p4 k % 4 ∧ p / 8 / p4 k % 4 < 4 := by omega
    generalize p / 8 / p4 k % 4 = qz at hu hq4 ⊢
    obtain ⟨qn, rfl⟩ := Int.eq_ofNat_of_zero_le hq4.1
    rw [Int.toNat_natCast] at hu
    have hkid : ∀ j : Nat, j < 4 → 0 ≤ 4 * b + (j : Int) ∧ 4 * b + (j : Int) < p4 ((L - k : Nat) : Int) := fun j hj => by
      rw [show ((L - k : Nat) : Int) = (L : Int) - k by omega]
      exact p4_kid (l := k) (L := L) (x := b) (by omega) hL ⟨hb0, hb1'⟩ hj
    have hcd : ∀ j : Nat, j < 4 → mtw M T K F S n 44 (off (L - k) + (4 * b + (j : Int))) = qcode c k b j := fun j hj => ((hm.2.1 (L - k) (4 * b + (j : Int)) (by omega) (hkid j hj).1 (hkid j hj).2).1).trans (bcode_q (by omega) hbs hj)
    have hqc := qcode_in c k b qn
    have hoq := off_in (d := L - k) (by omega) (hkid qn (by omega))
    refine q_iadd dX8_tells_33 ?_
    refine q_istore dX8_tells_34 (Nat.le_of_ble_eq_true rfl) rfl ?_
    refine q_aload_n dX8_tells_36 rfl ?_
    refine q_getr dX8_tells_37 fl_8_29 rfl rfl ?_
    refine q_aload_n dX8_tells_40 rfl ?_
    refine q_iload_n dX8_tells_41 rfl ?_
    refine q_iconst dX8_tells_42 ?_
    refine q_isub dX8_tells_43 ?_
    refine q_iload dX8_tells_44 rfl ?_
    rw [show ((k + 1 : Nat) : Int) - 1 = k by omega]
    refine q_V2 dX8_tells_46 ml_8_97 md_X8_spot (m_spot (l := k) (L := L) (by rw [mtw_9]; exact h9) hL (by omega) (hkid qn (by omega))) rfl rfl rfl (by first | decide | omega) (Nat.le_of_ble_eq_true rfl) (Nat.le_of_ble_eq_true rfl) (qk_e ?_)
    refine q_iald dX8_tells_49 rfl (by (first | (unfold zR; omega) | (unfold zLR; omega) | omega | (simp only [zR, qup] at *; omega) | (simp [zR, qup]; omega) | (simp [zR, qup]; done))) (Nat.le_of_ble_eq_true rfl) ?_
    rw [hcd qn (by omega)]
    refine q_istore dX8_tells_50 (Nat.le_of_ble_eq_true rfl) rfl ?_
    refine q_iload dX8_tells_52 rfl ?_
    refine q_iconst dX8_tells_54 ?_
    refine q_icmp_ge (tgt := 70) dX8_tells_55 rfl (by (first | (unfold zR; omega) | (unfold zLR; omega) | omega | (simp only [zR, qup] at *; omega) | (simp [zR, qup]; omega) | (simp [zR, qup]; done))) (by (first | (unfold zR; omega) | (unfold zLR; omega) | omega | (simp only [zR, qup] at *; omega) | (simp [zR, qup]; omega) | (simp [zR, qup]; done))) (fun h55 => ?_) (fun h55 => ?_)
    ·
      have hq2 : (if qcode c k b qn = 2 then 4 * b + (qn : Int) else qlast c k b qn) = qlast c k b (qn + 1) := (qlast_s c k b qn).symm
      rw [if_neg (by omega), hq2] at hu
      have hq3 : qlast c k b (qn + 1) ≠ -1 := by
        rw [qlast_s]
        by_cases e : qcode c k b qn = 2
        · rw [if_pos e]; omega
        · rw [if_neg e]; exact qcode_3 (by omega)
      generalize qlast c k b (qn + 1) = g at hu hq3 hq2
      refine q_lp (fun j : Nat => j) (fun j => j < 4 ∧ qlast c k b (j + 1) = g) (fun j => [some (.ref 37), some (.int (zI p)), some (.int (zI ((k + 1 : Nat) : Int))), some (.int (zI b)), some (.int (zI (p % (8 * p4 ((k + 1 : Nat) : Int))))), some (.int (zI (8 * p4 (k : Int)))), some (.int (zI (4 * b + (j : Int)))), some (.int (zI (qcode c k b qn)))]) (fun _ => mtw M T K F S n) qn rfl rfl ⟨by omega, by rw [qlast_s]; exact hq2⟩ (fun j hj ih2 => ?_)
      obtain ⟨hj4, hjg⟩ := hj
      have hoj := off_in (d := L - k) (by omega) (hkid j hj4)
      have hqj := qcode_in c k b j
      rw [qlast_s] at hjg
      refine q_aload_n dX8_tells_70 rfl ?_
      refine q_getr dX8_tells_71 fl_8_29 rfl rfl ?_
      refine q_aload_n dX8_tells_74 rfl ?_
      refine q_iload_n dX8_tells_75 rfl ?_
      refine q_iconst dX8_tells_76 ?_
      refine q_isub dX8_tells_77 ?_
      refine q_iload dX8_tells_78 rfl ?_
      rw [show ((k + 1 : Nat) : Int) - 1 = k by omega]
      refine q_V2 dX8_tells_80 ml_8_97 md_X8_spot (m_spot (l := k) (L := L) (by rw [mtw_9]; exact h9) hL (by omega) (hkid j hj4)) rfl rfl rfl (by first | decide | omega) (Nat.le_of_ble_eq_true rfl) (Nat.le_of_ble_eq_true rfl) (qk_e ?_)
      refine q_iald dX8_tells_83 rfl (by (first | (unfold zR; omega) | (unfold zLR; omega) | omega | (simp only [zR, qup] at *; omega) | (simp [zR, qup]; omega) | (simp [zR, qup]; done))) (Nat.le_of_ble_eq_true rfl) ?_
      rw [hcd j hj4]
      refine q_iconst dX8_tells_84 ?_
      refine q_icmp_eq (tgt := 94) dX8_tells_85 rfl (by (first | (unfold zR; omega) | (unfold zLR; omega) | omega | (simp only [zR, qup] at *; omega) | (simp [zR, qup]; omega) | (simp [zR, qup]; done))) (by (first | (unfold zR; omega) | (unfold zLR; omega) | omega | (simp only [zR, qup] at *; omega) | (simp [zR, qup]; omega) | (simp [zR, qup]; done))) (fun h85 => ?_) (fun h85 => ?_)
      ·
        refine q_iload dX8_tells_94 rfl ?_
        refine q_istore_n dX8_tells_96 (Nat.le_of_ble_eq_true rfl) rfl ?_
        refine q_iload dX8_tells_97 rfl ?_
        refine q_iload dX8_tells_99 rfl ?_
        refine q_irem dX8_tells_101 (by (first | (unfold zR; omega) | (unfold zLR; omega) | omega | (simp only [zR, qup] at *; omega) | (simp [zR, qup]; omega) | (simp [zR, qup]; done))) (by (first | (unfold zR; omega) | (unfold zLR; omega) | omega | (simp only [zR, qup] at *; omega) | (simp [zR, qup]; omega) | (simp [zR, qup]; done))) ?_
        rw [zrem_i hw2.1 (by omega) (by omega) (by omega), htd.2]
        refine q_istore dX8_tells_102 (Nat.le_of_ble_eq_true rfl) rfl ?_
        refine q_iinc dX8_tells_104 rfl (Nat.le_of_ble_eq_true rfl) rfl ?_
        refine q_goto (tgt := 10) dX8_tells_107 rfl ?_
        rw [if_pos (by omega)] at hjg
        refine q_wk _ ?_ (ih (k, 4 * b + (j : Int)) _ _ ⟨by dsimp only; omega, (hkid j hj4).1, by dsimp only; rw [show (L : Int) - k = ((L - k : Nat) : Int) by omega]; exact (hkid j hj4).2, sr_kid (by omega) hbs hj4 (by omega), by dsimp only; rw [hjg, ← hb2, hu]⟩ (by dsimp only; omega) rfl rfl)
        rw [show ((k + 1 : Nat) : Int) + -1 = k by omega]
        simp only [wkB]
        (repeat (first | exact rfl | exact trivial | refine ⟨rfl, ?_⟩))
      ·
        refine q_iinc dX8_tells_88 rfl (Nat.le_of_ble_eq_true rfl) rfl ?_
        refine q_goto (tgt := 70) dX8_tells_91 rfl ?_
        rw [if_neg (by omega)] at hjg
        obtain ⟨m, rfl⟩ : ∃ m, j = m + 1 := ⟨j - 1, by
          have : j ≠ 0 := fun e => by subst e; exact hq3 hjg.symm
          omega⟩
        refine ih2 m _ _ ⟨by omega, hjg⟩ (by omega) ?_ rfl
        rw [show 4 * b + ((m + 1 : Nat) : Int) + -1 = 4 * b + (m : Int) by omega]
        rfl
    ·
      refine q_aload_n dX8_tells_58 rfl ?_
      refine q_getr dX8_tells_59 fl_8_32 rfl rfl ?_
      refine q_aload_n dX8_tells_62 rfl ?_
      refine q_iload_n dX8_tells_63 rfl ?_
      refine q_iload_n dX8_tells_64 rfl ?_
      have hbd : 0 ≤ b ∧ b < p4 ((L - (k + 1) : Nat) : Int) := ⟨hb0, by rw [show ((L - (k + 1) : Nat) : Int) = (L : Int) - ((k : Int) + 1) by omega]; exact hb1'⟩
      have hob := off_in (d := L - (k + 1)) (by omega) hbd
      refine q_V2 dX8_tells_65 ml_8_97 md_X8_spot (m_spot (l := k + 1) (L := L) (by rw [mtw_9]; exact h9) hL hl hbd) rfl rfl rfl (by first | decide | omega) (Nat.le_of_ble_eq_true rfl) (Nat.le_of_ble_eq_true rfl) (qk_e ?_)
      refine q_iald dX8_tells_68 rfl (by (first | (unfold zR; omega) | (unfold zLR; omega) | omega | (simp only [zR, qup] at *; omega) | (simp [zR, qup]; omega) | (simp [zR, qup]; done))) (Nat.le_of_ble_eq_true rfl) ?_
      refine q_ireturn dX8_tells_69 ?_
      exact ⟨by rw [show mtw M T K F S n 45 (off (L - (k + 1)) + b) = sr c L 0 (L - (k + 1)) b from (hm.2.1 (L - (k + 1)) b (by omega) hbd.1 hbd.2).2.1, ← hb2, hu, if_pos (by omega), Nat.sub_sub], rfl⟩
  refine q_aload_n dX8_tells_110 rfl ?_
  refine q_getr dX8_tells_111 fl_8_32 rfl rfl ?_
  refine q_aload_n dX8_tells_114 rfl ?_
  refine q_iconst dX8_tells_115 ?_
  refine q_iload_n dX8_tells_116 rfl ?_
  have hl0 : l = 0 := by omega
  subst hl0
  have hbd : 0 ≤ b ∧ b < p4 ((L - 0 : Nat) : Int) := ⟨hb0, by rw [show ((L - 0 : Nat) : Int) = (L : Int) - ((0 : Nat) : Int) by omega]; exact hb1⟩
  have hob := off_in (d := L - 0) (by omega) hbd
  refine q_V2 dX8_tells_117 ml_8_97 md_X8_spot (m_spot (l := 0) (L := L) (by rw [mtw_9]; exact h9) hL (by omega) hbd) rfl rfl rfl (by first | decide | omega) (Nat.le_of_ble_eq_true rfl) (Nat.le_of_ble_eq_true rfl) (qk_e ?_)
  refine q_iald dX8_tells_120 rfl (by (first | (unfold zR; omega) | (unfold zLR; omega) | omega | (simp only [zR, qup] at *; omega) | (simp [zR, qup]; omega) | (simp [zR, qup]; done))) (Nat.le_of_ble_eq_true rfl) ?_
  refine q_ireturn dX8_tells_121 ?_
  exact ⟨by rw [show mtw M T K F S n 45 (off (L - 0) + b) = sr c L 0 L b from (hm.2.1 (L - 0) b (by omega) hbd.1 hbd.2).2.1, ← hb2]; rfl, rfl⟩
set_option maxHeartbeats 2000000 in
theorem o_teller (hM : MI M) (hL : M 37 2 = (L : Int)) (hk : zR k) (hp : zR p) : qCt mX8_teller 0 9 [.ref 37, .int (zI k), .int (zI p)] M (mpx (gor (gG M k) (mPs M p)) (fun z M' => z = tellF (scl M k) L (p / 8) L 0 ∧ MS (qup M 37 0 0) M') M) := by
  have hL4 : L ≤ 4 := by have := hM.2.1; omega
  refine q_intro (own := 8) (L := [some (.ref 37), some (.int (zI k)), some (.int (zI p))]) md_X8_teller rfl rfl rfl (Nat.le_of_ble_eq_true rfl) (fun X => ?_)
  refine q_aload_n dX8_teller_0 rfl ?_
  refine q_iload_n dX8_teller_1 rfl ?_
  refine q_iload_n dX8_teller_2 rfl ?_
  refine q_V2 dX8_teller_3 ml_8_298 md_X8_noPosition (m_noPosition hM hk hp) rfl rfl rfl (by first | decide | omega) (Nat.le_of_ble_eq_true rfl) (Nat.le_of_ble_eq_true rfl) (qk_e ?_)
  refine q_if_eq (tgt := 11) dX8_teller_6 rfl (by exact zb_R _) (fun h6 => ?_) (fun h6 => ?_)
  ·
    have hg := zbz h6
    have hg2 := gor_00.1 hg
    have hgk := gG_0 hM hg2.1
    have hps := mPs_0 hL hg2.2
    rw [hg]
    refine q_aload_n dX8_teller_11 rfl ?_
    refine q_iload_n dX8_teller_12 rfl ?_
    refine q_V1 dX8_teller_13 ml_8_286 md_X8_fetchesTree (m_fetchesTree hM hL (by omega)) rfl rfl rfl (by first | decide | omega) (Nat.le_of_ble_eq_true rfl) (Nat.le_of_ble_eq_true rfl) (qk_h (fun N13 hq13 => ?_))
    obtain ⟨Tq, Kq, Fq, Sq, rfl, hm⟩ := hq13
    have hMS : MS (qup M 37 0 0) (mtw (fW M 0 L k) Tq Kq Fq Sq (tsz (scl M k) L 0)) := MS_tr (fW_MS M 0 L k) (mtw_MS _ _ _ _ _ _)
    refine q_aload_n dX8_teller_16 rfl ?_
    refine q_iload_n dX8_teller_17 rfl ?_
    refine q_V1 dX8_teller_18 ml_8_338 md_X8_tells (m_tells hL4 fW_9 hm hps) rfl rfl rfl (by first | decide | omega) (Nat.le_of_ble_eq_true rfl) (Nat.le_of_ble_eq_true rfl) (qk_e ?_)
    refine q_ireturn dX8_teller_21 ?_
    exact mpx_k hg ⟨rfl, hMS⟩
  ·
    refine q_iconst dX8_teller_9 ?_
    refine q_ireturn dX8_teller_10 ?_
    exact mpx_g (zbn h6)
theorem told_sum (f : Int → Int) (v : Int) : ∀ n : Nat, zsum (fun p => zb (f (p / 8) = v)) 0 (8 * n) = zsum (fun x => 8 * zb (f x = v)) 0 n
  | 0 => rfl
  | n + 1 => by
    rw [show 8 * (n + 1) = 8 * n + 8 by omega, zsum_add, told_sum f v n, zsum_8]
    show _ = zsum (fun x => 8 * zb (f x = v)) 0 n + 8 * zb (f (0 + (n : Int)) = v)
    rw [show (0 + ((8 * n : Nat) : Int)) / 8 = n by omega, show (0 + ((8 * n : Nat) : Int) + 1) / 8 = n by omega, show (0 + ((8 * n : Nat) : Int) + 2) / 8 = n by omega, show (0 + ((8 * n : Nat) : Int) + 3) / 8 = n by omega, show (0 + ((8 * n : Nat) : Int) + 4) / 8 = n by omega, show (0 + ((8 * n : Nat) : Int) + 5) / 8 = n by omega, show (0 + ((8 * n : Nat) : Int) + 6) / 8 = n by omega, show (0 + ((8 * n : Nat) : Int) + 7) / 8 = n by omega, show 0 + (n : Int) = n by omega]
    omega
set_option maxHeartbeats 4000000 in
theorem o_told (hM : MI M) (hL : M 37 2 = (L : Int)) (hk : zR k) (hi : zR i) : qCt mX8_told 0 10 [.ref 37, .int (zI k), .int (zI i)] M (mpx (gor (gG M k) (gByte (tsz (scl M k) L 0) i)) (fun z M' => z = zsum (fun x => 8 * zb (tellF (scl M k) L x L 0 = i)) 0 (p4 L).toNat ∧ MS (qup M 37 0 0) M') M) := by
  have hL4 : L ≤ 4 := by have := hM.2.1; omega
  have hpL := p4_in (L : Int)
  refine q_intro (own := 8) (L := [some (.ref 37), some (.int (zI k)), some (.int (zI i)), none, none]) md_X8_told rfl rfl rfl (Nat.le_of_ble_eq_true rfl) (fun X => ?_)
  refine q_aload_n dX8_told_0 rfl ?_
  refine q_iload_n dX8_told_1 rfl ?_
  refine q_iload_n dX8_told_2 rfl ?_
  refine q_V2 dX8_told_3 ml_8_323 md_X8_noByte (m_noByte hM hL hk hi) rfl rfl rfl (by first | decide | omega) (Nat.le_of_ble_eq_true rfl) (Nat.le_of_ble_eq_true rfl) (qk_g (fun z3 N3 hq3 => ?_))
  have hz3 : z3 = 0 ∨ z3 = 1 := by rcases hq3 with ⟨-, h, -⟩ | ⟨-, Tq, Kq, Fq, Sq, -, ⟨-, h, -⟩ | ⟨-, h, -⟩⟩ <;> omega
  refine q_if_eq (tgt := 11) dX8_told_6 rfl (by (first | (unfold zR; omega) | (unfold zLR; omega) | omega | (simp only [zR, qup] at *; omega) | (simp [zR, qup]; omega) | (simp [zR, qup]; done))) (fun h6 => ?_) (fun h6 => ?_)
  ·
    obtain ⟨hg1, Tq, Kq, Fq, Sq, hm, hgb, rfl⟩ : gG M k = 0 ∧ ∃ T K F S, Mt (scl M k) L T K F S ∧ gByte (tsz (scl M k) L 0) i = 0 ∧ N3 = mtw (fW M 0 L k) T K F S (tsz (scl M k) L 0) := by
      rcases hq3 with ⟨-, h, -⟩ | ⟨hg, Tq, Kq, Fq, Sq, hm, ⟨hb, h, e⟩ | ⟨-, h, -⟩⟩
      · omega
      · exact ⟨hg, Tq, Kq, Fq, Sq, hm, hb, e⟩
      · omega
    have hib := gByte_0.1 hgb
    have ht := tsz_in (scl M k) L 0
    have ht2 := tmax_in L hL4
    have hg : gor (gG M k) (gByte (tsz (scl M k) L 0) i) = 0 := by rw [hg1, hgb]; rfl
    have hMS : MS (qup M 37 0 0) (mtw (fW M 0 L k) Tq Kq Fq Sq (tsz (scl M k) L 0)) := MS_tr (fW_MS M 0 L k) (mtw_MS _ _ _ _ _ _)
    refine q_iconst dX8_told_11 ?_
    refine q_istore_n dX8_told_12 (Nat.le_of_ble_eq_true rfl) rfl ?_
    refine q_iconst dX8_told_13 ?_
    refine q_istore dX8_told_14 (Nat.le_of_ble_eq_true rfl) rfl ?_
    refine q_lp (fun x : Int => (8 * p4 L - x).toNat) (fun x => 0 ≤ x ∧ x ≤ 8 * p4 L) (fun x => [some (.ref 37), some (.int (zI k)), some (.int (zI i)), some (.int (zI (zsum (fun p => zb (tellF (scl M k) L (p / 8) L 0 = i)) 0 x.toNat))), some (.int (zI x))]) (fun _ => mtw (fW M 0 L k) Tq Kq Fq Sq (tsz (scl M k) L 0)) 0 rfl rfl ⟨by omega, by omega⟩ (fun x hx ih => ?_)
    have hzs := zsum_s (fun p => zb (tellF (scl M k) L (p / 8) L 0 = i)) hx.1
    refine q_iload dX8_told_16 rfl ?_
    refine q_aload_n dX8_told_18 rfl ?_
    refine q_V0 dX8_told_19 ml_8_225 md_X8_bits (m_bits (L := L) (by rw [mtw_9]; exact fW_9) hL4) rfl rfl rfl (by first | decide | omega) (Nat.le_of_ble_eq_true rfl) (Nat.le_of_ble_eq_true rfl) (qk_e ?_)
    refine q_icmp_ge (tgt := 52) dX8_told_22 rfl (by (first | (unfold zR; omega) | (unfold zLR; omega) | omega | (simp only [zR, qup] at *; omega) | (simp [zR, qup]; omega) | (simp [zR, qup]; done))) (by (first | (unfold zR; omega) | (unfold zLR; omega) | omega | (simp only [zR, qup] at *; omega) | (simp [zR, qup]; omega) | (simp [zR, qup]; done))) (fun h22 => ?_) (fun h22 => ?_)
    rotate_left
    ·
      refine q_iload_n dX8_told_25 rfl ?_
      refine q_aload_n dX8_told_26 rfl ?_
      refine q_iload dX8_told_27 rfl ?_
      refine q_V1 dX8_told_29 ml_8_338 md_X8_tells (m_tells hL4 fW_9 hm ⟨hx.1, h22⟩) rfl rfl rfl (by first | decide | omega) (Nat.le_of_ble_eq_true rfl) (Nat.le_of_ble_eq_true rfl) (qk_e ?_)
      refine q_iload_n dX8_told_32 rfl ?_
      have htr := tell_in (c := scl M k) (cell := x / 8) hL4 (by omega) L 0 (Nat.le_refl L) (Int.le_refl 0) (by rw [show (L : Int) - L = 0 by omega]; decide)
      refine q_icmp_ne (tgt := 40) dX8_told_33 rfl (by (first | (unfold zR; omega) | (unfold zLR; omega) | omega | (simp only [zR, qup] at *; omega) | (simp [zR, qup]; omega) | (simp [zR, qup]; done))) (by (first | (unfold zR; omega) | (unfold zLR; omega) | omega | (simp only [zR, qup] at *; omega) | (simp [zR, qup]; omega) | (simp [zR, qup]; done))) (fun h33 => ?_) (fun h33 => ?_)
      ·
        refine q_iconst dX8_told_40 ?_
        refine q_S1 dX8_told_41 ml_8_314 md_X8_flag (m_flag (by omega)) rfl (by first | decide | omega) (Nat.le_of_ble_eq_true rfl) (Nat.le_of_ble_eq_true rfl) (qk_e ?_)
        refine q_iadd dX8_told_44 ?_
        refine q_istore_n dX8_told_45 (Nat.le_of_ble_eq_true rfl) rfl ?_
        refine q_iinc dX8_told_46 rfl (Nat.le_of_ble_eq_true rfl) rfl ?_
        refine q_goto (tgt := 16) dX8_told_49 rfl ?_
        exact ih (x + 1) _ _ ⟨by omega, by omega⟩ (by omega) (by rw [hzs, zb_f h33]; rfl) rfl
      ·
        refine q_iconst dX8_told_36 ?_
        refine q_goto (tgt := 41) dX8_told_37 rfl ?_
        refine q_S1 dX8_told_41 ml_8_314 md_X8_flag (m_flag (by omega)) rfl (by first | decide | omega) (Nat.le_of_ble_eq_true rfl) (Nat.le_of_ble_eq_true rfl) (qk_e ?_)
        refine q_iadd dX8_told_44 ?_
        refine q_istore_n dX8_told_45 (Nat.le_of_ble_eq_true rfl) rfl ?_
        refine q_iinc dX8_told_46 rfl (Nat.le_of_ble_eq_true rfl) rfl ?_
        refine q_goto (tgt := 16) dX8_told_49 rfl ?_
        exact ih (x + 1) _ _ ⟨by omega, by omega⟩ (by omega) (by rw [hzs, zb_t h33]; rfl) rfl
    refine q_iload_n dX8_told_52 rfl ?_
    refine q_ireturn dX8_told_53 ?_
    exact mpx_k hg ⟨by rw [show x = 8 * p4 L by omega, show (8 * p4 (L : Int)).toNat = 8 * (p4 (L : Int)).toNat by omega]; exact told_sum (fun x => tellF (scl M k) L x L 0) i _, hMS⟩
  ·
    refine q_iconst dX8_told_9 ?_
    refine q_ireturn dX8_told_10 ?_
    rcases hq3 with ⟨hg, -, rfl⟩ | ⟨hg, Tq, Kq, Fq, Sq, hm, ⟨-, h, -⟩ | ⟨hb, h, rfl⟩⟩
    · exact mpx_g2 hg
    · omega
    · exact ⟨0, rfl, Or.inl ⟨by rw [hg, hb]; decide, by rw [hg, hb]; exact MS_up0 (MS_tr (fW_MS M 0 L k) (mtw_MS _ _ _ _ _ _))⟩⟩
end MT


/-! The model: biggest. -/
section NB
variable {M N : qM} {L l : Nat} {c T K F S : Int → Int} {k o x y a b v p q f t n g i : Int}
set_option maxHeartbeats 4000000 in
theorem o_biggest (hM : MI M) (hL : M 37 2 = (L : Int)) (hk : zR k) (hq : zR q) : qCt mX8_biggest 0 9 [.ref 37, .int (zI k), .int (zI q)] M (mpx (gor (gG M k) (if q = 0 ∨ q = 1 ∨ q = 3 then 0 else 3)) (fun z M' => bigF (scl M k) L q z ∧ MS (qup M 37 0 0) M') M) := by
  have hL4 : L ≤ 4 := by have := hM.2.1; omega
  refine q_intro (own := 8) (L := [some (.ref 37), some (.int (zI k)), some (.int (zI q)), none, none]) md_X8_biggest rfl rfl rfl (Nat.le_of_ble_eq_true rfl) (fun X => ?_)
  refine q_aload_n dX8_biggest_0 rfl ?_
  refine q_iload_n dX8_biggest_1 rfl ?_
  refine q_V1 dX8_biggest_2 ml_8_292 md_X8_noMap (m_noMap hM.1 hM.2.2.2.1 hk) rfl rfl rfl (by first | decide | omega) (Nat.le_of_ble_eq_true rfl) (Nat.le_of_ble_eq_true rfl) (qk_e ?_)
  refine q_if_ne (tgt := 35) dX8_biggest_5 rfl (by exact zb_R _) (fun h5 => ?_) (fun h5 => ?_)
  ·
    refine q_iconst dX8_biggest_35 ?_
    refine q_ireturn dX8_biggest_36 ?_
    exact mpx_g2 (zbn h5)
  ·
    refine q_aload_n dX8_biggest_8 rfl ?_
    refine q_iload_n dX8_biggest_9 rfl ?_
    refine q_if_eq (tgt := 27) dX8_biggest_10 rfl (by (first | (unfold zR; omega) | (unfold zLR; omega) | omega | (simp only [zR, qup] at *; omega) | (simp [zR, qup]; omega) | (simp [zR, qup]; done))) (fun h10 => ?_) (fun h10 => ?_)
    ·
      refine q_iconst dX8_biggest_27 ?_
      refine q_iconst dX8_biggest_28 ?_
      have hgb0 : (q = 0 ∨ q = 1 ∨ q = 3) → (if (0 : Int) = 1 then (3 : Int) else 0) = (if q = 0 ∨ q = 1 ∨ q = 3 then 0 else 3) := fun w => (if_pos w).symm
      have hgb1 : ¬ (q = 0 ∨ q = 1 ∨ q = 3) → (if (1 : Int) = 1 then (3 : Int) else 0) = (if q = 0 ∨ q = 1 ∨ q = 3 then 0 else 3) := fun w => (if_neg w).symm
      refine q_V2 dX8_biggest_29 ml_8_64 md_X8_refuse (m_refH (by omega) (gor_R (mT_R M) mMp_R) (by (first | (unfold zR; omega) | (unfold zLR; omega) | omega | (simp only [zR, qup] at *; omega) | (simp [zR, qup]; omega) | (simp [zR, qup]; done))) (by first | exact hgb0 (by omega) | exact hgb1 (by omega))) rfl rfl rfl (by first | decide | omega) (Nat.le_of_ble_eq_true rfl) (Nat.le_of_ble_eq_true rfl) (qk_e ?_)
      refine q_if_eq (tgt := 37) dX8_biggest_32 rfl (by exact zb_R _) (fun h32 => ?_) (fun h32 => ?_)
      ·
        have hg := zbz h32
        have hg2 := gor_00.1 hg
        have hgk := gG_0 hM hg2.1
        have hqq : q = 0 ∨ q = 1 ∨ q = 3 := Classical.byContradiction fun w => by have := hg2.2; rw [if_neg w] at this; omega
        rw [hg]
        refine q_aload_n dX8_biggest_37 rfl ?_
        refine q_iload_n dX8_biggest_38 rfl ?_
        refine q_V1 dX8_biggest_39 ml_8_286 md_X8_fetchesTree (m_fetchesTree hM hL (by omega)) rfl rfl rfl (by first | decide | omega) (Nat.le_of_ble_eq_true rfl) (Nat.le_of_ble_eq_true rfl) (qk_h (fun N39 hq39 => ?_))
        obtain ⟨Tq, Kq, Fq, Sq, rfl, hm⟩ := hq39
        have hMS : MS (qup M 37 0 0) (mtw (fW M 0 L k) Tq Kq Fq Sq (tsz (scl M k) L 0)) := MS_tr (fW_MS M 0 L k) (mtw_MS _ _ _ _ _ _)
        have h9 : mtw (fW M 0 L k) Tq Kq Fq Sq (tsz (scl M k) L 0) 37 9 = (L : Int) := by rw [mtw_9]; exact fW_9
        refine q_aload_n dX8_biggest_42 rfl ?_
        refine q_geti (j := 9) dX8_biggest_43 fl_8_83 rfl rfl rfl ?_
        rw [h9]
        refine q_iconst dX8_biggest_46 ?_
        refine q_isub dX8_biggest_47 ?_
        refine q_istore_n dX8_biggest_48 (Nat.le_of_ble_eq_true rfl) rfl ?_
        refine q_lp (fun d : Nat => L + 1 - d) (fun d => 1 ≤ d ∧ d ≤ L + 1 ∧ ∀ (j : Nat) (x : Int), 1 ≤ j → j < d → 0 ≤ x → x < p4 j → bcode (scl M k) L j x ≠ q) (fun d => [some (.ref 37), some (.int (zI k)), some (.int (zI q)), some (.int (zI ((L : Int) - d))), none]) (fun _ => mtw (fW M 0 L k) Tq Kq Fq Sq (tsz (scl M k) L 0)) 1 rfl rfl ⟨by omega, by omega, fun j x j0 j1 => by omega⟩ (fun d hd ih => ?_)
        refine q_iload_n dX8_biggest_49 rfl ?_
        refine q_if_lt (tgt := 105) dX8_biggest_50 rfl (by (first | (unfold zR; omega) | (unfold zLR; omega) | omega | (simp only [zR, qup] at *; omega) | (simp [zR, qup]; omega) | (simp [zR, qup]; done))) (fun h50 => ?_) (fun h50 => ?_)
        ·
          refine q_iconst dX8_biggest_105 ?_
          refine q_ireturn dX8_biggest_106 ?_
          exact mpx_k hg ⟨⟨-1, Or.inl ⟨rfl, fun j y j0 j1 y0 y1 => hd.2.2 j y j0 (by omega) y0 y1⟩, rfl⟩, hMS⟩
        refine q_iconst dX8_biggest_53 ?_
        refine q_istore dX8_biggest_54 (Nat.le_of_ble_eq_true rfl) rfl ?_
        have hpd := p4_in (d : Int)
        have hpl := p4_in ((L : Int) - d)
        refine q_lp (fun x : Int => (p4 (d : Int) - x).toNat) (fun x => 0 ≤ x ∧ x ≤ p4 (d : Int) ∧ ∀ j, 0 ≤ j → j < x → bcode (scl M k) L d j ≠ q) (fun x => [some (.ref 37), some (.int (zI k)), some (.int (zI q)), some (.int (zI ((L : Int) - d))), some (.int (zI x))]) (fun _ => mtw (fW M 0 L k) Tq Kq Fq Sq (tsz (scl M k) L 0)) 0 rfl rfl ⟨by omega, by omega, fun j j0 j1 => by omega⟩ (fun x hx ih2 => ?_)
        have hbc := bcode_in (scl M k) L d x
        refine q_iload dX8_biggest_56 rfl ?_
        refine q_aload_n dX8_biggest_58 rfl ?_
        refine q_iload_n dX8_biggest_59 rfl ?_
        refine q_V1 dX8_biggest_60 ml_8_90 md_X8_blocks (m_blocks (L := L) h9 (by omega)) rfl rfl rfl (by first | decide | omega) (Nat.le_of_ble_eq_true rfl) (Nat.le_of_ble_eq_true rfl) (qk_e ?_)
        rw [show (L : Int) - ((L : Int) - d) = d by omega]
        refine q_icmp_ge (tgt := 99) dX8_biggest_63 rfl (by (first | (unfold zR; omega) | (unfold zLR; omega) | omega | (simp only [zR, qup] at *; omega) | (simp [zR, qup]; omega) | (simp [zR, qup]; done))) (by (first | (unfold zR; omega) | (unfold zLR; omega) | omega | (simp only [zR, qup] at *; omega) | (simp [zR, qup]; omega) | (simp [zR, qup]; done))) (fun h63 => ?_) (fun h63 => ?_)
        rotate_left
        ·
          refine q_aload_n dX8_biggest_66 rfl ?_
          refine q_getr dX8_biggest_67 fl_8_29 rfl rfl ?_
          refine q_aload_n dX8_biggest_70 rfl ?_
          refine q_iload_n dX8_biggest_71 rfl ?_
          refine q_iload dX8_biggest_72 rfl ?_
          have hdd : ((L : Int) - d) = ((L - d : Nat) : Int) := by omega
          have hoi := off_in (d := d) (by omega) ⟨hx.1, h63⟩
          have hen := hm.2.1 d x (by omega) hx.1 h63
          rw [show (Value.int (zI ((L : Int) - d)) : Value) = .int (zI ((L - d : Nat) : Int)) by rw [hdd]]
          refine q_V2 dX8_biggest_74 ml_8_97 md_X8_spot (m_spot (L := L) (l := L - d) h9 hL4 (by omega) (by rw [show L - (L - d) = d by omega]; exact ⟨hx.1, h63⟩)) rfl rfl rfl (by first | decide | omega) (Nat.le_of_ble_eq_true rfl) (Nat.le_of_ble_eq_true rfl) (qk_e ?_)
          rw [show L - (L - d) = d by omega, ← hdd]
          refine q_iald dX8_biggest_77 rfl (by (first | (unfold zR; omega) | (unfold zLR; omega) | omega | (simp only [zR, qup] at *; omega) | (simp [zR, qup]; omega) | (simp [zR, qup]; done))) (Nat.le_of_ble_eq_true rfl) ?_
          rw [show mtw (fW M 0 L k) Tq Kq Fq Sq (tsz (scl M k) L 0) 44 (off d + x) = Kq (off d + x) from rfl, hen.1]
          refine q_iload_n dX8_biggest_78 rfl ?_
          refine q_icmp_ne (tgt := 93) dX8_biggest_79 rfl (by (first | (unfold zR; omega) | (unfold zLR; omega) | omega | (simp only [zR, qup] at *; omega) | (simp [zR, qup]; omega) | (simp [zR, qup]; done))) (by (first | (unfold zR; omega) | (unfold zLR; omega) | omega | (simp only [zR, qup] at *; omega) | (simp [zR, qup]; omega) | (simp [zR, qup]; done))) (fun h79 => ?_) (fun h79 => ?_)
          ·
            refine q_iinc dX8_biggest_93 rfl (Nat.le_of_ble_eq_true rfl) rfl ?_
            refine q_goto (tgt := 56) dX8_biggest_96 rfl ?_
            exact ih2 (x + 1) _ _ ⟨by omega, by omega, fun j j0 j1 => by
              by_cases e : j = x
              · subst e; exact h79
              · exact hx.2.2 j j0 (by omega)⟩ (by omega) rfl rfl
          ·
            refine q_bipush dX8_biggest_82 rfl ?_
            refine q_iload_n dX8_biggest_84 rfl ?_
            refine q_S1 dX8_biggest_85 ml_8_94 md_X8_span (m_span (by omega)) rfl (by first | decide | omega) (Nat.le_of_ble_eq_true rfl) (Nat.le_of_ble_eq_true rfl) (qk_e ?_)
            refine q_imul dX8_biggest_88 ?_
            refine q_iload dX8_biggest_89 rfl ?_
            refine q_imul dX8_biggest_91 ?_
            refine q_ireturn dX8_biggest_92 ?_
            have hmc : 8 * p4 ((L : Int) - d) * x = 8 * (x * p4 ((L : Int) - d)) := by rw [Int.mul_assoc, Int.mul_comm x]
            have hnn : 0 ≤ x * p4 ((L : Int) - d) := Int.mul_nonneg hx.1 (by omega)
            exact mpx_k hg ⟨⟨x * p4 ((L : Int) - d), Or.inr ⟨d, x, hd.1, by omega, hx.1, h63, h79, rfl, hx.2.2, hd.2.2⟩, by rw [if_neg (by omega), hmc]⟩, hMS⟩
        refine q_iinc dX8_biggest_99 rfl (Nat.le_of_ble_eq_true rfl) rfl ?_
        refine q_goto (tgt := 49) dX8_biggest_102 rfl ?_
        refine q_wk _ ?_ (ih (d + 1) _ _ ⟨by omega, by omega, fun j y j0 j1 y0 y1 => by
          by_cases e : j = d
          · subst e; exact hx.2.2 y y0 (by omega)
          · exact hd.2.2 j y j0 (by omega) y0 y1⟩ (by omega) rfl rfl)
        rw [show (L : Int) - (d : Int) + -1 = (L : Int) - ((d + 1 : Nat) : Int) by omega]
        simp only [wkB]
        (repeat (first | exact rfl | exact trivial | refine ⟨rfl, ?_⟩))
      ·
        refine q_iconst dX8_biggest_35 ?_
        refine q_ireturn dX8_biggest_36 ?_
        exact mpx_g (zbn h32)
    ·
      refine q_iload_n dX8_biggest_13 rfl ?_
      refine q_iconst dX8_biggest_14 ?_
      refine q_icmp_eq (tgt := 27) dX8_biggest_15 rfl (by (first | (unfold zR; omega) | (unfold zLR; omega) | omega | (simp only [zR, qup] at *; omega) | (simp [zR, qup]; omega) | (simp [zR, qup]; done))) (by (first | (unfold zR; omega) | (unfold zLR; omega) | omega | (simp only [zR, qup] at *; omega) | (simp [zR, qup]; omega) | (simp [zR, qup]; done))) (fun h15 => ?_) (fun h15 => ?_)
      ·
        refine q_iconst dX8_biggest_27 ?_
        refine q_iconst dX8_biggest_28 ?_
        have hgb0 : (q = 0 ∨ q = 1 ∨ q = 3) → (if (0 : Int) = 1 then (3 : Int) else 0) = (if q = 0 ∨ q = 1 ∨ q = 3 then 0 else 3) := fun w => (if_pos w).symm
        have hgb1 : ¬ (q = 0 ∨ q = 1 ∨ q = 3) → (if (1 : Int) = 1 then (3 : Int) else 0) = (if q = 0 ∨ q = 1 ∨ q = 3 then 0 else 3) := fun w => (if_neg w).symm
        refine q_V2 dX8_biggest_29 ml_8_64 md_X8_refuse (m_refH (by omega) (gor_R (mT_R M) mMp_R) (by (first | (unfold zR; omega) | (unfold zLR; omega) | omega | (simp only [zR, qup] at *; omega) | (simp [zR, qup]; omega) | (simp [zR, qup]; done))) (by first | exact hgb0 (by omega) | exact hgb1 (by omega))) rfl rfl rfl (by first | decide | omega) (Nat.le_of_ble_eq_true rfl) (Nat.le_of_ble_eq_true rfl) (qk_e ?_)
        refine q_if_eq (tgt := 37) dX8_biggest_32 rfl (by exact zb_R _) (fun h32 => ?_) (fun h32 => ?_)
        ·
          have hg := zbz h32
          have hg2 := gor_00.1 hg
          have hgk := gG_0 hM hg2.1
          have hqq : q = 0 ∨ q = 1 ∨ q = 3 := Classical.byContradiction fun w => by have := hg2.2; rw [if_neg w] at this; omega
          rw [hg]
          refine q_aload_n dX8_biggest_37 rfl ?_
          refine q_iload_n dX8_biggest_38 rfl ?_
          refine q_V1 dX8_biggest_39 ml_8_286 md_X8_fetchesTree (m_fetchesTree hM hL (by omega)) rfl rfl rfl (by first | decide | omega) (Nat.le_of_ble_eq_true rfl) (Nat.le_of_ble_eq_true rfl) (qk_h (fun N39 hq39 => ?_))
          obtain ⟨Tq, Kq, Fq, Sq, rfl, hm⟩ := hq39
          have hMS : MS (qup M 37 0 0) (mtw (fW M 0 L k) Tq Kq Fq Sq (tsz (scl M k) L 0)) := MS_tr (fW_MS M 0 L k) (mtw_MS _ _ _ _ _ _)
          have h9 : mtw (fW M 0 L k) Tq Kq Fq Sq (tsz (scl M k) L 0) 37 9 = (L : Int) := by rw [mtw_9]; exact fW_9
          refine q_aload_n dX8_biggest_42 rfl ?_
          refine q_geti (j := 9) dX8_biggest_43 fl_8_83 rfl rfl rfl ?_
          rw [h9]
          refine q_iconst dX8_biggest_46 ?_
          refine q_isub dX8_biggest_47 ?_
          refine q_istore_n dX8_biggest_48 (Nat.le_of_ble_eq_true rfl) rfl ?_
          refine q_lp (fun d : Nat => L + 1 - d) (fun d => 1 ≤ d ∧ d ≤ L + 1 ∧ ∀ (j : Nat) (x : Int), 1 ≤ j → j < d → 0 ≤ x → x < p4 j → bcode (scl M k) L j x ≠ q) (fun d => [some (.ref 37), some (.int (zI k)), some (.int (zI q)), some (.int (zI ((L : Int) - d))), none]) (fun _ => mtw (fW M 0 L k) Tq Kq Fq Sq (tsz (scl M k) L 0)) 1 rfl rfl ⟨by omega, by omega, fun j x j0 j1 => by omega⟩ (fun d hd ih => ?_)
          refine q_iload_n dX8_biggest_49 rfl ?_
          refine q_if_lt (tgt := 105) dX8_biggest_50 rfl (by (first | (unfold zR; omega) | (unfold zLR; omega) | omega | (simp only [zR, qup] at *; omega) | (simp [zR, qup]; omega) | (simp [zR, qup]; done))) (fun h50 => ?_) (fun h50 => ?_)
          ·
            refine q_iconst dX8_biggest_105 ?_
            refine q_ireturn dX8_biggest_106 ?_
            exact mpx_k hg ⟨⟨-1, Or.inl ⟨rfl, fun j y j0 j1 y0 y1 => hd.2.2 j y j0 (by omega) y0 y1⟩, rfl⟩, hMS⟩
          refine q_iconst dX8_biggest_53 ?_
          refine q_istore dX8_biggest_54 (Nat.le_of_ble_eq_true rfl) rfl ?_
          have hpd := p4_in (d : Int)
          have hpl := p4_in ((L : Int) - d)
          refine q_lp (fun x : Int => (p4 (d : Int) - x).toNat) (fun x => 0 ≤ x ∧ x ≤ p4 (d : Int) ∧ ∀ j, 0 ≤ j → j < x → bcode (scl M k) L d j ≠ q) (fun x => [some (.ref 37), some (.int (zI k)), some (.int (zI q)), some (.int (zI ((L : Int) - d))), some (.int (zI x))]) (fun _ => mtw (fW M 0 L k) Tq Kq Fq Sq (tsz (scl M k) L 0)) 0 rfl rfl ⟨by omega, by omega, fun j j0 j1 => by omega⟩ (fun x hx ih2 => ?_)
          have hbc := bcode_in (scl M k) L d x
          refine q_iload dX8_biggest_56 rfl ?_
          refine q_aload_n dX8_biggest_58 rfl ?_
          refine q_iload_n dX8_biggest_59 rfl ?_
          refine q_V1 dX8_biggest_60 ml_8_90 md_X8_blocks (m_blocks (L := L) h9 (by omega)) rfl rfl rfl (by first | decide | omega) (Nat.le_of_ble_eq_true rfl) (Nat.le_of_ble_eq_true rfl) (qk_e ?_)
          rw [show (L : Int) - ((L : Int) - d) = d by omega]
          refine q_icmp_ge (tgt := 99) dX8_biggest_63 rfl (by (first | (unfold zR; omega) | (unfold zLR; omega) | omega | (simp only [zR, qup] at *; omega) | (simp [zR, qup]; omega) | (simp [zR, qup]; done))) (by (first | (unfold zR; omega) | (unfold zLR; omega) | omega | (simp only [zR, qup] at *; omega) | (simp [zR, qup]; omega) | (simp [zR, qup]; done))) (fun h63 => ?_) (fun h63 => ?_)
          rotate_left
          ·
            refine q_aload_n dX8_biggest_66 rfl ?_
            refine q_getr dX8_biggest_67 fl_8_29 rfl rfl ?_
            refine q_aload_n dX8_biggest_70 rfl ?_
            refine q_iload_n dX8_biggest_71 rfl ?_
            refine q_iload dX8_biggest_72 rfl ?_
            have hdd : ((L : Int) - d) = ((L - d : Nat) : Int) := by omega
            have hoi := off_in (d := d) (by omega) ⟨hx.1, h63⟩
            have hen := hm.2.1 d x (by omega) hx.1 h63
            rw [show (Value.int (zI ((L : Int) - d)) : Value) = .int (zI ((L - d : Nat) : Int)) by rw [hdd]]
            refine q_V2 dX8_biggest_74 ml_8_97 md_X8_spot (m_spot (L := L) (l := L - d) h9 hL4 (by omega) (by rw [show L - (L - d) = d by omega]; exact ⟨hx.1, h63⟩)) rfl rfl rfl (by first | decide | omega) (Nat.le_of_ble_eq_true rfl) (Nat.le_of_ble_eq_true rfl) (qk_e ?_)
            rw [show L - (L - d) = d by omega, ← hdd]
            refine q_iald dX8_biggest_77 rfl (by (first | (unfold zR; omega) | (unfold zLR; omega) | omega | (simp only [zR, qup] at *; omega) | (simp [zR, qup]; omega) | (simp [zR, qup]; done))) (Nat.le_of_ble_eq_true rfl) ?_
            rw [show mtw (fW M 0 L k) Tq Kq Fq Sq (tsz (scl M k) L 0) 44 (off d + x) = Kq (off d + x) from rfl, hen.1]
            refine q_iload_n dX8_biggest_78 rfl ?_
            refine q_icmp_ne (tgt := 93) dX8_biggest_79 rfl (by (first | (unfold zR; omega) | (unfold zLR; omega) | omega | (simp only [zR, qup] at *; omega) | (simp [zR, qup]; omega) | (simp [zR, qup]; done))) (by (first | (unfold zR; omega) | (unfold zLR; omega) | omega | (simp only [zR, qup] at *; omega) | (simp [zR, qup]; omega) | (simp [zR, qup]; done))) (fun h79 => ?_) (fun h79 => ?_)
            ·
              refine q_iinc dX8_biggest_93 rfl (Nat.le_of_ble_eq_true rfl) rfl ?_
              refine q_goto (tgt := 56) dX8_biggest_96 rfl ?_
              exact ih2 (x + 1) _ _ ⟨by omega, by omega, fun j j0 j1 => by
                by_cases e : j = x
                · subst e; exact h79
                · exact hx.2.2 j j0 (by omega)⟩ (by omega) rfl rfl
            ·
              refine q_bipush dX8_biggest_82 rfl ?_
              refine q_iload_n dX8_biggest_84 rfl ?_
              refine q_S1 dX8_biggest_85 ml_8_94 md_X8_span (m_span (by omega)) rfl (by first | decide | omega) (Nat.le_of_ble_eq_true rfl) (Nat.le_of_ble_eq_true rfl) (qk_e ?_)
              refine q_imul dX8_biggest_88 ?_
              refine q_iload dX8_biggest_89 rfl ?_
              refine q_imul dX8_biggest_91 ?_
              refine q_ireturn dX8_biggest_92 ?_
              have hmc : 8 * p4 ((L : Int) - d) * x = 8 * (x * p4 ((L : Int) - d)) := by rw [Int.mul_assoc, Int.mul_comm x]
              have hnn : 0 ≤ x * p4 ((L : Int) - d) := Int.mul_nonneg hx.1 (by omega)
              exact mpx_k hg ⟨⟨x * p4 ((L : Int) - d), Or.inr ⟨d, x, hd.1, by omega, hx.1, h63, h79, rfl, hx.2.2, hd.2.2⟩, by rw [if_neg (by omega), hmc]⟩, hMS⟩
          refine q_iinc dX8_biggest_99 rfl (Nat.le_of_ble_eq_true rfl) rfl ?_
          refine q_goto (tgt := 49) dX8_biggest_102 rfl ?_
          refine q_wk _ ?_ (ih (d + 1) _ _ ⟨by omega, by omega, fun j y j0 j1 y0 y1 => by
            by_cases e : j = d
            · subst e; exact hx.2.2 y y0 (by omega)
            · exact hd.2.2 j y j0 (by omega) y0 y1⟩ (by omega) rfl rfl)
          rw [show (L : Int) - (d : Int) + -1 = (L : Int) - ((d + 1 : Nat) : Int) by omega]
          simp only [wkB]
          (repeat (first | exact rfl | exact trivial | refine ⟨rfl, ?_⟩))
        ·
          refine q_iconst dX8_biggest_35 ?_
          refine q_ireturn dX8_biggest_36 ?_
          exact mpx_g (zbn h32)
      ·
        refine q_iload_n dX8_biggest_18 rfl ?_
        refine q_iconst dX8_biggest_19 ?_
        refine q_icmp_eq (tgt := 27) dX8_biggest_20 rfl (by (first | (unfold zR; omega) | (unfold zLR; omega) | omega | (simp only [zR, qup] at *; omega) | (simp [zR, qup]; omega) | (simp [zR, qup]; done))) (by (first | (unfold zR; omega) | (unfold zLR; omega) | omega | (simp only [zR, qup] at *; omega) | (simp [zR, qup]; omega) | (simp [zR, qup]; done))) (fun h20 => ?_) (fun h20 => ?_)
        ·
          refine q_iconst dX8_biggest_27 ?_
          refine q_iconst dX8_biggest_28 ?_
          have hgb0 : (q = 0 ∨ q = 1 ∨ q = 3) → (if (0 : Int) = 1 then (3 : Int) else 0) = (if q = 0 ∨ q = 1 ∨ q = 3 then 0 else 3) := fun w => (if_pos w).symm
          have hgb1 : ¬ (q = 0 ∨ q = 1 ∨ q = 3) → (if (1 : Int) = 1 then (3 : Int) else 0) = (if q = 0 ∨ q = 1 ∨ q = 3 then 0 else 3) := fun w => (if_neg w).symm
          refine q_V2 dX8_biggest_29 ml_8_64 md_X8_refuse (m_refH (by omega) (gor_R (mT_R M) mMp_R) (by (first | (unfold zR; omega) | (unfold zLR; omega) | omega | (simp only [zR, qup] at *; omega) | (simp [zR, qup]; omega) | (simp [zR, qup]; done))) (by first | exact hgb0 (by omega) | exact hgb1 (by omega))) rfl rfl rfl (by first | decide | omega) (Nat.le_of_ble_eq_true rfl) (Nat.le_of_ble_eq_true rfl) (qk_e ?_)
          refine q_if_eq (tgt := 37) dX8_biggest_32 rfl (by exact zb_R _) (fun h32 => ?_) (fun h32 => ?_)
          ·
            have hg := zbz h32
            have hg2 := gor_00.1 hg
            have hgk := gG_0 hM hg2.1
            have hqq : q = 0 ∨ q = 1 ∨ q = 3 := Classical.byContradiction fun w => by have := hg2.2; rw [if_neg w] at this; omega
            rw [hg]
            refine q_aload_n dX8_biggest_37 rfl ?_
            refine q_iload_n dX8_biggest_38 rfl ?_
            refine q_V1 dX8_biggest_39 ml_8_286 md_X8_fetchesTree (m_fetchesTree hM hL (by omega)) rfl rfl rfl (by first | decide | omega) (Nat.le_of_ble_eq_true rfl) (Nat.le_of_ble_eq_true rfl) (qk_h (fun N39 hq39 => ?_))
            obtain ⟨Tq, Kq, Fq, Sq, rfl, hm⟩ := hq39
            have hMS : MS (qup M 37 0 0) (mtw (fW M 0 L k) Tq Kq Fq Sq (tsz (scl M k) L 0)) := MS_tr (fW_MS M 0 L k) (mtw_MS _ _ _ _ _ _)
            have h9 : mtw (fW M 0 L k) Tq Kq Fq Sq (tsz (scl M k) L 0) 37 9 = (L : Int) := by rw [mtw_9]; exact fW_9
            refine q_aload_n dX8_biggest_42 rfl ?_
            refine q_geti (j := 9) dX8_biggest_43 fl_8_83 rfl rfl rfl ?_
            rw [h9]
            refine q_iconst dX8_biggest_46 ?_
            refine q_isub dX8_biggest_47 ?_
            refine q_istore_n dX8_biggest_48 (Nat.le_of_ble_eq_true rfl) rfl ?_
            refine q_lp (fun d : Nat => L + 1 - d) (fun d => 1 ≤ d ∧ d ≤ L + 1 ∧ ∀ (j : Nat) (x : Int), 1 ≤ j → j < d → 0 ≤ x → x < p4 j → bcode (scl M k) L j x ≠ q) (fun d => [some (.ref 37), some (.int (zI k)), some (.int (zI q)), some (.int (zI ((L : Int) - d))), none]) (fun _ => mtw (fW M 0 L k) Tq Kq Fq Sq (tsz (scl M k) L 0)) 1 rfl rfl ⟨by omega, by omega, fun j x j0 j1 => by omega⟩ (fun d hd ih => ?_)
            refine q_iload_n dX8_biggest_49 rfl ?_
            refine q_if_lt (tgt := 105) dX8_biggest_50 rfl (by (first | (unfold zR; omega) | (unfold zLR; omega) | omega | (simp only [zR, qup] at *; omega) | (simp [zR, qup]; omega) | (simp [zR, qup]; done))) (fun h50 => ?_) (fun h50 => ?_)
            ·
              refine q_iconst dX8_biggest_105 ?_
              refine q_ireturn dX8_biggest_106 ?_
              exact mpx_k hg ⟨⟨-1, Or.inl ⟨rfl, fun j y j0 j1 y0 y1 => hd.2.2 j y j0 (by omega) y0 y1⟩, rfl⟩, hMS⟩
            refine q_iconst dX8_biggest_53 ?_
            refine q_istore dX8_biggest_54 (Nat.le_of_ble_eq_true rfl) rfl ?_
            have hpd := p4_in (d : Int)
            have hpl := p4_in ((L : Int) - d)
            refine q_lp (fun x : Int => (p4 (d : Int) - x).toNat) (fun x => 0 ≤ x ∧ x ≤ p4 (d : Int) ∧ ∀ j, 0 ≤ j → j < x → bcode (scl M k) L d j ≠ q) (fun x => [some (.ref 37), some (.int (zI k)), some (.int (zI q)), some (.int (zI ((L : Int) - d))), some (.int (zI x))]) (fun _ => mtw (fW M 0 L k) Tq Kq Fq Sq (tsz (scl M k) L 0)) 0 rfl rfl ⟨by omega, by omega, fun j j0 j1 => by omega⟩ (fun x hx ih2 => ?_)
            have hbc := bcode_in (scl M k) L d x
            refine q_iload dX8_biggest_56 rfl ?_
            refine q_aload_n dX8_biggest_58 rfl ?_
            refine q_iload_n dX8_biggest_59 rfl ?_
            refine q_V1 dX8_biggest_60 ml_8_90 md_X8_blocks (m_blocks (L := L) h9 (by omega)) rfl rfl rfl (by first | decide | omega) (Nat.le_of_ble_eq_true rfl) (Nat.le_of_ble_eq_true rfl) (qk_e ?_)
            rw [show (L : Int) - ((L : Int) - d) = d by omega]
            refine q_icmp_ge (tgt := 99) dX8_biggest_63 rfl (by (first | (unfold zR; omega) | (unfold zLR; omega) | omega | (simp only [zR, qup] at *; omega) | (simp [zR, qup]; omega) | (simp [zR, qup]; done))) (by (first | (unfold zR; omega) | (unfold zLR; omega) | omega | (simp only [zR, qup] at *; omega) | (simp [zR, qup]; omega) | (simp [zR, qup]; done))) (fun h63 => ?_) (fun h63 => ?_)
            rotate_left
            ·
              refine q_aload_n dX8_biggest_66 rfl ?_
              refine q_getr dX8_biggest_67 fl_8_29 rfl rfl ?_
              refine q_aload_n dX8_biggest_70 rfl ?_
              refine q_iload_n dX8_biggest_71 rfl ?_
              refine q_iload dX8_biggest_72 rfl ?_
              have hdd : ((L : Int) - d) = ((L - d : Nat) : Int) := by omega
              have hoi := off_in (d := d) (by omega) ⟨hx.1, h63⟩
              have hen := hm.2.1 d x (by omega) hx.1 h63
              rw [show (Value.int (zI ((L : Int) - d)) : Value) = .int (zI ((L - d : Nat) : Int)) by rw [hdd]]
              refine q_V2 dX8_biggest_74 ml_8_97 md_X8_spot (m_spot (L := L) (l := L - d) h9 hL4 (by omega) (by rw [show L - (L - d) = d by omega]; exact ⟨hx.1, h63⟩)) rfl rfl rfl (by first | decide | omega) (Nat.le_of_ble_eq_true rfl) (Nat.le_of_ble_eq_true rfl) (qk_e ?_)
              rw [show L - (L - d) = d by omega, ← hdd]
              refine q_iald dX8_biggest_77 rfl (by (first | (unfold zR; omega) | (unfold zLR; omega) | omega | (simp only [zR, qup] at *; omega) | (simp [zR, qup]; omega) | (simp [zR, qup]; done))) (Nat.le_of_ble_eq_true rfl) ?_
              rw [show mtw (fW M 0 L k) Tq Kq Fq Sq (tsz (scl M k) L 0) 44 (off d + x) = Kq (off d + x) from rfl, hen.1]
              refine q_iload_n dX8_biggest_78 rfl ?_
              refine q_icmp_ne (tgt := 93) dX8_biggest_79 rfl (by (first | (unfold zR; omega) | (unfold zLR; omega) | omega | (simp only [zR, qup] at *; omega) | (simp [zR, qup]; omega) | (simp [zR, qup]; done))) (by (first | (unfold zR; omega) | (unfold zLR; omega) | omega | (simp only [zR, qup] at *; omega) | (simp [zR, qup]; omega) | (simp [zR, qup]; done))) (fun h79 => ?_) (fun h79 => ?_)
              ·
                refine q_iinc dX8_biggest_93 rfl (Nat.le_of_ble_eq_true rfl) rfl ?_
                refine q_goto (tgt := 56) dX8_biggest_96 rfl ?_
                exact ih2 (x + 1) _ _ ⟨by omega, by omega, fun j j0 j1 => by
                  by_cases e : j = x
                  · subst e; exact h79
                  · exact hx.2.2 j j0 (by omega)⟩ (by omega) rfl rfl
              ·
                refine q_bipush dX8_biggest_82 rfl ?_
                refine q_iload_n dX8_biggest_84 rfl ?_
                refine q_S1 dX8_biggest_85 ml_8_94 md_X8_span (m_span (by omega)) rfl (by first | decide | omega) (Nat.le_of_ble_eq_true rfl) (Nat.le_of_ble_eq_true rfl) (qk_e ?_)
                refine q_imul dX8_biggest_88 ?_
                refine q_iload dX8_biggest_89 rfl ?_
                refine q_imul dX8_biggest_91 ?_
                refine q_ireturn dX8_biggest_92 ?_
                have hmc : 8 * p4 ((L : Int) - d) * x = 8 * (x * p4 ((L : Int) - d)) := by rw [Int.mul_assoc, Int.mul_comm x]
                have hnn : 0 ≤ x * p4 ((L : Int) - d) := Int.mul_nonneg hx.1 (by omega)
                exact mpx_k hg ⟨⟨x * p4 ((L : Int) - d), Or.inr ⟨d, x, hd.1, by omega, hx.1, h63, h79, rfl, hx.2.2, hd.2.2⟩, by rw [if_neg (by omega), hmc]⟩, hMS⟩
            refine q_iinc dX8_biggest_99 rfl (Nat.le_of_ble_eq_true rfl) rfl ?_
            refine q_goto (tgt := 49) dX8_biggest_102 rfl ?_
            refine q_wk _ ?_ (ih (d + 1) _ _ ⟨by omega, by omega, fun j y j0 j1 y0 y1 => by
              by_cases e : j = d
              · subst e; exact hx.2.2 y y0 (by omega)
              · exact hd.2.2 j y j0 (by omega) y0 y1⟩ (by omega) rfl rfl)
            rw [show (L : Int) - (d : Int) + -1 = (L : Int) - ((d + 1 : Nat) : Int) by omega]
            simp only [wkB]
            (repeat (first | exact rfl | exact trivial | refine ⟨rfl, ?_⟩))
          ·
            refine q_iconst dX8_biggest_35 ?_
            refine q_ireturn dX8_biggest_36 ?_
            exact mpx_g (zbn h32)
        ·
          refine q_iconst dX8_biggest_23 ?_
          refine q_goto (tgt := 28) dX8_biggest_24 rfl ?_
          refine q_iconst dX8_biggest_28 ?_
          have hgb0 : (q = 0 ∨ q = 1 ∨ q = 3) → (if (0 : Int) = 1 then (3 : Int) else 0) = (if q = 0 ∨ q = 1 ∨ q = 3 then 0 else 3) := fun w => (if_pos w).symm
          have hgb1 : ¬ (q = 0 ∨ q = 1 ∨ q = 3) → (if (1 : Int) = 1 then (3 : Int) else 0) = (if q = 0 ∨ q = 1 ∨ q = 3 then 0 else 3) := fun w => (if_neg w).symm
          refine q_V2 dX8_biggest_29 ml_8_64 md_X8_refuse (m_refH (by omega) (gor_R (mT_R M) mMp_R) (by (first | (unfold zR; omega) | (unfold zLR; omega) | omega | (simp only [zR, qup] at *; omega) | (simp [zR, qup]; omega) | (simp [zR, qup]; done))) (by first | exact hgb0 (by omega) | exact hgb1 (by omega))) rfl rfl rfl (by first | decide | omega) (Nat.le_of_ble_eq_true rfl) (Nat.le_of_ble_eq_true rfl) (qk_e ?_)
          refine q_if_eq (tgt := 37) dX8_biggest_32 rfl (by exact zb_R _) (fun h32 => ?_) (fun h32 => ?_)
          ·
            have hg := zbz h32
            have hg2 := gor_00.1 hg
            have hgk := gG_0 hM hg2.1
            have hqq : q = 0 ∨ q = 1 ∨ q = 3 := Classical.byContradiction fun w => by have := hg2.2; rw [if_neg w] at this; omega
            rw [hg]
            refine q_aload_n dX8_biggest_37 rfl ?_
            refine q_iload_n dX8_biggest_38 rfl ?_
            refine q_V1 dX8_biggest_39 ml_8_286 md_X8_fetchesTree (m_fetchesTree hM hL (by omega)) rfl rfl rfl (by first | decide | omega) (Nat.le_of_ble_eq_true rfl) (Nat.le_of_ble_eq_true rfl) (qk_h (fun N39 hq39 => ?_))
            obtain ⟨Tq, Kq, Fq, Sq, rfl, hm⟩ := hq39
            have hMS : MS (qup M 37 0 0) (mtw (fW M 0 L k) Tq Kq Fq Sq (tsz (scl M k) L 0)) := MS_tr (fW_MS M 0 L k) (mtw_MS _ _ _ _ _ _)
            have h9 : mtw (fW M 0 L k) Tq Kq Fq Sq (tsz (scl M k) L 0) 37 9 = (L : Int) := by rw [mtw_9]; exact fW_9
            refine q_aload_n dX8_biggest_42 rfl ?_
            refine q_geti (j := 9) dX8_biggest_43 fl_8_83 rfl rfl rfl ?_
            rw [h9]
            refine q_iconst dX8_biggest_46 ?_
            refine q_isub dX8_biggest_47 ?_
            refine q_istore_n dX8_biggest_48 (Nat.le_of_ble_eq_true rfl) rfl ?_
            refine q_lp (fun d : Nat => L + 1 - d) (fun d => 1 ≤ d ∧ d ≤ L + 1 ∧ ∀ (j : Nat) (x : Int), 1 ≤ j → j < d → 0 ≤ x → x < p4 j → bcode (scl M k) L j x ≠ q) (fun d => [some (.ref 37), some (.int (zI k)), some (.int (zI q)), some (.int (zI ((L : Int) - d))), none]) (fun _ => mtw (fW M 0 L k) Tq Kq Fq Sq (tsz (scl M k) L 0)) 1 rfl rfl ⟨by omega, by omega, fun j x j0 j1 => by omega⟩ (fun d hd ih => ?_)
            refine q_iload_n dX8_biggest_49 rfl ?_
            refine q_if_lt (tgt := 105) dX8_biggest_50 rfl (by (first | (unfold zR; omega) | (unfold zLR; omega) | omega | (simp only [zR, qup] at *; omega) | (simp [zR, qup]; omega) | (simp [zR, qup]; done))) (fun h50 => ?_) (fun h50 => ?_)
            ·
              refine q_iconst dX8_biggest_105 ?_
              refine q_ireturn dX8_biggest_106 ?_
              exact mpx_k hg ⟨⟨-1, Or.inl ⟨rfl, fun j y j0 j1 y0 y1 => hd.2.2 j y j0 (by omega) y0 y1⟩, rfl⟩, hMS⟩
            refine q_iconst dX8_biggest_53 ?_
            refine q_istore dX8_biggest_54 (Nat.le_of_ble_eq_true rfl) rfl ?_
            have hpd := p4_in (d : Int)
            have hpl := p4_in ((L : Int) - d)
            refine q_lp (fun x : Int => (p4 (d : Int) - x).toNat) (fun x => 0 ≤ x ∧ x ≤ p4 (d : Int) ∧ ∀ j, 0 ≤ j → j < x → bcode (scl M k) L d j ≠ q) (fun x => [some (.ref 37), some (.int (zI k)), some (.int (zI q)), some (.int (zI ((L : Int) - d))), some (.int (zI x))]) (fun _ => mtw (fW M 0 L k) Tq Kq Fq Sq (tsz (scl M k) L 0)) 0 rfl rfl ⟨by omega, by omega, fun j j0 j1 => by omega⟩ (fun x hx ih2 => ?_)
            have hbc := bcode_in (scl M k) L d x
            refine q_iload dX8_biggest_56 rfl ?_
            refine q_aload_n dX8_biggest_58 rfl ?_
            refine q_iload_n dX8_biggest_59 rfl ?_
            refine q_V1 dX8_biggest_60 ml_8_90 md_X8_blocks (m_blocks (L := L) h9 (by omega)) rfl rfl rfl (by first | decide | omega) (Nat.le_of_ble_eq_true rfl) (Nat.le_of_ble_eq_true rfl) (qk_e ?_)
            rw [show (L : Int) - ((L : Int) - d) = d by omega]
            refine q_icmp_ge (tgt := 99) dX8_biggest_63 rfl (by (first | (unfold zR; omega) | (unfold zLR; omega) | omega | (simp only [zR, qup] at *; omega) | (simp [zR, qup]; omega) | (simp [zR, qup]; done))) (by (first | (unfold zR; omega) | (unfold zLR; omega) | omega | (simp only [zR, qup] at *; omega) | (simp [zR, qup]; omega) | (simp [zR, qup]; done))) (fun h63 => ?_) (fun h63 => ?_)
            rotate_left
            ·
              refine q_aload_n dX8_biggest_66 rfl ?_
              refine q_getr dX8_biggest_67 fl_8_29 rfl rfl ?_
              refine q_aload_n dX8_biggest_70 rfl ?_
              refine q_iload_n dX8_biggest_71 rfl ?_
              refine q_iload dX8_biggest_72 rfl ?_
              have hdd : ((L : Int) - d) = ((L - d : Nat) : Int) := by omega
              have hoi := off_in (d := d) (by omega) ⟨hx.1, h63⟩
              have hen := hm.2.1 d x (by omega) hx.1 h63
              rw [show (Value.int (zI ((L : Int) - d)) : Value) = .int (zI ((L - d : Nat) : Int)) by rw [hdd]]
              refine q_V2 dX8_biggest_74 ml_8_97 md_X8_spot (m_spot (L := L) (l := L - d) h9 hL4 (by omega) (by rw [show L - (L - d) = d by omega]; exact ⟨hx.1, h63⟩)) rfl rfl rfl (by first | decide | omega) (Nat.le_of_ble_eq_true rfl) (Nat.le_of_ble_eq_true rfl) (qk_e ?_)
              rw [show L - (L - d) = d by omega, ← hdd]
              refine q_iald dX8_biggest_77 rfl (by (first | (unfold zR; omega) | (unfold zLR; omega) | omega | (simp only [zR, qup] at *; omega) | (simp [zR, qup]; omega) | (simp [zR, qup]; done))) (Nat.le_of_ble_eq_true rfl) ?_
              rw [show mtw (fW M 0 L k) Tq Kq Fq Sq (tsz (scl M k) L 0) 44 (off d + x) = Kq (off d + x) from rfl, hen.1]
              refine q_iload_n dX8_biggest_78 rfl ?_
              refine q_icmp_ne (tgt := 93) dX8_biggest_79 rfl (by (first | (unfold zR; omega) | (unfold zLR; omega) | omega | (simp only [zR, qup] at *; omega) | (simp [zR, qup]; omega) | (simp [zR, qup]; done))) (by (first | (unfold zR; omega) | (unfold zLR; omega) | omega | (simp only [zR, qup] at *; omega) | (simp [zR, qup]; omega) | (simp [zR, qup]; done))) (fun h79 => ?_) (fun h79 => ?_)
              ·
                refine q_iinc dX8_biggest_93 rfl (Nat.le_of_ble_eq_true rfl) rfl ?_
                refine q_goto (tgt := 56) dX8_biggest_96 rfl ?_
                exact ih2 (x + 1) _ _ ⟨by omega, by omega, fun j j0 j1 => by
                  by_cases e : j = x
                  · subst e; exact h79
                  · exact hx.2.2 j j0 (by omega)⟩ (by omega) rfl rfl
              ·
                refine q_bipush dX8_biggest_82 rfl ?_
                refine q_iload_n dX8_biggest_84 rfl ?_
                refine q_S1 dX8_biggest_85 ml_8_94 md_X8_span (m_span (by omega)) rfl (by first | decide | omega) (Nat.le_of_ble_eq_true rfl) (Nat.le_of_ble_eq_true rfl) (qk_e ?_)
                refine q_imul dX8_biggest_88 ?_
                refine q_iload dX8_biggest_89 rfl ?_
                refine q_imul dX8_biggest_91 ?_
                refine q_ireturn dX8_biggest_92 ?_
                have hmc : 8 * p4 ((L : Int) - d) * x = 8 * (x * p4 ((L : Int) - d)) := by rw [Int.mul_assoc, Int.mul_comm x]
                have hnn : 0 ≤ x * p4 ((L : Int) - d) := Int.mul_nonneg hx.1 (by omega)
                exact mpx_k hg ⟨⟨x * p4 ((L : Int) - d), Or.inr ⟨d, x, hd.1, by omega, hx.1, h63, h79, rfl, hx.2.2, hd.2.2⟩, by rw [if_neg (by omega), hmc]⟩, hMS⟩
            refine q_iinc dX8_biggest_99 rfl (Nat.le_of_ble_eq_true rfl) rfl ?_
            refine q_goto (tgt := 49) dX8_biggest_102 rfl ?_
            refine q_wk _ ?_ (ih (d + 1) _ _ ⟨by omega, by omega, fun j y j0 j1 y0 y1 => by
              by_cases e : j = d
              · subst e; exact hx.2.2 y y0 (by omega)
              · exact hd.2.2 j y j0 (by omega) y0 y1⟩ (by omega) rfl rfl)
            rw [show (L : Int) - (d : Int) + -1 = (L : Int) - ((d + 1 : Nat) : Int) by omega]
            simp only [wkB]
            (repeat (first | exact rfl | exact trivial | refine ⟨rfl, ?_⟩))
          ·
            refine q_iconst dX8_biggest_35 ?_
            refine q_ireturn dX8_biggest_36 ?_
            exact mpx_g (zbn h32)
end NB


/-! The model: codes counted; parts; combined; nearest. -/
theorem zsum_sh (f : Int → Int) (a : Int) : ∀ n : Nat, zsum f a n = zsum (fun x => f (a + x)) 0 n := by
  intro n
  induction n with
  | zero => rfl
  | succ n ih => rw [zsum, zsum, ih, Int.zero_add]
def rsm (h : Nat → Int) : Nat → Int
  | 0 => 0
  | n + 1 => rsm h n + h (n + 1)
theorem rsm_z (h : Nat → Int) (L : Nat) : ∀ n : Nat, n ≤ L → zsum (fun l => h ((L : Int) - l).toNat) 0 n = rsm h L - rsm h (L - n) := by
  intro n
  induction n with
  | zero => intro _; rw [Nat.sub_zero]; simp [zsum]
  | succ n ih =>
    intro hn
    have e : rsm h (L - n) = rsm h (L - (n + 1)) + h (L - n) := by
      rw [show L - n = (L - (n + 1)) + 1 by omega]
      rfl
    rw [zsum, ih (by omega), Int.zero_add, show ((L : Int) - (n : Int)).toNat = L - n by omega]
    omega
theorem off_nn : ∀ d : Nat, 0 ≤ off d := by
  intro d
  induction d with
  | zero => exact Int.le_refl 0
  | succ d ih => have := p4_in (d : Int); rw [off]; omega
theorem off_ex {j : Int} (h0 : 0 ≤ j) : ∀ L : Nat, j < off (L + 1) → ∃ (d : Nat) (x : Int), d ≤ L ∧ 0 ≤ x ∧ x < p4 d ∧ j = off d + x := by
  intro L
  induction L with
  | zero => intro h; exact ⟨0, j, Nat.le_refl 0, h0, by rw [off, show off 0 = 0 from rfl] at h; omega, by rw [show off 0 = 0 from rfl]; omega⟩
  | succ L ih =>
    intro h
    by_cases g : j < off (L + 1)
    · obtain ⟨d, x, a1, a2⟩ := ih g
      exact ⟨d, x, by omega, a2⟩
    · exact ⟨L + 1, j - off (L + 1), Nat.le_refl _, by omega, by rw [off] at h; omega, by omega⟩
section MT2
variable {L : Nat} {c T K F S : Int → Int} {v : Int}
theorem Mt_R (hm : Mt c L T K F S) : ∀ j, 0 ≤ j → j < 341 → zR (K j) := fun j h0 h1 => by
  by_cases g : j < off (L + 1)
  · obtain ⟨d, x, a1, a2, a3, rfl⟩ := off_ex h0 L g
    rw [(hm.2.1 d x a1 a2 a3).1]
    have := bcode_in c L d x
    unfold zR
    omega
  · rw [hm.2.2 j (by omega) h1]
    unfold zR
    omega
theorem codes_sum (hL : L ≤ 4) (hm : Mt c L T K F S) (hv : v ≠ -1) : zsum (fun j => zb (K j = v)) 0 341 = cwith c L v L := by
  have hch : ∀ d : Nat, d ≤ L → zsum (fun j => zb (K j = v)) 0 (off (d + 1)).toNat = rsm (fun e => zsum (fun x => zb (bcode c L e x = v)) 0 (p4 (e : Int)).toNat) d := by
    intro d
    induction d with
    | zero =>
      intro _
      have e1 : (off (0 + 1)).toNat = 1 := by decide
      have e2 := (hm.2.1 0 0 (Nat.zero_le L) (Int.le_refl 0) (by decide)).1
      rw [show off 0 + 0 = 0 from rfl] at e2
      rw [e1, zsum, zsum, Int.zero_add, show (0 : Int) + ((0 : Nat) : Int) = 0 by omega, e2]
      exact zb_f (fun w => hv w.symm)
    | succ d ih =>
      intro hd
      have hp := p4_in ((d + 1 : Nat) : Int)
      have hn := off_nn (d + 1)
      have e1 : (off (d + 1 + 1)).toNat = (off (d + 1)).toNat + (p4 ((d + 1 : Nat) : Int)).toNat := by
        rw [show off (d + 1 + 1) = off (d + 1) + p4 ((d + 1 : Nat) : Int) from rfl]
        omega
      rw [e1, zsum_add, ih (by omega), zsum_sh, rsm]
      congr 1
      refine zsum_congr (fun x h0 h1 => ?_)
      rw [show (0 : Int) + ((off (d + 1)).toNat : Int) + x = off (d + 1) + x by omega, (hm.2.1 (d + 1) x hd h0 (by omega)).1]
  have ho : off (L + 1) ≤ 341 := by
    have : L = 0 ∨ L = 1 ∨ L = 2 ∨ L = 3 ∨ L = 4 := by omega
    rcases this with e | e | e | e | e <;> subst e <;> decide
  have hn := off_nn (L + 1)
  rw [show (341 : Nat) = (off (L + 1)).toNat + (341 - (off (L + 1)).toNat) by omega, zsum_add, hch L (Nat.le_refl L), zsum_0 (f := fun j => zb (K j = v)) (a := 0 + ((off (L + 1)).toNat : Int)) (fun i h0 h1 => zb_f (fun w => hv (by rw [← w]; exact hm.2.2 i (by omega) (by omega)))), Int.add_zero]
  have hz := rsm_z (fun e => zsum (fun x => zb (bcode c L e x = v)) 0 (p4 (e : Int)).toNat) L L (Nat.le_refl L)
  rw [Nat.sub_self, show rsm (fun e => zsum (fun x => zb (bcode c L e x = v)) 0 (p4 (e : Int)).toNat) 0 = 0 from rfl, Int.sub_zero] at hz
  rw [← hz]
  unfold cwith ccnt
  refine zsum_congr (fun l h0 h1 => ?_)
  rw [show (((L : Int) - l).toNat : Int) = (L : Int) - l by omega]
end MT2
section MU
variable {M : qM} {L l : Nat} {c T K F S : Int → Int} {k o x y a b v p q f t n g i : Int}
set_option maxHeartbeats 2000000 in
theorem o_parts (hM : MI M) (hL : M 37 2 = (L : Int)) (hk : zR k) (hq : zR q) : qCt mX8_parts 0 9 [.ref 37, .int (zI k), .int (zI q)] M (mpx (gor (gG M k) (if 0 ≤ q ∧ q ≤ 5 then 0 else 3)) (fun z M' => z = partF (scl M k) L q ∧ MS (qup M 37 0 0) M') M) := by
  have hL4 : L ≤ 4 := by have := hM.2.1; omega
  have ht1 := tsz_in (scl M k) L 0
  have ht2 := tmax_in L hL4
  have htc := tcl_in (scl M k) L
  have z01 := zb_01 (0 ≤ q ∧ q ≤ 5)
  refine q_intro (own := 8) (L := [some (.ref 37), some (.int (zI k)), some (.int (zI q))]) md_X8_parts rfl rfl rfl (Nat.le_of_ble_eq_true rfl) (fun X => ?_)
  refine q_aload_n dX8_parts_0 rfl ?_
  refine q_iload_n dX8_parts_1 rfl ?_
  refine q_V1 dX8_parts_2 ml_8_292 md_X8_noMap (m_noMap hM.1 hM.2.2.2.1 hk) rfl rfl rfl (by first | decide | omega) (Nat.le_of_ble_eq_true rfl) (Nat.le_of_ble_eq_true rfl) (qk_e ?_)
  refine q_if_ne (tgt := 30) dX8_parts_5 rfl (by exact zb_R _) (fun h5 => ?_) (fun h5 => ?_)
  ·
    refine q_iconst dX8_parts_30 ?_
    refine q_ireturn dX8_parts_31 ?_
    exact mpx_g2 (zbn h5)
  ·
    refine q_aload_n dX8_parts_8 rfl ?_
    refine q_iload_n dX8_parts_9 rfl ?_
    refine q_iconst dX8_parts_10 ?_
    refine q_iconst dX8_parts_11 ?_
    refine q_S3 dX8_parts_12 ml_8_71 md_X8_in (m_in hq (by (first | (unfold zR; omega) | (unfold zLR; omega) | omega | (simp only [zR, qup] at *; omega) | (simp [zR, qup]; omega) | (simp [zR, qup]; done))) (by (first | (unfold zR; omega) | (unfold zLR; omega) | omega | (simp only [zR, qup] at *; omega) | (simp [zR, qup]; omega) | (simp [zR, qup]; done)))) rfl (by first | decide | omega) (Nat.le_of_ble_eq_true rfl) (Nat.le_of_ble_eq_true rfl) (qk_e ?_)
    refine q_if_ne (tgt := 22) dX8_parts_15 rfl (by exact zb_R _) (fun h15 => ?_) (fun h15 => ?_)
    ·
      refine q_iconst dX8_parts_22 ?_
      refine q_iconst dX8_parts_23 ?_
      have hgb : (if (0 : Int) = 1 then (3 : Int) else 0) = (if 0 ≤ q ∧ q ≤ 5 then 0 else 3) := (if_pos (zb_1.1 (by omega))).symm
      refine q_V2 dX8_parts_24 ml_8_64 md_X8_refuse (m_refH (by omega) (gor_R (mT_R M) mMp_R) (by (first | (unfold zR; omega) | (unfold zLR; omega) | omega | (simp only [zR, qup] at *; omega) | (simp [zR, qup]; omega) | (simp [zR, qup]; done))) hgb) rfl rfl rfl (by first | decide | omega) (Nat.le_of_ble_eq_true rfl) (Nat.le_of_ble_eq_true rfl) (qk_e ?_)
      refine q_if_eq (tgt := 32) dX8_parts_27 rfl (by exact zb_R _) (fun h27 => ?_) (fun h27 => ?_)
      ·
        have hg := zbz h27
        have hg2 := gor_00.1 hg
        have hgk := gG_0 hM hg2.1
        have hq5 : 0 ≤ q ∧ q ≤ 5 := Classical.byContradiction fun w => by have := hg2.2; rw [if_neg w] at this; omega
        rw [hg]
        refine q_aload_n dX8_parts_32 rfl ?_
        refine q_iload_n dX8_parts_33 rfl ?_
        refine q_V1 dX8_parts_34 ml_8_286 md_X8_fetchesTree (m_fetchesTree hM hL (by omega)) rfl rfl rfl (by first | decide | omega) (Nat.le_of_ble_eq_true rfl) (Nat.le_of_ble_eq_true rfl) (qk_h (fun N34 hq34 => ?_))
        obtain ⟨Tq, Kq, Fq, Sq, rfl, hm⟩ := hq34
        have hMS : MS (qup M 37 0 0) (mtw (fW M 0 L k) Tq Kq Fq Sq (tsz (scl M k) L 0)) := MS_tr (fW_MS M 0 L k) (mtw_MS _ _ _ _ _ _)
        have hz0 : zsum (fun x => zb (sr (scl M k) L 0 (L - 0) x ≠ -1)) 0 (p4 ((L : Int) - ((0 : Nat) : Int))).toNat = tcl (scl M k) L := by rw [show (L : Int) - ((0 : Nat) : Int) = L by omega]; rfl
        refine q_iload_n dX8_parts_37 rfl ?_
        refine q_if_ne (tgt := 54) dX8_parts_38 rfl (by (first | (unfold zR; omega) | (unfold zLR; omega) | omega | (simp only [zR, qup] at *; omega) | (simp [zR, qup]; omega) | (simp [zR, qup]; done))) (fun h38 => ?_) (fun h38 => ?_)
        ·
          refine q_iload_n dX8_parts_54 rfl ?_
          refine q_iconst dX8_parts_55 ?_
          refine q_icmp_ne (tgt := 67) dX8_parts_56 rfl (by (first | (unfold zR; omega) | (unfold zLR; omega) | omega | (simp only [zR, qup] at *; omega) | (simp [zR, qup]; omega) | (simp [zR, qup]; done))) (by (first | (unfold zR; omega) | (unfold zLR; omega) | omega | (simp only [zR, qup] at *; omega) | (simp [zR, qup]; omega) | (simp [zR, qup]; done))) (fun h56 => ?_) (fun h56 => ?_)
          ·
            refine q_aload_n dX8_parts_67 rfl ?_
            refine q_iload_n dX8_parts_68 rfl ?_
            refine q_iconst dX8_parts_69 ?_
            refine q_isub dX8_parts_70 ?_
            refine q_V1 dX8_parts_71 ml_8_329 md_X8_codesOf (m_codesOf (by (first | (unfold zR; omega) | (unfold zLR; omega) | omega | (simp only [zR, qup] at *; omega) | (simp [zR, qup]; omega) | (simp [zR, qup]; done))) (Mt_R hm)) rfl rfl rfl (by first | decide | omega) (Nat.le_of_ble_eq_true rfl) (Nat.le_of_ble_eq_true rfl) (qk_e ?_)
            refine q_ireturn dX8_parts_74 ?_
            exact mpx_k hg ⟨by unfold partF; rw [if_neg (by omega), if_neg (by omega)]; exact codes_sum hL4 hm (by omega), hMS⟩
          ·
            refine q_aload_n dX8_parts_59 rfl ?_
            refine q_iconst dX8_parts_60 ?_
            refine q_V1 dX8_parts_61 ml_8_326 md_X8_toldIn (m_toldIn (l := 0) fW_9 hL4 (Nat.zero_le L) hm) rfl rfl rfl (by first | decide | omega) (Nat.le_of_ble_eq_true rfl) (Nat.le_of_ble_eq_true rfl) (qk_e ?_)
            rw [hz0]
            refine q_goto (tgt := 74) dX8_parts_64 rfl ?_
            refine q_ireturn dX8_parts_74 ?_
            exact mpx_k hg ⟨by unfold partF; rw [if_pos (by omega)], hMS⟩
        ·
          refine q_aload_n dX8_parts_41 rfl ?_
          refine q_geti (j := 12) dX8_parts_42 fl_8_101 rfl rfl rfl ?_
          rw [mtw_12]
          refine q_aload_n dX8_parts_45 rfl ?_
          refine q_iconst dX8_parts_46 ?_
          refine q_V1 dX8_parts_47 ml_8_326 md_X8_toldIn (m_toldIn (l := 0) fW_9 hL4 (Nat.zero_le L) hm) rfl rfl rfl (by first | decide | omega) (Nat.le_of_ble_eq_true rfl) (Nat.le_of_ble_eq_true rfl) (qk_e ?_)
          rw [hz0]
          refine q_isub dX8_parts_50 ?_
          refine q_goto (tgt := 74) dX8_parts_51 rfl ?_
          refine q_ireturn dX8_parts_74 ?_
          exact mpx_k hg ⟨by unfold partF; rw [if_neg (by omega), if_pos (by omega)], hMS⟩
      ·
        refine q_iconst dX8_parts_30 ?_
        refine q_ireturn dX8_parts_31 ?_
        exact mpx_g (zbn h27)
    ·
      refine q_iconst dX8_parts_18 ?_
      refine q_goto (tgt := 23) dX8_parts_19 rfl ?_
      refine q_iconst dX8_parts_23 ?_
      have hgb : (if (1 : Int) = 1 then (3 : Int) else 0) = (if 0 ≤ q ∧ q ≤ 5 then 0 else 3) := (if_neg (zb_0.1 (by omega))).symm
      refine q_V2 dX8_parts_24 ml_8_64 md_X8_refuse (m_refH (by omega) (gor_R (mT_R M) mMp_R) (by (first | (unfold zR; omega) | (unfold zLR; omega) | omega | (simp only [zR, qup] at *; omega) | (simp [zR, qup]; omega) | (simp [zR, qup]; done))) hgb) rfl rfl rfl (by first | decide | omega) (Nat.le_of_ble_eq_true rfl) (Nat.le_of_ble_eq_true rfl) (qk_e ?_)
      refine q_if_eq (tgt := 32) dX8_parts_27 rfl (by exact zb_R _) (fun h27 => ?_) (fun h27 => ?_)
      ·
        have hg := zbz h27
        have hg2 := gor_00.1 hg
        have hgk := gG_0 hM hg2.1
        have hq5 : 0 ≤ q ∧ q ≤ 5 := Classical.byContradiction fun w => by have := hg2.2; rw [if_neg w] at this; omega
        rw [hg]
        refine q_aload_n dX8_parts_32 rfl ?_
        refine q_iload_n dX8_parts_33 rfl ?_
        refine q_V1 dX8_parts_34 ml_8_286 md_X8_fetchesTree (m_fetchesTree hM hL (by omega)) rfl rfl rfl (by first | decide | omega) (Nat.le_of_ble_eq_true rfl) (Nat.le_of_ble_eq_true rfl) (qk_h (fun N34 hq34 => ?_))
        obtain ⟨Tq, Kq, Fq, Sq, rfl, hm⟩ := hq34
        have hMS : MS (qup M 37 0 0) (mtw (fW M 0 L k) Tq Kq Fq Sq (tsz (scl M k) L 0)) := MS_tr (fW_MS M 0 L k) (mtw_MS _ _ _ _ _ _)
        have hz0 : zsum (fun x => zb (sr (scl M k) L 0 (L - 0) x ≠ -1)) 0 (p4 ((L : Int) - ((0 : Nat) : Int))).toNat = tcl (scl M k) L := by rw [show (L : Int) - ((0 : Nat) : Int) = L by omega]; rfl
        refine q_iload_n dX8_parts_37 rfl ?_
        refine q_if_ne (tgt := 54) dX8_parts_38 rfl (by (first | (unfold zR; omega) | (unfold zLR; omega) | omega | (simp only [zR, qup] at *; omega) | (simp [zR, qup]; omega) | (simp [zR, qup]; done))) (fun h38 => ?_) (fun h38 => ?_)
        ·
          refine q_iload_n dX8_parts_54 rfl ?_
          refine q_iconst dX8_parts_55 ?_
          refine q_icmp_ne (tgt := 67) dX8_parts_56 rfl (by (first | (unfold zR; omega) | (unfold zLR; omega) | omega | (simp only [zR, qup] at *; omega) | (simp [zR, qup]; omega) | (simp [zR, qup]; done))) (by (first | (unfold zR; omega) | (unfold zLR; omega) | omega | (simp only [zR, qup] at *; omega) | (simp [zR, qup]; omega) | (simp [zR, qup]; done))) (fun h56 => ?_) (fun h56 => ?_)
          ·
            refine q_aload_n dX8_parts_67 rfl ?_
            refine q_iload_n dX8_parts_68 rfl ?_
            refine q_iconst dX8_parts_69 ?_
            refine q_isub dX8_parts_70 ?_
            refine q_V1 dX8_parts_71 ml_8_329 md_X8_codesOf (m_codesOf (by (first | (unfold zR; omega) | (unfold zLR; omega) | omega | (simp only [zR, qup] at *; omega) | (simp [zR, qup]; omega) | (simp [zR, qup]; done))) (Mt_R hm)) rfl rfl rfl (by first | decide | omega) (Nat.le_of_ble_eq_true rfl) (Nat.le_of_ble_eq_true rfl) (qk_e ?_)
            refine q_ireturn dX8_parts_74 ?_
            exact mpx_k hg ⟨by unfold partF; rw [if_neg (by omega), if_neg (by omega)]; exact codes_sum hL4 hm (by omega), hMS⟩
          ·
            refine q_aload_n dX8_parts_59 rfl ?_
            refine q_iconst dX8_parts_60 ?_
            refine q_V1 dX8_parts_61 ml_8_326 md_X8_toldIn (m_toldIn (l := 0) fW_9 hL4 (Nat.zero_le L) hm) rfl rfl rfl (by first | decide | omega) (Nat.le_of_ble_eq_true rfl) (Nat.le_of_ble_eq_true rfl) (qk_e ?_)
            rw [hz0]
            refine q_goto (tgt := 74) dX8_parts_64 rfl ?_
            refine q_ireturn dX8_parts_74 ?_
            exact mpx_k hg ⟨by unfold partF; rw [if_pos (by omega)], hMS⟩
        ·
          refine q_aload_n dX8_parts_41 rfl ?_
          refine q_geti (j := 12) dX8_parts_42 fl_8_101 rfl rfl rfl ?_
          rw [mtw_12]
          refine q_aload_n dX8_parts_45 rfl ?_
          refine q_iconst dX8_parts_46 ?_
          refine q_V1 dX8_parts_47 ml_8_326 md_X8_toldIn (m_toldIn (l := 0) fW_9 hL4 (Nat.zero_le L) hm) rfl rfl rfl (by first | decide | omega) (Nat.le_of_ble_eq_true rfl) (Nat.le_of_ble_eq_true rfl) (qk_e ?_)
          rw [hz0]
          refine q_isub dX8_parts_50 ?_
          refine q_goto (tgt := 74) dX8_parts_51 rfl ?_
          refine q_ireturn dX8_parts_74 ?_
          exact mpx_k hg ⟨by unfold partF; rw [if_neg (by omega), if_pos (by omega)], hMS⟩
      ·
        refine q_iconst dX8_parts_30 ?_
        refine q_ireturn dX8_parts_31 ?_
        exact mpx_g (zbn h27)
end MU


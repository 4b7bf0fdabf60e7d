/-! The model: the tree of a map; the other guards. -/
/-- a tree that is laid -/
def Mt (c : Int → Int) (L : Nat) (T K F S : Int → Int) : Prop := lay c L 0 T 0 ∧ (∀ (d : Nat) (x : Int), d ≤ L → 0 ≤ x → x < p4 d → LyN c L K F S d x) ∧ ∀ k, off (L + 1) ≤ k → k < 341 → K k = -1
section MN
variable {M : qM} {L l : Nat} {c : Int → Int} {k o x y a b v p q f t n code : Int}
set_option maxHeartbeats 4000000 in
theorem m_laysTree (hL : L ≤ 4) (h9 : M 37 9 = (L : Int)) (hc : ∀ k, M 42 k = c k) (hcb : ∀ k, 0 ≤ k → k < p4 L → 0 ≤ c k ∧ c k < 256) : qCt mX8_laysTree 0 (L + 3) [.ref 37] M (qph (fun M' => ∃ T K F S, M' = mtw M T K F S (tsz c L 0) ∧ Mt c L T K F S)) := by
  refine q_intro (own := 8) (L := [some (.ref 37), none]) md_X8_laysTree rfl rfl rfl (Nat.le_of_ble_eq_true rfl) (fun X => ?_)
  refine q_iconst dX8_laysTree_0 ?_
  refine q_istore_n dX8_laysTree_1 (Nat.le_of_ble_eq_true rfl) rfl ?_
  refine q_lp (fun i : Int => (341 - i).toNat) (fun i => 0 ≤ i ∧ i ≤ 341) (fun i => [some (.ref 37), some (.int (zI i))]) (fun i => mtw M (M 43) (fset (M 44) 0 i (-1)) (fset (M 45) 0 i (-1)) (fset (M 46) 0 i (-1)) (M 37 12)) 0 rfl (by
    have e : ∀ w : Int → Int, fset w 0 0 (-1) = w := fun w => by funext j; unfold fset; rw [if_neg (by omega)]
    rw [e, e, e]
    exact mtw_id M) ⟨by omega, by omega⟩ (fun i hi ih => ?_)
  have hfs : ∀ w : Int → Int, 0 ≤ i → fup (fset w 0 i (-1)) i (-1) = fset w 0 (i + 1) (-1) := fun w h0 => by
    funext j
    unfold fup fset
    by_cases g : j = i
    · rw [if_pos g, if_pos (by omega)]
    · rw [if_neg g]
      by_cases g2 : 0 ≤ j ∧ j < 0 + i
      · rw [if_pos g2, if_pos (by omega)]
      · rw [if_neg g2, if_neg (by omega)]
  refine q_iload_n dX8_laysTree_2 rfl ?_
  refine q_sipush dX8_laysTree_3 rfl ?_
  refine q_icmp_ge (tgt := 36) dX8_laysTree_6 rfl (by (first | (unfold zR; omega) | (unfold zLR; omega) | omega | (simp only [zR, qup] at *; omega) | (simp [zR, qup]; omega) | (simp [zR, qup]; done))) (by (first | (unfold zR; omega) | (unfold zLR; omega) | omega | (simp only [zR, qup] at *; omega) | (simp [zR, qup]; omega) | (simp [zR, qup]; done))) (fun h6 => ?_) (fun h6 => ?_)
  rotate_left
  ·
    refine q_aload_n dX8_laysTree_9 rfl ?_
    refine q_getr dX8_laysTree_10 fl_8_29 rfl rfl ?_
    refine q_iload_n dX8_laysTree_13 rfl ?_
    refine q_iconst dX8_laysTree_14 ?_
    refine q_iast dX8_laysTree_15 rfl (by (first | (unfold zR; omega) | (unfold zLR; omega) | omega | (simp only [zR, qup] at *; omega) | (simp [zR, qup]; omega) | (simp [zR, qup]; done))) (Nat.le_of_ble_eq_true rfl) ?_
    rw [mtw_44]
    refine q_aload_n dX8_laysTree_16 rfl ?_
    refine q_getr dX8_laysTree_17 fl_8_32 rfl rfl ?_
    refine q_iload_n dX8_laysTree_20 rfl ?_
    refine q_iconst dX8_laysTree_21 ?_
    refine q_iast dX8_laysTree_22 rfl (by (first | (unfold zR; omega) | (unfold zLR; omega) | omega | (simp only [zR, qup] at *; omega) | (simp [zR, qup]; omega) | (simp [zR, qup]; done))) (Nat.le_of_ble_eq_true rfl) ?_
    rw [mtw_45]
    refine q_aload_n dX8_laysTree_23 rfl ?_
    refine q_getr dX8_laysTree_24 fl_8_35 rfl rfl ?_
    refine q_iload_n dX8_laysTree_27 rfl ?_
    refine q_iconst dX8_laysTree_28 ?_
    refine q_iast dX8_laysTree_29 rfl (by (first | (unfold zR; omega) | (unfold zLR; omega) | omega | (simp only [zR, qup] at *; omega) | (simp [zR, qup]; omega) | (simp [zR, qup]; done))) (Nat.le_of_ble_eq_true rfl) ?_
    rw [mtw_46]
    refine q_iinc dX8_laysTree_30 rfl (Nat.le_of_ble_eq_true rfl) rfl ?_
    refine q_goto (tgt := 2) dX8_laysTree_33 rfl ?_
    exact ih (i + 1) _ _ ⟨by omega, by omega⟩ (by omega) rfl (by rw [hfs _ hi.1, hfs _ hi.1, hfs _ hi.1])
  refine q_aload_n dX8_laysTree_36 rfl ?_
  refine q_iconst dX8_laysTree_37 ?_
  refine q_puti (j := 12) dX8_laysTree_38 fl_8_101 rfl rfl rfl rfl rfl ?_
  rw [mtw_n]
  refine q_aload_n dX8_laysTree_41 rfl ?_
  refine q_aload_n dX8_laysTree_42 rfl ?_
  refine q_geti (j := 9) dX8_laysTree_43 fl_8_83 rfl rfl rfl ?_
  rw [mtw_9, h9]
  have hpr : ∀ (d : Nat) (x : Int), d ≤ L → 0 ≤ x → x < p4 d → 0 < d → anc (d - 0) x = 0 → LyM (fset (M 44) 0 i (-1)) (fset (M 45) 0 i (-1)) (fset (M 46) 0 i (-1)) d x := fun d x a1 a2 a3 a4 a5 => by
    have hoi := off_in (d := d) (by omega) ⟨a2, a3⟩
    have e : ∀ w : Int → Int, fset w 0 i (-1) (off d + x) = -1 := fun w => by unfold fset; rw [if_pos (by omega)]
    exact ⟨e _, e _, e _⟩
  refine q_iconst dX8_laysTree_46 ?_
  refine q_V2 dX8_laysTree_47 ml_8_110 md_X8_lays (m_lays hL hcb L 0 0 0 M _ _ _ _ (by omega) h9 hc ⟨by omega, by decide⟩ rfl (by omega) hpr) rfl rfl rfl (by first | decide | omega) (Nat.le_of_ble_eq_true rfl) (Nat.le_of_ble_eq_true rfl) (qk_h (fun N47 hq47 => ?_))
  refine q_return dX8_laysTree_50 ?_
  obtain ⟨T, K, F, S, rfl, p1, p2, p3, p4', p5, p6⟩ := hq47
  refine ⟨rfl, T, K, F, S, by rw [Int.zero_add], p2, fun d x a1 a2 a3 => ?_, fun k k0 k1 => ?_⟩
  · by_cases g : d = 0
    · subst g
      have hx0 : x = 0 := by have : p4 ((0 : Nat) : Int) = 1 := by decide
                             omega
      subst hx0
      refine ⟨?_, p4'.2.1, ?_⟩
      · rw [p4'.1]
        unfold fset
        rw [if_pos (by rw [show off 0 = 0 from rfl]; omega)]
        rfl
      · rw [p4'.2.2, if_pos (by rw [sr_0]; omega), Nat.sub_zero]
    · exact p3 d x a1 a2 a3 (by omega) (by rw [Nat.sub_zero]; exact (anc_0 d (by omega) x).2 ⟨a2, a3⟩)
  · rw [p6 k k0]
    unfold fset
    have : 0 ≤ off (L + 1) := by have := off_lt (d := 0) (L := L) (x := 0) (by omega) (by decide); rw [show off 0 = 0 from rfl] at this; omega
    rw [if_pos (by omega)]
end MN


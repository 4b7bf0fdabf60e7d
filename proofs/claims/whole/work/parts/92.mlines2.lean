/-! The model: the lines fill, clear, flip, or. -/
def lvW (M : qM) (k n : Int) : qM := fun o j => if o = 50 ∧ 256 * k ≤ j ∧ j < 256 * k + n then M 42 (j - 256 * k) else M o j
theorem lvW_o {M : qM} {k n : Int} {o : Nat} (h : o ≠ 50) : lvW M k n o = M o := by
  funext j
  unfold lvW
  rw [if_neg (fun w => h w.1)]
theorem lvW_MS (M : qM) (k n : Int) : MS M (lvW M k n) := ⟨fun o _ _ _ _ _ _ _ _ h => lvW_o h, fun j _ => by rw [lvW_o (by decide)]⟩
theorem rowW_MS (M : qM) (c : Int → Int) (n : Int) : MS M (rowW M c n) := ⟨fun o _ h _ _ _ _ _ _ _ => by funext j; unfold rowW; rw [if_neg (fun w => h w.1)], fun k _ => by unfold rowW; rw [if_neg (fun w => by have := w.1; omega)]⟩
theorem rowW_o {M : qM} {c : Int → Int} {n : Int} {o : Nat} (h : o ≠ 42) : rowW M c n o = M o := by
  funext j
  unfold rowW
  rw [if_neg (fun w => h w.1)]
section MRG
variable {M M0 : qM} {I : Int → Int} {n Lq c q b k z z1 z2 z3 least most : Int} {L : Nat} {σ : qσ} {e : Int × Int} {r r1 r2 r3 : qρ}
theorem XS_9 (h : XS M0 I n Lq r M) : M 37 9 = Lq := by
  cases r with
  | inl e => exact h.2.1
  | inr σ => exact h.2.2.2.1
theorem tm_in (h : tmR I n (.inr σ) r z) (hm : σ.2.1 ≤ 6) : 0 ≤ z ∧ z < 6 := by
  rcases h with ⟨e, _, h, _⟩ | ⟨_, h, _⟩ <;> omega
theorem tn_in (h : tnR I n least most r r1 z) (hl : 0 ≤ least ∧ least ≤ most) : least ≤ z ∧ z ≤ most := by
  cases r with
  | inl e => have := h.2; omega
  | inr σ => rcases h with ⟨e, _, h, _⟩ | ⟨_, h, _⟩ <;> omega
/-- what stands where a line that changes a range has been taken -/
def rgO (L : Nat) (I : Int → Int) (n : Int) (σ : qσ) (r3 : qρ) (z1 z2 z3 : Int) : Prop := (∃ e, r3 = .inl e ∧ ∀ b, lnRng I n L b σ = .inl e) ∨ ∃ p5, r3 = .inr (p5, σ.2) ∧ (0 ≤ z1 ∧ z1 < σ.2.1) ∧ (0 ≤ z2 ∧ z2 ≤ z3 ∧ z3 ≤ 8 * p4 L - 1) ∧ ∀ b, lnRng I n L b σ = .inr (p5, σ.2.1, σ.2.2.1, fun j => if j = z1 then (if b = 2 then flpF (σ.2.2.2 z1) z2 z3 else covF (σ.2.2.2 z1) z2 z3 b) else σ.2.2.2 j)
theorem rng_chain (h1 : tmR I n (.inr (tE I n σ.1, σ.2)) r1 z1) (h2 : tnR I n 0 (8 * p4 L - 1) r1 r2 z2) (h3 : tnR I n z2 (8 * p4 L - 1) r2 r3 z3) : rgO L I n σ r3 z1 z2 z3 := by
  rcases h1 with ⟨e, rfl, _, h⟩ | ⟨rfl, hz1, h⟩
  · obtain ⟨rfl, _⟩ := h2
    obtain ⟨rfl, _⟩ := h3
    exact Or.inl ⟨e, rfl, fun b => h _⟩
  · rcases h2 with ⟨e, rfl, _, g⟩ | ⟨rfl, hz2, g⟩
    · obtain ⟨rfl, _⟩ := h3
      exact Or.inl ⟨e, rfl, fun b => (h _).trans (g _)⟩
    · rcases h3 with ⟨e, rfl, _, u⟩ | ⟨rfl, hz3, u⟩
      · exact Or.inl ⟨e, rfl, fun b => ((h _).trans (g _)).trans (u _)⟩
      · exact Or.inr ⟨_, rfl, hz1, by omega, fun b => ((h _).trans (g _)).trans (u _)⟩
set_option maxHeartbeats 1500000 in
theorem m_takesRow (h9 : M 37 9 = (L : Int)) (hL : L ≤ 4) (hk : 0 ≤ k ∧ k < 6) : qCt mX8_takesRow 0 1 [.ref 37, .int (zI k)] M (qpv (rowW M (fun i => M 50 (256 * k + i)) (p4 L))) := by
  have hpin := p4_in (L : Int)
  refine q_intro (own := 8) (L := [some (.ref 37), some (.int (zI k)), none]) md_X8_takesRow rfl rfl rfl (Nat.le_of_ble_eq_true rfl) (fun X => ?_)
  refine q_iconst dX8_takesRow_0 ?_
  refine q_istore_n dX8_takesRow_1 (Nat.le_of_ble_eq_true rfl) rfl ?_
  refine q_lp (fun i : Int => (p4 L - i).toNat) (fun i => 0 ≤ i ∧ i ≤ p4 L) (fun i => [some (.ref 37), some (.int (zI k)), some (.int (zI i))]) (fun i => rowW M (fun i => M 50 (256 * k + i)) i) 0 rfl (by funext o j; unfold rowW; rw [if_neg (by omega)]) ⟨by omega, by omega⟩ (fun i hi ih => ?_)
  refine q_iload_n dX8_takesRow_2 rfl ?_
  refine q_aload_n dX8_takesRow_3 rfl ?_
  refine q_V0 dX8_takesRow_4 ml_8_86 md_X8_bytesOfMap (m_bytesOfMap (by rw [rowW_o (by decide)]; exact h9) hL) rfl rfl rfl (by first | decide | omega) (Nat.le_of_ble_eq_true rfl) (Nat.le_of_ble_eq_true rfl) (qk_e ?_)
  refine q_icmp_ge (tgt := 34) dX8_takesRow_7 rfl (by (first | (unfold zR; omega) | (unfold zLR; omega) | omega | (simp only [zR, qup] at *; omega) | (simp [zR, qup]; omega) | (simp [zR, qup]; done))) (by (first | (unfold zR; omega) | (unfold zLR; omega) | omega | (simp only [zR, qup] at *; omega) | (simp [zR, qup]; omega) | (simp [zR, qup]; done))) (fun h7 => ?_) (fun h7 => ?_)
  rotate_left
  ·
    refine q_aload_n dX8_takesRow_10 rfl ?_
    refine q_getr dX8_takesRow_11 fl_8_23 rfl rfl ?_
    refine q_iload_n dX8_takesRow_14 rfl ?_
    refine q_aload_n dX8_takesRow_15 rfl ?_
    refine q_getr dX8_takesRow_16 fl_8_51 rfl rfl ?_
    refine q_sipush dX8_takesRow_19 rfl ?_
    refine q_iload_n dX8_takesRow_22 rfl ?_
    refine q_imul dX8_takesRow_23 ?_
    refine q_iload_n dX8_takesRow_24 rfl ?_
    refine q_iadd dX8_takesRow_25 ?_
    refine q_iald dX8_takesRow_26 rfl (by (first | (unfold zR; omega) | (unfold zLR; omega) | omega | (simp only [zR, qup] at *; omega) | (simp [zR, qup]; omega) | (simp [zR, qup]; done))) (Nat.le_of_ble_eq_true rfl) ?_
    rw [rowW_o (by decide)]
    refine q_iast dX8_takesRow_27 rfl (by (first | (unfold zR; omega) | (unfold zLR; omega) | omega | (simp only [zR, qup] at *; omega) | (simp [zR, qup]; omega) | (simp [zR, qup]; done))) (Nat.le_of_ble_eq_true rfl) ?_
    refine q_iinc dX8_takesRow_28 rfl (Nat.le_of_ble_eq_true rfl) rfl ?_
    refine q_goto (tgt := 2) dX8_takesRow_31 rfl ?_
    exact ih (i + 1) _ _ ⟨by omega, by omega⟩ (by omega) rfl (by
      funext o j
      by_cases g : o = 42
      · subst g
        by_cases g2 : j = i
        · subst g2; rw [qup_s]; unfold rowW; rw [if_pos ⟨rfl, by omega, by omega⟩]
        · rw [qup_k _ _ _ g2]; unfold rowW
          by_cases g3 : 0 ≤ j ∧ j < i
          · rw [if_pos ⟨rfl, g3⟩, if_pos ⟨rfl, g3.1, by omega⟩]
          · rw [if_neg (fun w => g3 w.2), if_neg (by omega)]
      · rw [qup_o _ _ _ _ g, rowW_o g, rowW_o g])
  refine q_return dX8_takesRow_34 ?_
  exact ⟨rfl, by rw [show i = p4 L by omega]⟩
set_option maxHeartbeats 1500000 in
theorem m_leavesRow (h9 : M 37 9 = (L : Int)) (hL : L ≤ 4) (hk : 0 ≤ k ∧ k < 6) : qCt mX8_leavesRow 0 1 [.ref 37, .int (zI k)] M (qpv (lvW M k (p4 L))) := by
  have hpin := p4_in (L : Int)
  refine q_intro (own := 8) (L := [some (.ref 37), some (.int (zI k)), none]) md_X8_leavesRow rfl rfl rfl (Nat.le_of_ble_eq_true rfl) (fun X => ?_)
  refine q_iconst dX8_leavesRow_0 ?_
  refine q_istore_n dX8_leavesRow_1 (Nat.le_of_ble_eq_true rfl) rfl ?_
  refine q_lp (fun i : Int => (p4 L - i).toNat) (fun i => 0 ≤ i ∧ i ≤ p4 L) (fun i => [some (.ref 37), some (.int (zI k)), some (.int (zI i))]) (fun i => lvW M k i) 0 rfl (by funext o j; unfold lvW; rw [if_neg (by omega)]) ⟨by omega, by omega⟩ (fun i hi ih => ?_)
  refine q_iload_n dX8_leavesRow_2 rfl ?_
  refine q_aload_n dX8_leavesRow_3 rfl ?_
  refine q_V0 dX8_leavesRow_4 ml_8_86 md_X8_bytesOfMap (m_bytesOfMap (by rw [lvW_o (by decide)]; exact h9) hL) rfl rfl rfl (by first | decide | omega) (Nat.le_of_ble_eq_true rfl) (Nat.le_of_ble_eq_true rfl) (qk_e ?_)
  refine q_icmp_ge (tgt := 34) dX8_leavesRow_7 rfl (by (first | (unfold zR; omega) | (unfold zLR; omega) | omega | (simp only [zR, qup] at *; omega) | (simp [zR, qup]; omega) | (simp [zR, qup]; done))) (by (first | (unfold zR; omega) | (unfold zLR; omega) | omega | (simp only [zR, qup] at *; omega) | (simp [zR, qup]; omega) | (simp [zR, qup]; done))) (fun h7 => ?_) (fun h7 => ?_)
  rotate_left
  ·
    refine q_aload_n dX8_leavesRow_10 rfl ?_
    refine q_getr dX8_leavesRow_11 fl_8_51 rfl rfl ?_
    refine q_sipush dX8_leavesRow_14 rfl ?_
    refine q_iload_n dX8_leavesRow_17 rfl ?_
    refine q_imul dX8_leavesRow_18 ?_
    refine q_iload_n dX8_leavesRow_19 rfl ?_
    refine q_iadd dX8_leavesRow_20 ?_
    refine q_aload_n dX8_leavesRow_21 rfl ?_
    refine q_getr dX8_leavesRow_22 fl_8_23 rfl rfl ?_
    refine q_iload_n dX8_leavesRow_25 rfl ?_
    refine q_iald dX8_leavesRow_26 rfl (by (first | (unfold zR; omega) | (unfold zLR; omega) | omega | (simp only [zR, qup] at *; omega) | (simp [zR, qup]; omega) | (simp [zR, qup]; done))) (Nat.le_of_ble_eq_true rfl) ?_
    rw [lvW_o (by decide)]
    refine q_iast dX8_leavesRow_27 rfl (by (first | (unfold zR; omega) | (unfold zLR; omega) | omega | (simp only [zR, qup] at *; omega) | (simp [zR, qup]; omega) | (simp [zR, qup]; done))) (Nat.le_of_ble_eq_true rfl) ?_
    refine q_iinc dX8_leavesRow_28 rfl (Nat.le_of_ble_eq_true rfl) rfl ?_
    refine q_goto (tgt := 2) dX8_leavesRow_31 rfl ?_
    exact ih (i + 1) _ _ ⟨by omega, by omega⟩ (by omega) rfl (by
      funext o j
      by_cases g : o = 50
      · subst g
        by_cases g2 : j = 256 * k + i
        · subst g2; rw [qup_s]; unfold lvW; rw [if_pos ⟨rfl, by omega, by omega⟩, show 256 * k + i - 256 * k = i by omega]
        · rw [qup_k _ _ _ g2]; unfold lvW
          by_cases g3 : 256 * k ≤ j ∧ j < 256 * k + i
          · rw [if_pos ⟨rfl, g3⟩, if_pos ⟨rfl, g3.1, by omega⟩]
          · rw [if_neg (fun w => g3 w.2), if_neg (by omega)]
      · rw [qup_o _ _ _ _ g, lvW_o g, lvW_o g])
  refine q_return dX8_leavesRow_34 ?_
  exact ⟨rfl, by rw [show i = p4 L by omega]⟩
/-- the cells of a map become others -/
theorem PS_row {W : qM} {F : Int → Int} {p : Int} (h : PS M0 I n Lq (p, σ.2) M) (hL : Lq = (L : Int)) (hL4 : L ≤ 4) (hk : 0 ≤ k ∧ k < σ.2.1) (hW : MS M W) (h37 : ∀ j, j ≠ 17 → j ≠ 18 → j ≠ 19 → W 37 j = M 37 j) (h49 : W 49 = M 49) (h50 : ∀ j, W 50 j = if 256 * k ≤ j ∧ j < 256 * k + p4 L then F (j - 256 * k) else M 50 j) (hF : ∀ i, 0 ≤ i → i < p4 L → 0 ≤ F i ∧ F i < 256) {G : Int → Int} (hG : cE F G L) : PS M0 I n Lq (p, σ.2.1, σ.2.2.1, fun j => if j = k then G else σ.2.2.2 j) W := by
  obtain ⟨a1, a2, a3, a4, a5, a6, a7, a8, a9, a10, a11, a12, a13, a14, a15, a16, a17⟩ := h
  have hp4 := p4_in (L : Int)
  subst hL
  have h48 := hW.1 48 (by decide) (by decide) (by decide) (by decide) (by decide) (by decide) (by decide) (by decide) (by decide)
  refine ⟨MS_tr a1 hW, ⟨a2.1, a2.2.1, fun i i0 i1 => by rw [h48]; exact a2.2.2 i i0 i1⟩, by rw [h37 _ (by decide) (by decide) (by decide)]; exact a3, by rw [h37 _ (by decide) (by decide) (by decide)]; exact a4, by rw [h37 _ (by decide) (by decide) (by decide)]; exact a5, a6, by rw [h37 _ (by decide) (by decide) (by decide)]; exact a7, by rw [h37 _ (by decide) (by decide) (by decide)]; exact a8, by rw [h37 _ (by decide) (by decide) (by decide)]; exact a9, fun h => by rw [h37 _ (by decide) (by decide) (by decide)]; exact a10 h, fun h => by rw [h37 _ (by decide) (by decide) (by decide)]; exact a11 h, by rw [h37 _ (by decide) (by decide) (by decide)]; exact a12, a13, fun k k0 k1 => ?_, fun i i0 i1 => ?_, fun k' i k0 k1 i0 i1 => ?_, fun k' i k0 k1 i0 i1 => ?_⟩
  · rw [h49]; exact a14 k k0 k1
  · dsimp only at i1
    rw [h50]
    by_cases g : 256 * k ≤ i ∧ i < 256 * k + p4 L
    · rw [if_pos g]; exact hF _ (by omega) (by omega)
    · rw [if_neg g]; exact a15 i i0 i1
  · dsimp only at k1 ⊢
    rw [h50]
    by_cases g : k' = k
    · subst g
      rw [if_pos (by omega), if_pos rfl, show 256 * k' + i - 256 * k' = i by omega]
      exact hG i i0 i1
    · rw [if_neg (by omega), if_neg g]
      exact a16 k' i k0 k1 i0 i1
  · dsimp only at k1
    rw [h50, if_neg (by omega)]
    exact a17 k' i k0 k1 i0 i1
set_option maxHeartbeats 2000000 in
theorem m_rangeLine (hL : L ≤ 4) (h : PS M0 I n (L : Int) σ M) (hb : b = 0 ∨ b = 1 ∨ b = 2) : qCt mX8_rangeLine 0 4 [.ref 37, .int (zI b)] M (qph (XS M0 I n (L : Int) (lnRng I n L b σ))) := by
  have hpL := p4_in (L : Int)
  have hm6 := h.2.2.2.2.2.2.2.2.2.2.2.2.1
  refine q_intro (own := 8) (L := [some (.ref 37), some (.int (zI b)), none, none, none, none]) md_X8_rangeLine rfl rfl rfl (Nat.le_of_ble_eq_true rfl) (fun X => ?_)
  refine q_aload_n dX8_rangeLine_0 rfl ?_
  refine q_V0 dX8_rangeLine_1 ml_8_205 md_X8_goesOn (m_goesOnP h) rfl rfl rfl (by first | decide | omega) (Nat.le_of_ble_eq_true rfl) (Nat.le_of_ble_eq_true rfl) (qk_h (fun N1 hq1 => ?_))
  refine q_aload_n dX8_rangeLine_4 rfl ?_
  refine q_V0 dX8_rangeLine_5 ml_8_222 md_X8_takesMap (m_takesMapX (r := .inr (tE I n σ.1, σ.2)) hq1) rfl rfl rfl (by first | decide | omega) (Nat.le_of_ble_eq_true rfl) (Nat.le_of_ble_eq_true rfl) (qk_g (fun z5 N5 hq5 => ?_))
  obtain ⟨r1, hX1, ht1⟩ := hq5
  have hi1 := tm_in ht1 hm6.2
  refine q_istore_n dX8_rangeLine_8 (Nat.le_of_ble_eq_true rfl) rfl ?_
  refine q_aload_n dX8_rangeLine_9 rfl ?_
  refine q_iconst dX8_rangeLine_10 ?_
  refine q_aload_n dX8_rangeLine_11 rfl ?_
  refine q_V0 dX8_rangeLine_12 ml_8_225 md_X8_bits (m_bits (L := L) (XS_9 hX1) hL) rfl rfl rfl (by first | decide | omega) (Nat.le_of_ble_eq_true rfl) (Nat.le_of_ble_eq_true rfl) (qk_e ?_)
  refine q_iconst dX8_rangeLine_15 ?_
  refine q_isub dX8_rangeLine_16 ?_
  refine q_V2 dX8_rangeLine_17 ml_8_228 md_X8_takes (m_takesX hX1 (least := 0) (most := 8 * p4 L - 1) (by (first | (unfold zR; omega) | (unfold zLR; omega) | omega | (simp only [zR, qup] at *; omega) | (simp [zR, qup]; omega) | (simp [zR, qup]; done))) (by (first | (unfold zR; omega) | (unfold zLR; omega) | omega | (simp only [zR, qup] at *; omega) | (simp [zR, qup]; omega) | (simp [zR, qup]; done)))) rfl rfl rfl (by first | decide | omega) (Nat.le_of_ble_eq_true rfl) (Nat.le_of_ble_eq_true rfl) (qk_g (fun z17 N17 hq17 => ?_))
  obtain ⟨r2, hX2, ht2⟩ := hq17
  have hi2 := tn_in ht2 (by omega)
  refine q_istore_n dX8_rangeLine_20 (Nat.le_of_ble_eq_true rfl) rfl ?_
  refine q_aload_n dX8_rangeLine_21 rfl ?_
  refine q_iload_n dX8_rangeLine_22 rfl ?_
  refine q_aload_n dX8_rangeLine_23 rfl ?_
  refine q_V0 dX8_rangeLine_24 ml_8_225 md_X8_bits (m_bits (L := L) (XS_9 hX2) hL) rfl rfl rfl (by first | decide | omega) (Nat.le_of_ble_eq_true rfl) (Nat.le_of_ble_eq_true rfl) (qk_e ?_)
  refine q_iconst dX8_rangeLine_27 ?_
  refine q_isub dX8_rangeLine_28 ?_
  refine q_V2 dX8_rangeLine_29 ml_8_228 md_X8_takes (m_takesX hX2 (least := z17) (most := 8 * p4 L - 1) (by (first | (unfold zR; omega) | (unfold zLR; omega) | omega | (simp only [zR, qup] at *; omega) | (simp [zR, qup]; omega) | (simp [zR, qup]; done))) (by (first | (unfold zR; omega) | (unfold zLR; omega) | omega | (simp only [zR, qup] at *; omega) | (simp [zR, qup]; omega) | (simp [zR, qup]; done)))) rfl rfl rfl (by first | decide | omega) (Nat.le_of_ble_eq_true rfl) (Nat.le_of_ble_eq_true rfl) (qk_g (fun z29 N29 hq29 => ?_))
  obtain ⟨r3, hX3, ht3⟩ := hq29
  have hi3 := tn_in ht3 (by omega)
  have hch := rng_chain ht1 ht2 ht3
  refine q_istore dX8_rangeLine_32 (Nat.le_of_ble_eq_true rfl) rfl ?_
  rcases hch with ⟨e, rfl, hln⟩ | ⟨p5, rfl, hc1, hc2, hln⟩
  · skip
    refine q_aload_n dX8_rangeLine_34 rfl ?_
    refine q_geti (j := 29) dX8_rangeLine_35 fl_8_182 rfl rfl rfl ?_
    rw [hX3.2.2.1]
    have her : zR e.1 := hX3.2.2.2.2.1
    refine q_if_eq (tgt := 42) dX8_rangeLine_38 rfl (by (first | (unfold zR; omega) | (unfold zLR; omega) | omega | (simp only [zR, qup] at *; omega) | (simp [zR, qup]; omega) | (simp [zR, qup]; done))) (fun h38 => absurd h38 (by exact hX3.2.2.2.1)) (fun h38 => ?_)
    refine q_return dX8_rangeLine_41 ?_
    exact ⟨rfl, by rw [hln]; exact hX3⟩
  · have hX4 : PS M0 I n (L : Int) (p5, σ.2) N29 := hX3
    obtain ⟨b1, b2, b3, b4, b5, b6, b7, b8, b9, b10, b11, b12, b13, b14, b15, b16, b17⟩ := id hX4
    dsimp only at b12 b13 b14 b15 b16 b17
    refine q_aload_n dX8_rangeLine_34 rfl ?_
    refine q_geti (j := 29) dX8_rangeLine_35 fl_8_182 rfl rfl rfl ?_
    rw [b5]
    refine q_if_eq (tgt := 42) dX8_rangeLine_38 rfl (by (first | (unfold zR; omega) | (unfold zLR; omega) | omega | (simp only [zR, qup] at *; omega) | (simp [zR, qup]; omega) | (simp [zR, qup]; done))) (fun h38 => ?_) (fun h38 => absurd h38 (by exact fun g => g rfl))
    refine q_aload_n dX8_rangeLine_42 rfl ?_
    refine q_iload_n dX8_rangeLine_43 rfl ?_
    refine q_V1 dX8_rangeLine_44 ml_8_231 md_X8_takesRow (m_takesRow (L := L) b4 hL (by omega)) rfl rfl rfl (by first | decide | omega) (Nat.le_of_ble_eq_true rfl) (Nat.le_of_ble_eq_true rfl) (qk_v ?_)
    refine q_iload_n dX8_rangeLine_47 rfl ?_
    refine q_istore dX8_rangeLine_48 (Nat.le_of_ble_eq_true rfl) rfl ?_
    have w9 : rowW N29 (fun i => N29 50 (256 * z5 + i)) (p4 L) 37 9 = (L : Int) := by rw [rowW_o (by decide)]; exact b4
    have wMS := rowW_MS N29 (fun i => N29 50 (256 * z5 + i)) (p4 L)
    have w37 : ∀ j, rowW N29 (fun i => N29 50 (256 * z5 + i)) (p4 L) 37 j = N29 37 j := fun j => by rw [rowW_o (by decide)]
    have w49 : rowW N29 (fun i => N29 50 (256 * z5 + i)) (p4 L) 49 = N29 49 := rowW_o (by decide)
    have w50 : rowW N29 (fun i => N29 50 (256 * z5 + i)) (p4 L) 50 = N29 50 := rowW_o (by decide)
    have w42 : ∀ i, 0 ≤ i → i < p4 L → rowW N29 (fun i => N29 50 (256 * z5 + i)) (p4 L) 42 i = N29 50 (256 * z5 + i) := fun i i0 i1 => by unfold rowW; rw [if_pos ⟨rfl, i0, i1⟩]
    generalize rowW N29 (fun i => N29 50 (256 * z5 + i)) (p4 L) = W at w9 wMS w37 w49 w50 w42
    have wb : ∀ i, 0 ≤ i → i < p4 L → 0 ≤ W 42 i ∧ W 42 i < 256 := fun i i0 i1 => by rw [w42 i i0 i1]; exact b15 _ (by omega) (by omega)
    have wC : cE (W 42) (σ.2.2.2 z5) L := fun i i0 i1 => by rw [w42 i i0 i1]; exact b16 z5 i hc1.1 hc1.2 i0 i1
    refine q_lp (α := Int × (Int → Int)) (fun x => (z29 + 1 - x.1).toNat) (fun x => (z17 ≤ x.1 ∧ x.1 ≤ z29 + 1) ∧ (∀ k, 0 ≤ k → k < p4 L → 0 ≤ x.2 k ∧ x.2 k < 256) ∧ ∀ q, 0 ≤ q → q < 8 * p4 L → bitP x.2 q = if z17 ≤ q ∧ q < x.1 then (if b = 2 then 1 - bitP (W 42) q else b) else bitP (W 42) q) (fun x => [some (.ref 37), some (.int (zI b)), some (.int (zI z5)), some (.int (zI z17)), some (.int (zI z29)), some (.int (zI x.1))]) (fun x => rowF W x.2) (z17, W 42) rfl (rowF_id W).symm ⟨⟨by dsimp only; omega, by dsimp only; omega⟩, wb, fun q q0 q1 => by dsimp only; rw [if_neg (by omega)]⟩ (fun x hx ih => ?_)
    obtain ⟨x, G⟩ := x
    obtain ⟨hx1, hG, hB⟩ := hx
    dsimp only at hx1 hG hB ih ⊢
    have hnx : ∀ v, (v = 0 ∨ v = 1) → v = (if b = 2 then 1 - bitP (W 42) x else b) → x ≤ z29 → (∀ k, 0 ≤ k → k < p4 L → 0 ≤ stb G x v k ∧ stb G x v k < 256) ∧ ∀ q, 0 ≤ q → q < 8 * p4 L → bitP (stb G x v) q = if z17 ≤ q ∧ q < x + 1 then (if b = 2 then 1 - bitP (W 42) q else b) else bitP (W 42) q := fun v hv he hxz => by
      refine ⟨fun k k0 k1 => stb_in hv (hG k k0 k1), fun q q0 q1 => ?_⟩
      rw [stb_bit (by omega) q0 hv]
      by_cases g : q = x
      · subst g; rw [if_pos rfl, if_pos ⟨by omega, by omega⟩, he]
      · rw [if_neg g, hB q q0 q1]
        by_cases u : z17 ≤ q ∧ q < x
        · rw [if_pos u, if_pos (show z17 ≤ q ∧ q < x + 1 from ⟨u.1, by omega⟩)]
        · rw [if_neg u, if_neg (by omega)]
    refine q_iload dX8_rangeLine_50 rfl ?_
    refine q_iload dX8_rangeLine_52 rfl ?_
    refine q_icmp_gt (tgt := 86) dX8_rangeLine_54 rfl (by (first | (unfold zR; omega) | (unfold zLR; omega) | omega | (simp only [zR, qup] at *; omega) | (simp [zR, qup]; omega) | (simp [zR, qup]; done))) (by (first | (unfold zR; omega) | (unfold zLR; omega) | omega | (simp only [zR, qup] at *; omega) | (simp [zR, qup]; omega) | (simp [zR, qup]; done))) (fun h54 => ?_) (fun h54 => ?_)
    rotate_left
    ·
      refine q_aload_n dX8_rangeLine_57 rfl ?_
      refine q_iload dX8_rangeLine_58 rfl ?_
      refine q_iload_n dX8_rangeLine_60 rfl ?_
      refine q_iconst dX8_rangeLine_61 ?_
      refine q_icmp_ne (tgt := 76) dX8_rangeLine_62 rfl (by (first | (unfold zR; omega) | (unfold zLR; omega) | omega | (simp only [zR, qup] at *; omega) | (simp [zR, qup]; omega) | (simp [zR, qup]; done))) (by (first | (unfold zR; omega) | (unfold zLR; omega) | omega | (simp only [zR, qup] at *; omega) | (simp [zR, qup]; omega) | (simp [zR, qup]; done))) (fun h62 => ?_) (fun h62 => ?_)
      ·
        refine q_iload_n dX8_rangeLine_76 rfl ?_
        have hb01 : b = 0 ∨ b = 1 := by omega
        have hn2 := hnx b hb01 (by rw [if_neg h62]) h54
        refine q_V2 dX8_rangeLine_77 ml_8_237 md_X8_laysBit (m_laysBit ⟨by omega, by omega⟩ (hG _ (by omega) (by omega)) hb01) rfl rfl rfl (by first | decide | omega) (Nat.le_of_ble_eq_true rfl) (Nat.le_of_ble_eq_true rfl) (qk_v ?_)
        refine q_iinc dX8_rangeLine_80 rfl (Nat.le_of_ble_eq_true rfl) rfl ?_
        refine q_goto (tgt := 50) dX8_rangeLine_83 rfl ?_
        rw [rowF_r]
        exact ih (x + 1, stb G x b) _ _ ⟨⟨by dsimp only; omega, by dsimp only; omega⟩, hn2⟩ (by dsimp only; omega) rfl rfl
      ·
        refine q_iconst dX8_rangeLine_65 ?_
        refine q_aload_n dX8_rangeLine_66 rfl ?_
        refine q_iload dX8_rangeLine_67 rfl ?_
        refine q_V1 dX8_rangeLine_69 ml_8_234 md_X8_bitOf (m_bitOf ⟨by omega, by omega⟩ (hG _ (by omega) (by omega))) rfl rfl rfl (by first | decide | omega) (Nat.le_of_ble_eq_true rfl) (Nat.le_of_ble_eq_true rfl) (qk_e ?_)
        refine q_isub dX8_rangeLine_72 ?_
        refine q_goto (tgt := 77) dX8_rangeLine_73 rfl ?_
        rw [show rowF W G 42 = G from rfl, hB x (by omega) (by omega), if_neg (by omega)]
        have h01 := bitP_01 (W 42) x
        have hv01 : 1 - bitP (W 42) x = 0 ∨ 1 - bitP (W 42) x = 1 := by omega
        have hn2 := hnx (1 - bitP (W 42) x) hv01 (by rw [if_pos h62]) h54
        refine q_V2 dX8_rangeLine_77 ml_8_237 md_X8_laysBit (m_laysBit ⟨by omega, by omega⟩ (hG _ (by omega) (by omega)) hv01) rfl rfl rfl (by first | decide | omega) (Nat.le_of_ble_eq_true rfl) (Nat.le_of_ble_eq_true rfl) (qk_v ?_)
        refine q_iinc dX8_rangeLine_80 rfl (Nat.le_of_ble_eq_true rfl) rfl ?_
        refine q_goto (tgt := 50) dX8_rangeLine_83 rfl ?_
        rw [rowF_r]
        exact ih (x + 1, stb G x (1 - bitP (W 42) x)) _ _ ⟨⟨by dsimp only; omega, by dsimp only; omega⟩, hn2⟩ (by dsimp only; omega) rfl rfl
    have hGc : cE G (if b = 2 then flpF (σ.2.2.2 z5) z17 z29 else covF (σ.2.2.2 z5) z17 z29 b) L := by
      by_cases g : b = 2
      · rw [if_pos g]
        refine cE_tr (bit_cE (c' := flpF (W 42) z17 z29) hG (fun k k0 k1 => flpF_in) (fun q q0 q1 => ?_)) (flp_e wC z17 z29)
        rw [hB q q0 q1, flp_bit]
        by_cases u : z17 ≤ q ∧ q ≤ z29
        · rw [if_pos u, if_pos ⟨u.1, by omega⟩, if_pos g]
        · rw [if_neg u, if_neg (by omega)]
      · rw [if_neg g]
        have hb01 : b = 0 ∨ b = 1 := by omega
        refine cE_tr (bit_cE (c' := covF (W 42) z17 z29 b) hG (fun k k0 k1 => covF_in hb01) (fun q q0 q1 => ?_)) (cov_e wC z17 z29 b)
        rw [hB q q0 q1, cov_bit hb01]
        by_cases u : z17 ≤ q ∧ q ≤ z29
        · rw [if_pos u, if_pos ⟨u.1, by omega⟩, if_neg g]
        · rw [if_neg u, if_neg (by omega)]
    refine q_aload_n dX8_rangeLine_86 rfl ?_
    refine q_iload_n dX8_rangeLine_87 rfl ?_
    refine q_V1 dX8_rangeLine_88 ml_8_240 md_X8_leavesRow (m_leavesRow (L := L) (by rw [rowF_o _ _ (by decide)]; exact w9) hL (by omega)) rfl rfl rfl (by first | decide | omega) (Nat.le_of_ble_eq_true rfl) (Nat.le_of_ble_eq_true rfl) (qk_v ?_)
    refine q_return dX8_rangeLine_91 ?_
    refine ⟨rfl, ?_⟩
    rw [hln]
    refine PS_row (L := L) hX4 rfl hL hc1 (MS_tr (MS_tr wMS (rowF_MS W G)) (lvW_MS _ _ _)) (fun j _ _ _ => by rw [lvW_o (by decide), rowF_o _ _ (by decide)]; exact w37 j) (by rw [lvW_o (by decide), rowF_o _ _ (by decide)]; exact w49) (fun j => ?_) hG hGc
    unfold lvW
    by_cases g : 256 * z5 ≤ j ∧ j < 256 * z5 + p4 L
    · rw [if_pos ⟨rfl, g⟩, if_pos g]; rfl
    · rw [if_neg (fun w => g w.2), if_neg g, rowF_o _ _ (by decide), w50]
def orW (M : qM) (a b i : Int) : qM := fun o j => if o = 50 ∧ 256 * a ≤ j ∧ j < 256 * a + i then zor (M 50 j) (M 50 (256 * b + (j - 256 * a))) else M o j
theorem orW_o {M : qM} {a b i : Int} {o : Nat} (h : o ≠ 50) : orW M a b i o = M o := by
  funext j
  unfold orW
  rw [if_neg (fun w => h w.1)]
theorem or_chain (h1 : tmR I n (.inr (tE I n σ.1, σ.2)) r1 z1) (h2 : tmR I n r1 r2 z2) : (∃ e, r2 = .inl e ∧ lnOr I n σ = .inl e) ∨ ∃ p3, r2 = .inr (p3, σ.2) ∧ (0 ≤ z1 ∧ z1 < σ.2.1) ∧ (0 ≤ z2 ∧ z2 < σ.2.1) ∧ lnOr I n σ = .inr (p3, σ.2.1, σ.2.2.1, fun j => if j = z1 then fun i => mgF 0 (σ.2.2.2 z1 i) (σ.2.2.2 z2 i) else σ.2.2.2 j) := by
  rcases h1 with ⟨e, rfl, _, h⟩ | ⟨rfl, hz1, h⟩
  · obtain ⟨rfl, _⟩ := h2
    exact Or.inl ⟨e, rfl, h _⟩
  · rcases h2 with ⟨e, rfl, _, g⟩ | ⟨rfl, hz2, g⟩
    · exact Or.inl ⟨e, rfl, (h _).trans (g _)⟩
    · exact Or.inr ⟨_, rfl, hz1, hz2, (h _).trans (g _)⟩
theorem tm_in2 (h : tmR I n r r1 z) (hr : ∀ σ, r = .inr σ → σ.2.1 ≤ 6) : 0 ≤ z ∧ z < 6 := by
  cases r with
  | inl e => have := h.2; omega
  | inr σ => exact tm_in h (hr σ rfl)
set_option maxHeartbeats 2000000 in
theorem m_orLine (hL : L ≤ 4) (h : PS M0 I n (L : Int) σ M) : qCt mX8_orLine 0 4 [.ref 37] M (qph (XS M0 I n (L : Int) (lnOr I n σ))) := by
  have hpL := p4_in (L : Int)
  have hm6 := h.2.2.2.2.2.2.2.2.2.2.2.2.1
  refine q_intro (own := 8) (L := [some (.ref 37), none, none, none]) md_X8_orLine rfl rfl rfl (Nat.le_of_ble_eq_true rfl) (fun X => ?_)
  refine q_aload_n dX8_orLine_0 rfl ?_
  refine q_V0 dX8_orLine_1 ml_8_205 md_X8_goesOn (m_goesOnP h) rfl rfl rfl (by first | decide | omega) (Nat.le_of_ble_eq_true rfl) (Nat.le_of_ble_eq_true rfl) (qk_h (fun N1 hq1 => ?_))
  refine q_aload_n dX8_orLine_4 rfl ?_
  refine q_V0 dX8_orLine_5 ml_8_222 md_X8_takesMap (m_takesMapX (r := .inr (tE I n σ.1, σ.2)) hq1) rfl rfl rfl (by first | decide | omega) (Nat.le_of_ble_eq_true rfl) (Nat.le_of_ble_eq_true rfl) (qk_g (fun z5 N5 hq5 => ?_))
  obtain ⟨r1, hX1, ht1⟩ := hq5
  have hi1 := tm_in ht1 hm6.2
  refine q_istore_n dX8_orLine_8 (Nat.le_of_ble_eq_true rfl) rfl ?_
  refine q_aload_n dX8_orLine_9 rfl ?_
  refine q_V0 dX8_orLine_10 ml_8_222 md_X8_takesMap (m_takesMapX hX1) rfl rfl rfl (by first | decide | omega) (Nat.le_of_ble_eq_true rfl) (Nat.le_of_ble_eq_true rfl) (qk_g (fun z10 N10 hq10 => ?_))
  obtain ⟨r2, hX2, ht2⟩ := hq10
  have hch := or_chain ht1 ht2
  refine q_istore_n dX8_orLine_13 (Nat.le_of_ble_eq_true rfl) rfl ?_
  refine q_iconst dX8_orLine_14 ?_
  refine q_istore_n dX8_orLine_15 (Nat.le_of_ble_eq_true rfl) rfl ?_
  rcases hch with ⟨e, rfl, hln⟩ | ⟨p3, rfl, hc1, hc2, hln⟩
  · skip
    refine q_iload_n dX8_orLine_16 rfl ?_
    refine q_sipush dX8_orLine_17 rfl ?_
    refine q_icmp_ge (tgt := 63) dX8_orLine_20 rfl (by (first | (unfold zR; omega) | (unfold zLR; omega) | omega | (simp only [zR, qup] at *; omega) | (simp [zR, qup]; omega) | (simp [zR, qup]; done))) (by (first | (unfold zR; omega) | (unfold zLR; omega) | omega | (simp only [zR, qup] at *; omega) | (simp [zR, qup]; omega) | (simp [zR, qup]; done))) (fun h20 => absurd h20 (by decide)) (fun h20 => ?_)
    refine q_aload_n dX8_orLine_23 rfl ?_
    refine q_geti (j := 29) dX8_orLine_24 fl_8_182 rfl rfl rfl ?_
    rw [hX2.2.2.1]
    have her : zR e.1 := hX2.2.2.2.2.1
    refine q_if_ne (tgt := 63) dX8_orLine_27 rfl (by (first | (unfold zR; omega) | (unfold zLR; omega) | omega | (simp only [zR, qup] at *; omega) | (simp [zR, qup]; omega) | (simp [zR, qup]; done))) (fun h27 => ?_) (fun h27 => absurd h27 (by exact hX2.2.2.2.1))
    refine q_return dX8_orLine_63 ?_
    exact ⟨rfl, by rw [hln]; exact hX2⟩
  · have hX4 : PS M0 I n (L : Int) (p3, σ.2) N10 := hX2
    obtain ⟨b1, b2, b3, b4, b5, b6, b7, b8, b9, b10, b11, b12, b13, b14, b15, b16, b17⟩ := id hX4
    dsimp only at b12 b13 b14 b15 b16 b17
    have hor : ∀ i, 0 ≤ i → i < 256 → 0 ≤ zor (N10 50 (256 * z5 + i)) (N10 50 (256 * z10 + i)) ∧ zor (N10 50 (256 * z5 + i)) (N10 50 (256 * z10 + i)) < 256 := fun i i0 i1 => mgF_in (k := 0) (b15 _ (by omega) (by omega)) (b15 _ (by omega) (by omega))
    refine q_lp (fun i : Int => (256 - i).toNat) (fun i => 0 ≤ i ∧ i ≤ 256) (fun i => [some (.ref 37), some (.int (zI z5)), some (.int (zI z10)), some (.int (zI i))]) (fun i => orW N10 z5 z10 i) 0 rfl (by funext u j; unfold orW; rw [if_neg (by omega)]) ⟨by omega, by omega⟩ (fun i hi ih => ?_)
    refine q_iload_n dX8_orLine_16 rfl ?_
    refine q_sipush dX8_orLine_17 rfl ?_
    refine q_icmp_ge (tgt := 63) dX8_orLine_20 rfl (by (first | (unfold zR; omega) | (unfold zLR; omega) | omega | (simp only [zR, qup] at *; omega) | (simp [zR, qup]; omega) | (simp [zR, qup]; done))) (by (first | (unfold zR; omega) | (unfold zLR; omega) | omega | (simp only [zR, qup] at *; omega) | (simp [zR, qup]; omega) | (simp [zR, qup]; done))) (fun h20 => ?_) (fun h20 => ?_)
    rotate_left
    ·
      refine q_aload_n dX8_orLine_23 rfl ?_
      refine q_geti (j := 29) dX8_orLine_24 fl_8_182 rfl rfl rfl ?_
      rw [orW_o (by decide), b5]
      refine q_if_ne (tgt := 63) dX8_orLine_27 rfl (by (first | (unfold zR; omega) | (unfold zLR; omega) | omega | (simp only [zR, qup] at *; omega) | (simp [zR, qup]; omega) | (simp [zR, qup]; done))) (fun h27 => absurd h27 (by exact fun g => g rfl)) (fun h27 => ?_)
      refine q_aload_n dX8_orLine_30 rfl ?_
      refine q_getr dX8_orLine_31 fl_8_51 rfl rfl ?_
      refine q_sipush dX8_orLine_34 rfl ?_
      refine q_iload_n dX8_orLine_37 rfl ?_
      refine q_imul dX8_orLine_38 ?_
      refine q_iload_n dX8_orLine_39 rfl ?_
      refine q_iadd dX8_orLine_40 ?_
      refine q_dup2 dX8_orLine_41 rfl rfl ?_
      refine q_iald dX8_orLine_42 rfl (by (first | (unfold zR; omega) | (unfold zLR; omega) | omega | (simp only [zR, qup] at *; omega) | (simp [zR, qup]; omega) | (simp [zR, qup]; done))) (Nat.le_of_ble_eq_true rfl) ?_
      refine q_aload_n dX8_orLine_43 rfl ?_
      refine q_getr dX8_orLine_44 fl_8_51 rfl rfl ?_
      refine q_sipush dX8_orLine_47 rfl ?_
      refine q_iload_n dX8_orLine_50 rfl ?_
      refine q_imul dX8_orLine_51 ?_
      refine q_iload_n dX8_orLine_52 rfl ?_
      refine q_iadd dX8_orLine_53 ?_
      refine q_iald dX8_orLine_54 rfl (by (first | (unfold zR; omega) | (unfold zLR; omega) | omega | (simp only [zR, qup] at *; omega) | (simp [zR, qup]; omega) | (simp [zR, qup]; done))) (Nat.le_of_ble_eq_true rfl) ?_
      have e1 : orW N10 z5 z10 i 50 (256 * z5 + i) = N10 50 (256 * z5 + i) := by unfold orW; rw [if_neg (by omega)]
      have e2 : orW N10 z5 z10 i 50 (256 * z10 + i) = N10 50 (256 * z10 + i) := by unfold orW; rw [if_neg (by omega)]
      rw [e1, e2]
      refine q_ior dX8_orLine_55 ?_
      refine q_iast dX8_orLine_56 rfl (by (first | (unfold zR; omega) | (unfold zLR; omega) | omega | (simp only [zR, qup] at *; omega) | (simp [zR, qup]; omega) | (simp [zR, qup]; done))) (Nat.le_of_ble_eq_true rfl) ?_
      refine q_iinc dX8_orLine_57 rfl (Nat.le_of_ble_eq_true rfl) rfl ?_
      refine q_goto (tgt := 16) dX8_orLine_60 rfl ?_
      exact ih (i + 1) _ _ ⟨by omega, by omega⟩ (by omega) rfl (by
        funext u j
        by_cases g : u = 50
        · subst g
          by_cases g2 : j = 256 * z5 + i
          · subst g2; rw [qup_s]; unfold orW; rw [if_pos ⟨rfl, by omega, by omega⟩, show 256 * z5 + i - 256 * z5 = i by omega]
          · rw [qup_k _ _ _ g2]; unfold orW
            by_cases g3 : 256 * z5 ≤ j ∧ j < 256 * z5 + i
            · rw [if_pos ⟨rfl, g3⟩, if_pos (show (50 : Nat) = 50 ∧ 256 * z5 ≤ j ∧ j < 256 * z5 + (i + 1) from ⟨rfl, g3.1, by omega⟩)]
            · rw [if_neg (fun w => g3 w.2), if_neg (by omega)]
        · rw [qup_o _ _ _ _ g, orW_o g, orW_o g])
    refine q_return dX8_orLine_63 ?_
    have hi256 : i = 256 := by omega
    subst hi256
    refine ⟨rfl, ?_⟩
    rw [hln]
    have hzz : ∀ j, orW N10 z5 z10 256 50 j = if 256 * z5 ≤ j ∧ j < 256 * z5 + p4 L then zor (N10 50 (256 * z5 + (j - 256 * z5))) (N10 50 (256 * z10 + (j - 256 * z5))) else N10 50 j := fun j => by
      unfold orW
      by_cases g : 256 * z5 ≤ j ∧ j < 256 * z5 + p4 L
      · rw [if_pos ⟨rfl, by omega, by omega⟩, if_pos g, show 256 * z5 + (j - 256 * z5) = j by omega]
      · rw [if_neg g]
        by_cases g2 : 256 * z5 ≤ j ∧ j < 256 * z5 + 256
        · rw [if_pos ⟨rfl, g2⟩]
          have f1 := b17 z5 (j - 256 * z5) hc1.1 hc1.2 (by omega) (by omega)
          have f2 := b17 z10 (j - 256 * z5) hc2.1 hc2.2 (by omega) (by omega)
          rw [show 256 * z5 + (j - 256 * z5) = j by omega] at f1
          rw [f1, f2]
          decide
        · rw [if_neg (fun w => g2 w.2)]
    exact PS_row (L := L) (F := fun i => zor (N10 50 (256 * z5 + i)) (N10 50 (256 * z10 + i))) hX4 rfl hL hc1 ⟨fun u _ _ _ _ _ _ _ _ h => orW_o h, fun j _ => by rw [orW_o (by decide)]⟩ (fun j _ _ _ => by rw [orW_o (by decide)]) (orW_o (by decide)) hzz (fun i i0 i1 => hor i i0 (by omega)) (fun i i0 i1 => by
      show zor (N10 50 (256 * z5 + i)) (N10 50 (256 * z10 + i)) = mgF 0 (σ.2.2.2 z5 i) (σ.2.2.2 z10 i)
      rw [b16 z5 i hc1.1 hc1.2 i0 i1, b16 z10 i hc2.1 hc2.2 i0 i1]
      rfl)
end MRG


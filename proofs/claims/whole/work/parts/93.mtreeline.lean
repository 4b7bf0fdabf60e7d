/-! The model: the line tree. -/
section MTL
variable {M M0 : qM} {I : Int → Int} {n Lq c q b k z : Int} {L : Nat} {σ : qσ} {e : Int × Int}
theorem MS_47u {A B : qM} (h : MS A B) (i v : Int) : MS A (qup B 47 i v) := MS_tr h ⟨fun u _ _ _ _ _ _ h _ _ => by funext j; exact qup_o _ _ _ _ h, fun j _ => qup_o _ _ _ _ (by decide)⟩
theorem FS_frame {W : qM} (h : FS M0 Lq e M) (hW : MS M W) (h37 : ∀ j, j ≠ 17 → j ≠ 18 → j ≠ 19 → W 37 j = M 37 j) : FS M0 Lq e W := by
  obtain ⟨a1, a2, a3, a4, a5, a6, a7, a8, a9⟩ := h
  refine ⟨MS_tr a1 hW, ?_, ?_, a4, a5, ?_, ?_, ?_, ?_⟩
  · rw [h37 _ (by decide) (by decide) (by decide)]; exact a2
  · rw [h37 _ (by decide) (by decide) (by decide)]; exact a3
  · rw [h37 _ (by decide) (by decide) (by decide)]; exact a6
  · rw [h37 _ (by decide) (by decide) (by decide)]; exact a7
  · rw [h37 27 (by decide) (by decide) (by decide), h37 28 (by decide) (by decide) (by decide)]; exact a8
  · rw [h37 _ (by decide) (by decide) (by decide)]; exact a9
theorem PS_frame {W : qM} (h : PS M0 I n Lq σ M) (hW : MS M W) (h37 : ∀ j, j ≠ 17 → j ≠ 18 → j ≠ 19 → W 37 j = M 37 j) (h49 : W 49 = M 49) (h50 : W 50 = M 50) : PS M0 I n Lq σ W := by
  obtain ⟨a1, a2, a3, a4, a5, a6, a7, a8, a9, a10, a11, a12, a13, a14, a15⟩ := h
  have h48 := hW.1 48 (by decide) (by decide) (by decide) (by decide) (by decide) (by decide) (by decide) (by decide) (by decide)
  unfold PS
  rw [h37 24 (by decide) (by decide) (by decide), h37 9 (by decide) (by decide) (by decide), h37 29 (by decide) (by decide) (by decide), h37 25 (by decide) (by decide) (by decide), h37 26 (by decide) (by decide) (by decide), h37 27 (by decide) (by decide) (by decide), h37 28 (by decide) (by decide) (by decide), h37 31 (by decide) (by decide) (by decide), h49, h50]
  exact ⟨MS_tr a1 hW, ⟨a2.1, a2.2.1, fun i i0 i1 => by rw [h48]; exact a2.2.2 i i0 i1⟩, a3, a4, a5, a6, a7, a8, a9, a10, a11, a12, a13, a14, a15⟩
set_option maxHeartbeats 1500000 in
theorem m_goesOnE (h : PS M0 I n Lq σ M) : qCt mX8_goesOn 0 2 [.ref 37] M (qph (tkM M I n (tE I n σ.1))) := by
  obtain ⟨a1, a2, a3, a4, a5, a6, a7, a8, a9, a10, a11, a12⟩ := id h
  have hE := tE_in (I := I) a6.2
  have hS := tS_in (I := I) a6.2
  refine q_intro (own := 8) (L := [some (.ref 37)]) md_X8_goesOn rfl rfl rfl (Nat.le_of_ble_eq_true rfl) (fun X => ?_)
  refine q_aload_n dX8_goesOn_0 rfl ?_
  refine q_geti (j := 29) dX8_goesOn_1 fl_8_182 rfl rfl rfl ?_
  rw [a5]
  refine q_if_ne (tgt := 11) dX8_goesOn_4 rfl (by (first | (unfold zR; omega) | (unfold zLR; omega) | omega | (simp only [zR, qup] at *; omega) | (simp [zR, qup]; omega) | (simp [zR, qup]; done))) (fun h4 => absurd h4 (by exact fun g => g rfl)) (fun h4 => ?_)
  refine q_aload_n dX8_goesOn_7 rfl ?_
  refine q_V0 dX8_goesOn_8 ml_8_191 md_X8_token (m_token (p := tE I n σ.1) a2 a3 a7 (by omega)) rfl rfl rfl (by first | decide | omega) (Nat.le_of_ble_eq_true rfl) (Nat.le_of_ble_eq_true rfl) (qk_h (fun N8 hq8 => ?_))
  refine q_return dX8_goesOn_11 ?_
  exact ⟨rfl, hq8⟩
set_option maxHeartbeats 1500000 in
theorem m_failsE (h : M 37 29 = 0) : qCt mX8_fails 0 0 [.ref 37, .int (zI c)] M (qpv (qup (qup M 37 29 c) 37 30 (M 37 26))) := by
  refine q_intro (own := 8) (L := [some (.ref 37), some (.int (zI c))]) md_X8_fails rfl rfl rfl (Nat.le_of_ble_eq_true rfl) (fun X => ?_)
  refine q_aload_n dX8_fails_0 rfl ?_
  refine q_geti (j := 29) dX8_fails_1 fl_8_182 rfl rfl rfl ?_
  rw [h]
  refine q_if_ne (tgt := 20) dX8_fails_4 rfl (by (first | (unfold zR; omega) | (unfold zLR; omega) | omega | (simp only [zR, qup] at *; omega) | (simp [zR, qup]; omega) | (simp [zR, qup]; done))) (fun h4 => absurd h4 (by exact fun g => g rfl)) (fun h4 => ?_)
  refine q_aload_n dX8_fails_7 rfl ?_
  refine q_iload_n dX8_fails_8 rfl ?_
  refine q_puti (j := 29) dX8_fails_9 fl_8_182 rfl rfl rfl rfl rfl ?_
  refine q_aload_n dX8_fails_12 rfl ?_
  refine q_aload_n dX8_fails_13 rfl ?_
  refine q_geti (j := 26) dX8_fails_14 fl_8_167 rfl rfl rfl ?_
  rw [qup_k _ _ _ (by decide)]
  refine q_puti (j := 30) dX8_fails_17 fl_8_185 rfl rfl rfl rfl rfl ?_
  refine q_return dX8_fails_20 ?_
  exact ⟨rfl, rfl⟩
set_option maxHeartbeats 1500000 in
theorem m_numberHereE (h : PS M0 I n Lq σ M) (hk : tK I n σ.1 = 2) : qCt mX8_numberHere 0 1 [.ref 37, .int (zI 0), .int (zI 255)] M (qpg (fun z M' => ((0 ≤ tV I n σ.1 ∧ tV I n σ.1 ≤ 255) ∧ z = tV I n σ.1 ∧ M' = M) ∨ (¬ (0 ≤ tV I n σ.1 ∧ tV I n σ.1 ≤ 255) ∧ z = 0 ∧ M' = qup (qup M 37 29 2) 37 30 (tS I n σ.1)))) := by
  obtain ⟨a1, a2, a3, a4, a5, a6, a7, a8, a9, a10, a11, a12⟩ := id h
  have hvr : zR (tV I n σ.1) := by have h2 := a11 hk; rw [a10 hk] at h2; exact h2
  refine q_intro (own := 8) (L := [some (.ref 37), some (.int (zI 0)), some (.int (zI 255))]) md_X8_numberHere rfl rfl rfl (Nat.le_of_ble_eq_true rfl) (fun X => ?_)
  refine q_aload_n dX8_numberHere_0 rfl ?_
  refine q_geti (j := 27) dX8_numberHere_1 fl_8_170 rfl rfl rfl ?_
  refine q_iconst dX8_numberHere_4 ?_
  rw [a9]
  refine q_icmp_eq (tgt := 16) dX8_numberHere_5 rfl (by (first | (unfold zR; omega) | (unfold zLR; omega) | omega | (simp only [zR, qup] at *; omega) | (simp [zR, qup]; omega) | (simp [zR, qup]; done))) (by (first | (unfold zR; omega) | (unfold zLR; omega) | omega | (simp only [zR, qup] at *; omega) | (simp [zR, qup]; omega) | (simp [zR, qup]; done))) (fun h5 => ?_) (fun h5 => absurd h5 (by exact fun g => g hk))
  refine q_aload_n dX8_numberHere_16 rfl ?_
  refine q_geti (j := 28) dX8_numberHere_17 fl_8_179 rfl rfl rfl ?_
  rw [a10 hk]
  refine q_iload_n dX8_numberHere_20 rfl ?_
  refine q_iload_n dX8_numberHere_21 rfl ?_
  refine q_S3 dX8_numberHere_22 ml_8_71 md_X8_in (m_in hvr (by (first | (unfold zR; omega) | (unfold zLR; omega) | omega | (simp only [zR, qup] at *; omega) | (simp [zR, qup]; omega) | (simp [zR, qup]; done))) (by (first | (unfold zR; omega) | (unfold zLR; omega) | omega | (simp only [zR, qup] at *; omega) | (simp [zR, qup]; omega) | (simp [zR, qup]; done)))) rfl (by first | decide | omega) (Nat.le_of_ble_eq_true rfl) (Nat.le_of_ble_eq_true rfl) (qk_e ?_)
  refine q_if_ne (tgt := 33) dX8_numberHere_25 rfl (by exact zb_R _) (fun h25 => ?_) (fun h25 => ?_)
  ·
    have hin := zbp h25
    refine q_aload_n dX8_numberHere_33 rfl ?_
    refine q_geti (j := 29) dX8_numberHere_34 fl_8_182 rfl rfl rfl ?_
    rw [a5]
    refine q_if_eq (tgt := 44) dX8_numberHere_37 rfl (by (first | (unfold zR; omega) | (unfold zLR; omega) | omega | (simp only [zR, qup] at *; omega) | (simp [zR, qup]; omega) | (simp [zR, qup]; done))) (fun h37 => ?_) (fun h37 => absurd h37 (by exact fun g => g rfl))
    refine q_aload_n dX8_numberHere_44 rfl ?_
    refine q_geti (j := 28) dX8_numberHere_45 fl_8_179 rfl rfl rfl ?_
    rw [a10 hk]
    refine q_ireturn dX8_numberHere_48 ?_
    exact ⟨_, rfl, Or.inl ⟨hin, rfl, rfl⟩⟩
  ·
    refine q_aload_n dX8_numberHere_28 rfl ?_
    refine q_iconst dX8_numberHere_29 ?_
    refine q_V1 dX8_numberHere_30 ml_8_188 md_X8_fails (m_failsE a5) rfl rfl rfl (by first | decide | omega) (Nat.le_of_ble_eq_true rfl) (Nat.le_of_ble_eq_true rfl) (qk_v ?_)
    have hin := zb_0.1 h25
    refine q_aload_n dX8_numberHere_33 rfl ?_
    refine q_geti (j := 29) dX8_numberHere_34 fl_8_182 rfl rfl rfl ?_
    rw [show qup (qup M 37 29 2) 37 30 (M 37 26) 37 29 = 2 by rw [qup_k _ _ _ (by decide), qup_s]]
    refine q_if_eq (tgt := 44) dX8_numberHere_37 rfl (by (first | (unfold zR; omega) | (unfold zLR; omega) | omega | (simp only [zR, qup] at *; omega) | (simp [zR, qup]; omega) | (simp [zR, qup]; done))) (fun h37 => absurd h37 (by decide)) (fun h37 => ?_)
    refine q_iload_n dX8_numberHere_40 rfl ?_
    refine q_goto (tgt := 48) dX8_numberHere_41 rfl ?_
    refine q_ireturn dX8_numberHere_48 ?_
    exact ⟨_, rfl, Or.inr ⟨hin, rfl, by rw [a8]⟩⟩
/-- the loop over a tree's numbers -/
def tlA (M0 : qM) (I : Int → Int) (n : Int) (L : Nat) (σ : qσ) (p2 a : Int) (i : Nat) (z : Int) (W : qM) : Prop := PS M0 I n (L : Int) (np I n p2 i, σ.2) W ∧ W 37 17 = i ∧ (i : Int) ≤ np I n p2 i ∧ (∀ j : Int, 0 ≤ j → j < i → W 47 j = srcS I n p2 j ∧ 0 ≤ srcS I n p2 j ∧ srcS I n p2 j < 256) ∧ (i = 0 → tK I n p2 = 2 ∧ z = 0) ∧ (i ≠ 0 → z = (oj (srcS I n p2) L i).1 ∧ (-1 ≤ z ∧ z ≤ i) ∧ (z = -1 → ∀ k, 0 ≤ k → k < p4 L → (0 ≤ W 42 k ∧ W 42 k < 256) ∧ W 42 k = (oj (srcS I n p2) L i).2 k)) ∧ lnTree I n L σ = trS I n L a p2 σ (n.toNat - i) i
def tlB (M0 : qM) (I : Int → Int) (n : Int) (L : Nat) (σ : qσ) (z : Int) (W : qM) : Prop := ∃ e, FS M0 (L : Int) e W ∧ lnTree I n L σ = .inl e ∧ zR z
/-- a line that is taken, or has gone wrong, or goes wrong by the token behind it -/
def YS (M0 : qM) (I : Int → Int) (n Lq : Int) (r : qρ) (M : qM) : Prop := XS M0 I n Lq r M ∨ ∃ σ, r = .inl (1, tS I n σ.1) ∧ PS M0 I n Lq σ M ∧ tK I n σ.1 ≠ 3 ∧ tK I n σ.1 ≠ 0
theorem trS_end {p2 a : Int} {i : Nat} (h : tK I n (np I n p2 i) ≠ 2) : ∀ k : Nat, trS I n L a p2 σ k i = trF I n L a p2 σ i := by
  intro k
  cases k with
  | zero => rfl
  | succ k => rw [trS, if_neg h]
set_option maxHeartbeats 1500000 in
theorem tl_34F {X : qX} {a : Int} {v3 : Option Value} (h : FS M0 (L : Int) e M) (hr : lnTree I n L σ = .inl e) : QW X (8, cX8_treeLine, 4, none, 0, 11) (qph (YS M0 I n (L : Int) (lnTree I n L σ))) 0 34 [some (.ref 37), some (.int (zI a)), some (.int (zI z)), v3] [] M := by
  obtain ⟨a1, a2, a3, a4, a5, a6, a7, a8, a9⟩ := id h
  refine q_aload_n dX8_treeLine_34 rfl ?_
  refine q_geti (j := 29) dX8_treeLine_35 fl_8_182 rfl rfl rfl ?_
  rw [a3]
  refine q_if_ne (tgt := 113) dX8_treeLine_38 rfl (by (first | (unfold zR; omega) | (unfold zLR; omega) | omega | (simp only [zR, qup] at *; omega) | (simp [zR, qup]; omega) | (simp [zR, qup]; done))) (fun h38 => ?_) (fun h38 => absurd h38 (by exact a4))
  refine q_aload_n dX8_treeLine_113 rfl ?_
  refine q_aload_n dX8_treeLine_114 rfl ?_
  refine q_geti (j := 29) dX8_treeLine_115 fl_8_182 rfl rfl rfl ?_
  rw [a3]
  refine q_if_ne (tgt := 130) dX8_treeLine_118 rfl (by (first | (unfold zR; omega) | (unfold zLR; omega) | omega | (simp only [zR, qup] at *; omega) | (simp [zR, qup]; omega) | (simp [zR, qup]; done))) (fun h118 => ?_) (fun h118 => absurd h118 (by exact a4))
  refine q_iconst dX8_treeLine_130 ?_
  refine q_aload_n dX8_treeLine_131 rfl ?_
  refine q_geti (j := 27) dX8_treeLine_132 fl_8_170 rfl rfl rfl ?_
  refine q_iconst dX8_treeLine_135 ?_
  refine q_icmp_eq (tgt := 146) dX8_treeLine_136 rfl (by (first | (unfold zR; omega) | (unfold zLR; omega) | omega | (simp only [zR, qup] at *; omega) | (simp [zR, qup]; omega) | (simp [zR, qup]; done))) (by (first | (unfold zR; omega) | (unfold zLR; omega) | omega | (simp only [zR, qup] at *; omega) | (simp [zR, qup]; omega) | (simp [zR, qup]; done))) (fun h136 => ?_) (fun h136 => ?_)
  ·
    refine q_iconst dX8_treeLine_146 ?_
    refine q_goto (tgt := 151) dX8_treeLine_147 rfl ?_
    refine q_V2 dX8_treeLine_151 ml_8_215 md_X8_failsIf (m_failsIfF h (Or.inl rfl)) rfl rfl rfl (by first | decide | omega) (Nat.le_of_ble_eq_true rfl) (Nat.le_of_ble_eq_true rfl) (qk_h (fun N151 hq151 => ?_))
    refine q_aload_n dX8_treeLine_154 rfl ?_
    refine q_geti (j := 29) dX8_treeLine_155 fl_8_182 rfl rfl rfl ?_
    rw [hq151.2.2.1]
    refine q_if_ne (tgt := 166) dX8_treeLine_158 rfl (by (first | (unfold zR; omega) | (unfold zLR; omega) | omega | (simp only [zR, qup] at *; omega) | (simp [zR, qup]; omega) | (simp [zR, qup]; done))) (fun h158 => ?_) (fun h158 => absurd h158 (by exact a4))
    refine q_return dX8_treeLine_166 ?_
    exact ⟨rfl, Or.inl (by rw [hr]; exact hq151)⟩
  ·
    refine q_aload_n dX8_treeLine_139 rfl ?_
    refine q_geti (j := 27) dX8_treeLine_140 fl_8_170 rfl rfl rfl ?_
    refine q_if_ne (tgt := 150) dX8_treeLine_143 rfl (by (first | (unfold zR; omega) | (unfold zLR; omega) | omega | (simp only [zR, qup] at *; omega) | (simp [zR, qup]; omega) | (simp [zR, qup]; done))) (fun h143 => ?_) (fun h143 => ?_)
    ·
      refine q_iconst dX8_treeLine_150 ?_
      refine q_V2 dX8_treeLine_151 ml_8_215 md_X8_failsIf (m_failsIfF h (Or.inl rfl)) rfl rfl rfl (by first | decide | omega) (Nat.le_of_ble_eq_true rfl) (Nat.le_of_ble_eq_true rfl) (qk_h (fun N151 hq151 => ?_))
      refine q_aload_n dX8_treeLine_154 rfl ?_
      refine q_geti (j := 29) dX8_treeLine_155 fl_8_182 rfl rfl rfl ?_
      rw [hq151.2.2.1]
      refine q_if_ne (tgt := 166) dX8_treeLine_158 rfl (by (first | (unfold zR; omega) | (unfold zLR; omega) | omega | (simp only [zR, qup] at *; omega) | (simp [zR, qup]; omega) | (simp [zR, qup]; done))) (fun h158 => ?_) (fun h158 => absurd h158 (by exact a4))
      refine q_return dX8_treeLine_166 ?_
      exact ⟨rfl, Or.inl (by rw [hr]; exact hq151)⟩
    ·
      refine q_iconst dX8_treeLine_146 ?_
      refine q_goto (tgt := 151) dX8_treeLine_147 rfl ?_
      refine q_V2 dX8_treeLine_151 ml_8_215 md_X8_failsIf (m_failsIfF h (Or.inl rfl)) rfl rfl rfl (by first | decide | omega) (Nat.le_of_ble_eq_true rfl) (Nat.le_of_ble_eq_true rfl) (qk_h (fun N151 hq151 => ?_))
      refine q_aload_n dX8_treeLine_154 rfl ?_
      refine q_geti (j := 29) dX8_treeLine_155 fl_8_182 rfl rfl rfl ?_
      rw [hq151.2.2.1]
      refine q_if_ne (tgt := 166) dX8_treeLine_158 rfl (by (first | (unfold zR; omega) | (unfold zLR; omega) | omega | (simp only [zR, qup] at *; omega) | (simp [zR, qup]; omega) | (simp [zR, qup]; done))) (fun h158 => ?_) (fun h158 => absurd h158 (by exact a4))
      refine q_return dX8_treeLine_166 ?_
      exact ⟨rfl, Or.inl (by rw [hr]; exact hq151)⟩
theorem np_s {p2 : Int} (i : Nat) : np I n p2 (i + 1) = tE I n (np I n p2 i) := rfl
set_option maxHeartbeats 3000000 in
theorem tl_34A {X : qX} {p2 a : Int} (hL : L ≤ 4) (hp2 : 0 ≤ p2 ∧ p2 ≤ n) (ha : 0 ≤ a ∧ a < σ.2.1) (hln : lnTree I n L σ = trS I n L a p2 σ n.toNat 0) (h : tlA M0 I n L σ p2 a 0 0 M) : QW X (8, cX8_treeLine, 4, none, 0, 11) (qph (YS M0 I n (L : Int) (lnTree I n L σ))) 0 34 [some (.ref 37), some (.int (zI a)), some (.int (zI 0)), none] [] M := by
  have hpL := p4_in (L : Int)
  refine q_lp (α := Nat × Int × qM) (fun x => 702 - x.1) (fun x => x.1 ≤ 701 ∧ (tlA M0 I n L σ p2 a x.1 x.2.1 x.2.2 ∨ tlB M0 I n L σ x.2.1 x.2.2)) (fun x => [some (.ref 37), some (.int (zI a)), some (.int (zI x.2.1)), none]) (fun x => x.2.2) (0, 0, M) rfl rfl ⟨by dsimp only; omega, Or.inl h⟩ (fun x hx ih => ?_)
  obtain ⟨i, z, W⟩ := x
  obtain ⟨hi, hx⟩ := hx
  dsimp only at hi hx ih ⊢
  rcases hx with hA | ⟨e, hF, hr, hz⟩
  · obtain ⟨hP, h17, hnp, h47, hA0, hA1, hA2⟩ := hA
    obtain ⟨b1, b2, b3, b4, b5, b6, b7, b8, b9, b10, b11, b12, b13, b14, b15, b16, b17⟩ := id hP
    dsimp only at b6 b7 b8 b9 b10 b12 b13 b14 b15 b16 b17
    have hE := tE_in (I := I) b6.2
    have hS := tS_in (I := I) b6.2
    have hkk := tK_in I n (np I n p2 i)
    have hzR : zR z := by
      by_cases e : i = 0
      · have := (hA0 e).2; unfold zR; omega
      · have := (hA1 e).2.1; unfold zR; omega
    have hn7 : n ≤ 700 := b2.2.1
    refine q_aload_n dX8_treeLine_34 rfl ?_
    refine q_geti (j := 29) dX8_treeLine_35 fl_8_182 rfl rfl rfl ?_
    rw [b5]
    refine q_if_ne (tgt := 113) dX8_treeLine_38 rfl (by (first | (unfold zR; omega) | (unfold zLR; omega) | omega | (simp only [zR, qup] at *; omega) | (simp [zR, qup]; omega) | (simp [zR, qup]; done))) (fun h38 => absurd h38 (by exact fun g => g rfl)) (fun h38 => ?_)
    refine q_aload_n dX8_treeLine_41 rfl ?_
    refine q_geti (j := 27) dX8_treeLine_42 fl_8_170 rfl rfl rfl ?_
    rw [b9]
    refine q_iconst dX8_treeLine_45 ?_
    refine q_icmp_ne (tgt := 113) dX8_treeLine_46 rfl (by (first | (unfold zR; omega) | (unfold zLR; omega) | omega | (simp only [zR, qup] at *; omega) | (simp [zR, qup]; omega) | (simp [zR, qup]; done))) (by (first | (unfold zR; omega) | (unfold zLR; omega) | omega | (simp only [zR, qup] at *; omega) | (simp [zR, qup]; omega) | (simp [zR, qup]; done))) (fun h46 => ?_) (fun h46 => ?_)
    ·
      have hi0 : i ≠ 0 := fun e => by
        subst e
        exact h46 (hA0 rfl).1
      obtain ⟨q1, q2, q3⟩ := hA1 hi0
      have htr : lnTree I n L σ = trF I n L a p2 σ i := by rw [hA2]; exact trS_end h46 _
      refine q_aload_n dX8_treeLine_113 rfl ?_
      refine q_aload_n dX8_treeLine_114 rfl ?_
      refine q_geti (j := 29) dX8_treeLine_115 fl_8_182 rfl rfl rfl ?_
      rw [b5]
      refine q_if_ne (tgt := 130) dX8_treeLine_118 rfl (by (first | (unfold zR; omega) | (unfold zLR; omega) | omega | (simp only [zR, qup] at *; omega) | (simp [zR, qup]; omega) | (simp [zR, qup]; done))) (fun h118 => absurd h118 (by exact fun g => g rfl)) (fun h118 => ?_)
      refine q_iload_n dX8_treeLine_121 rfl ?_
      refine q_iconst dX8_treeLine_122 ?_
      refine q_icmp_eq (tgt := 130) dX8_treeLine_123 rfl (by (first | (unfold zR; omega) | (unfold zLR; omega) | omega | (simp only [zR, qup] at *; omega) | (simp [zR, qup]; omega) | (simp [zR, qup]; done))) (by (first | (unfold zR; omega) | (unfold zLR; omega) | omega | (simp only [zR, qup] at *; omega) | (simp [zR, qup]; omega) | (simp [zR, qup]; done))) (fun h123 => ?_) (fun h123 => ?_)
      ·
        refine q_iconst dX8_treeLine_130 ?_
        have hz1 : z = -1 := h123
        refine q_aload_n dX8_treeLine_131 rfl ?_
        refine q_geti (j := 27) dX8_treeLine_132 fl_8_170 rfl rfl rfl ?_
        refine q_iconst dX8_treeLine_135 ?_
        rw [b9]
        refine q_icmp_eq (tgt := 146) dX8_treeLine_136 rfl (by (first | (unfold zR; omega) | (unfold zLR; omega) | omega | (simp only [zR, qup] at *; omega) | (simp [zR, qup]; omega) | (simp [zR, qup]; done))) (by (first | (unfold zR; omega) | (unfold zLR; omega) | omega | (simp only [zR, qup] at *; omega) | (simp [zR, qup]; omega) | (simp [zR, qup]; done))) (fun h136 => ?_) (fun h136 => ?_)
        ·
          refine q_iconst dX8_treeLine_146 ?_
          refine q_goto (tgt := 151) dX8_treeLine_147 rfl ?_
          refine q_V2 dX8_treeLine_151 ml_8_215 md_X8_failsIf m_failsIf0 rfl rfl rfl (by first | decide | omega) (Nat.le_of_ble_eq_true rfl) (Nat.le_of_ble_eq_true rfl) (qk_v ?_)
          refine q_aload_n dX8_treeLine_154 rfl ?_
          refine q_geti (j := 29) dX8_treeLine_155 fl_8_182 rfl rfl rfl ?_
          rw [b5]
          refine q_if_ne (tgt := 166) dX8_treeLine_158 rfl (by (first | (unfold zR; omega) | (unfold zLR; omega) | omega | (simp only [zR, qup] at *; omega) | (simp [zR, qup]; omega) | (simp [zR, qup]; done))) (fun h158 => absurd h158 (by exact fun g => g rfl)) (fun h158 => ?_)
          refine q_aload_n dX8_treeLine_161 rfl ?_
          refine q_iload_n dX8_treeLine_162 rfl ?_
          refine q_V1 dX8_treeLine_163 ml_8_240 md_X8_leavesRow (m_leavesRow (L := L) b4 hL (by omega)) rfl rfl rfl (by first | decide | omega) (Nat.le_of_ble_eq_true rfl) (Nat.le_of_ble_eq_true rfl) (qk_v ?_)
          refine q_return dX8_treeLine_166 ?_
          have hPr := PS_row (L := L) (F := W 42) (G := (oj (srcS I n p2) L i).2) hP rfl hL ha (lvW_MS W a (p4 L)) (fun j _ _ _ => by rw [lvW_o (by decide)]) (lvW_o (by decide)) (fun j => by
            unfold lvW
            by_cases g : 256 * a ≤ j ∧ j < 256 * a + p4 L
            · rw [if_pos ⟨rfl, g⟩, if_pos g]
            · rw [if_neg (fun w => g w.2), if_neg g]) (fun k k0 k1 => (q3 hz1 k k0 k1).1) (fun k k0 k1 => (q3 hz1 k k0 k1).2)
          refine ⟨rfl, ?_⟩
          by_cases g : tK I n (np I n p2 i) ≠ 3 ∧ tK I n (np I n p2 i) ≠ 0
          · right
            refine ⟨_, ?_, hPr, g.1, g.2⟩
            rw [htr]
            unfold trF
            rw [if_pos g]
            rfl
          · left
            rw [htr]
            unfold trF
            rw [if_neg g, if_pos (by rw [← q1]; exact hz1)]
            exact hPr
        ·
          refine q_aload_n dX8_treeLine_139 rfl ?_
          refine q_geti (j := 27) dX8_treeLine_140 fl_8_170 rfl rfl rfl ?_
          rw [b9]
          refine q_if_ne (tgt := 150) dX8_treeLine_143 rfl (by (first | (unfold zR; omega) | (unfold zLR; omega) | omega | (simp only [zR, qup] at *; omega) | (simp [zR, qup]; omega) | (simp [zR, qup]; done))) (fun h143 => ?_) (fun h143 => ?_)
          ·
            refine q_iconst dX8_treeLine_150 ?_
            refine q_V2 dX8_treeLine_151 ml_8_215 md_X8_failsIf m_failsIf0 rfl rfl rfl (by first | decide | omega) (Nat.le_of_ble_eq_true rfl) (Nat.le_of_ble_eq_true rfl) (qk_v ?_)
            refine q_aload_n dX8_treeLine_154 rfl ?_
            refine q_geti (j := 29) dX8_treeLine_155 fl_8_182 rfl rfl rfl ?_
            rw [b5]
            refine q_if_ne (tgt := 166) dX8_treeLine_158 rfl (by (first | (unfold zR; omega) | (unfold zLR; omega) | omega | (simp only [zR, qup] at *; omega) | (simp [zR, qup]; omega) | (simp [zR, qup]; done))) (fun h158 => absurd h158 (by exact fun g => g rfl)) (fun h158 => ?_)
            refine q_aload_n dX8_treeLine_161 rfl ?_
            refine q_iload_n dX8_treeLine_162 rfl ?_
            refine q_V1 dX8_treeLine_163 ml_8_240 md_X8_leavesRow (m_leavesRow (L := L) b4 hL (by omega)) rfl rfl rfl (by first | decide | omega) (Nat.le_of_ble_eq_true rfl) (Nat.le_of_ble_eq_true rfl) (qk_v ?_)
            refine q_return dX8_treeLine_166 ?_
            have hPr := PS_row (L := L) (F := W 42) (G := (oj (srcS I n p2) L i).2) hP rfl hL ha (lvW_MS W a (p4 L)) (fun j _ _ _ => by rw [lvW_o (by decide)]) (lvW_o (by decide)) (fun j => by
              unfold lvW
              by_cases g : 256 * a ≤ j ∧ j < 256 * a + p4 L
              · rw [if_pos ⟨rfl, g⟩, if_pos g]
              · rw [if_neg (fun w => g w.2), if_neg g]) (fun k k0 k1 => (q3 hz1 k k0 k1).1) (fun k k0 k1 => (q3 hz1 k k0 k1).2)
            refine ⟨rfl, ?_⟩
            by_cases g : tK I n (np I n p2 i) ≠ 3 ∧ tK I n (np I n p2 i) ≠ 0
            · right
              refine ⟨_, ?_, hPr, g.1, g.2⟩
              rw [htr]
              unfold trF
              rw [if_pos g]
              rfl
            · left
              rw [htr]
              unfold trF
              rw [if_neg g, if_pos (by rw [← q1]; exact hz1)]
              exact hPr
          ·
            refine q_iconst dX8_treeLine_146 ?_
            refine q_goto (tgt := 151) dX8_treeLine_147 rfl ?_
            refine q_V2 dX8_treeLine_151 ml_8_215 md_X8_failsIf m_failsIf0 rfl rfl rfl (by first | decide | omega) (Nat.le_of_ble_eq_true rfl) (Nat.le_of_ble_eq_true rfl) (qk_v ?_)
            refine q_aload_n dX8_treeLine_154 rfl ?_
            refine q_geti (j := 29) dX8_treeLine_155 fl_8_182 rfl rfl rfl ?_
            rw [b5]
            refine q_if_ne (tgt := 166) dX8_treeLine_158 rfl (by (first | (unfold zR; omega) | (unfold zLR; omega) | omega | (simp only [zR, qup] at *; omega) | (simp [zR, qup]; omega) | (simp [zR, qup]; done))) (fun h158 => absurd h158 (by exact fun g => g rfl)) (fun h158 => ?_)
            refine q_aload_n dX8_treeLine_161 rfl ?_
            refine q_iload_n dX8_treeLine_162 rfl ?_
            refine q_V1 dX8_treeLine_163 ml_8_240 md_X8_leavesRow (m_leavesRow (L := L) b4 hL (by omega)) rfl rfl rfl (by first | decide | omega) (Nat.le_of_ble_eq_true rfl) (Nat.le_of_ble_eq_true rfl) (qk_v ?_)
            refine q_return dX8_treeLine_166 ?_
            have hPr := PS_row (L := L) (F := W 42) (G := (oj (srcS I n p2) L i).2) hP rfl hL ha (lvW_MS W a (p4 L)) (fun j _ _ _ => by rw [lvW_o (by decide)]) (lvW_o (by decide)) (fun j => by
              unfold lvW
              by_cases g : 256 * a ≤ j ∧ j < 256 * a + p4 L
              · rw [if_pos ⟨rfl, g⟩, if_pos g]
              · rw [if_neg (fun w => g w.2), if_neg g]) (fun k k0 k1 => (q3 hz1 k k0 k1).1) (fun k k0 k1 => (q3 hz1 k k0 k1).2)
            refine ⟨rfl, ?_⟩
            by_cases g : tK I n (np I n p2 i) ≠ 3 ∧ tK I n (np I n p2 i) ≠ 0
            · right
              refine ⟨_, ?_, hPr, g.1, g.2⟩
              rw [htr]
              unfold trF
              rw [if_pos g]
              rfl
            · left
              rw [htr]
              unfold trF
              rw [if_neg g, if_pos (by rw [← q1]; exact hz1)]
              exact hPr
      ·
        refine q_iconst dX8_treeLine_126 ?_
        refine q_goto (tgt := 131) dX8_treeLine_127 rfl ?_
        have hz1 : z ≠ -1 := h123
        refine q_aload_n dX8_treeLine_131 rfl ?_
        refine q_geti (j := 27) dX8_treeLine_132 fl_8_170 rfl rfl rfl ?_
        refine q_iconst dX8_treeLine_135 ?_
        rw [b9]
        refine q_icmp_eq (tgt := 146) dX8_treeLine_136 rfl (by (first | (unfold zR; omega) | (unfold zLR; omega) | omega | (simp only [zR, qup] at *; omega) | (simp [zR, qup]; omega) | (simp [zR, qup]; done))) (by (first | (unfold zR; omega) | (unfold zLR; omega) | omega | (simp only [zR, qup] at *; omega) | (simp [zR, qup]; omega) | (simp [zR, qup]; done))) (fun h136 => ?_) (fun h136 => ?_)
        ·
          refine q_iconst dX8_treeLine_146 ?_
          refine q_goto (tgt := 151) dX8_treeLine_147 rfl ?_
          have g : ¬ (tK I n (np I n p2 i) ≠ 3 ∧ tK I n (np I n p2 i) ≠ 0) := fun g => g.1 h136
          refine q_V2 dX8_treeLine_151 ml_8_215 md_X8_failsIf (m_failsIf1 hP (by decide) (by (first | (unfold zR; omega) | (unfold zLR; omega) | omega | (simp only [zR, qup] at *; omega) | (simp [zR, qup]; omega) | (simp [zR, qup]; done)))) rfl rfl rfl (by first | decide | omega) (Nat.le_of_ble_eq_true rfl) (Nat.le_of_ble_eq_true rfl) (qk_h (fun N151 hq151 => ?_))
          refine q_aload_n dX8_treeLine_154 rfl ?_
          refine q_geti (j := 29) dX8_treeLine_155 fl_8_182 rfl rfl rfl ?_
          rw [hq151.2.2.1]
          refine q_if_ne (tgt := 166) dX8_treeLine_158 rfl (by (first | (unfold zR; omega) | (unfold zLR; omega) | omega | (simp only [zR, qup] at *; omega) | (simp [zR, qup]; omega) | (simp [zR, qup]; done))) (fun h158 => ?_) (fun h158 => absurd h158 (by show ¬ (5 : Int) = 0; decide))
          refine q_return dX8_treeLine_166 ?_
          exact ⟨rfl, Or.inl (by rw [htr]; unfold trF; rw [if_neg g, if_neg (by rw [← q1]; exact hz1)]; exact hq151)⟩
        ·
          refine q_aload_n dX8_treeLine_139 rfl ?_
          refine q_geti (j := 27) dX8_treeLine_140 fl_8_170 rfl rfl rfl ?_
          rw [b9]
          refine q_if_ne (tgt := 150) dX8_treeLine_143 rfl (by (first | (unfold zR; omega) | (unfold zLR; omega) | omega | (simp only [zR, qup] at *; omega) | (simp [zR, qup]; omega) | (simp [zR, qup]; done))) (fun h143 => ?_) (fun h143 => ?_)
          ·
            refine q_iconst dX8_treeLine_150 ?_
            have g : tK I n (np I n p2 i) ≠ 3 ∧ tK I n (np I n p2 i) ≠ 0 := ⟨h136, h143⟩
            refine q_V2 dX8_treeLine_151 ml_8_215 md_X8_failsIf (m_failsIf1 hP (by decide) (by (first | (unfold zR; omega) | (unfold zLR; omega) | omega | (simp only [zR, qup] at *; omega) | (simp [zR, qup]; omega) | (simp [zR, qup]; done)))) rfl rfl rfl (by first | decide | omega) (Nat.le_of_ble_eq_true rfl) (Nat.le_of_ble_eq_true rfl) (qk_h (fun N151 hq151 => ?_))
            refine q_aload_n dX8_treeLine_154 rfl ?_
            refine q_geti (j := 29) dX8_treeLine_155 fl_8_182 rfl rfl rfl ?_
            rw [hq151.2.2.1]
            refine q_if_ne (tgt := 166) dX8_treeLine_158 rfl (by (first | (unfold zR; omega) | (unfold zLR; omega) | omega | (simp only [zR, qup] at *; omega) | (simp [zR, qup]; omega) | (simp [zR, qup]; done))) (fun h158 => ?_) (fun h158 => absurd h158 (by show ¬ (1 : Int) = 0; decide))
            refine q_return dX8_treeLine_166 ?_
            exact ⟨rfl, Or.inl (by rw [htr]; unfold trF; rw [if_pos g]; exact hq151)⟩
          ·
            refine q_iconst dX8_treeLine_146 ?_
            refine q_goto (tgt := 151) dX8_treeLine_147 rfl ?_
            have g : ¬ (tK I n (np I n p2 i) ≠ 3 ∧ tK I n (np I n p2 i) ≠ 0) := fun g => g.2 h143
            refine q_V2 dX8_treeLine_151 ml_8_215 md_X8_failsIf (m_failsIf1 hP (by decide) (by (first | (unfold zR; omega) | (unfold zLR; omega) | omega | (simp only [zR, qup] at *; omega) | (simp [zR, qup]; omega) | (simp [zR, qup]; done)))) rfl rfl rfl (by first | decide | omega) (Nat.le_of_ble_eq_true rfl) (Nat.le_of_ble_eq_true rfl) (qk_h (fun N151 hq151 => ?_))
            refine q_aload_n dX8_treeLine_154 rfl ?_
            refine q_geti (j := 29) dX8_treeLine_155 fl_8_182 rfl rfl rfl ?_
            rw [hq151.2.2.1]
            refine q_if_ne (tgt := 166) dX8_treeLine_158 rfl (by (first | (unfold zR; omega) | (unfold zLR; omega) | omega | (simp only [zR, qup] at *; omega) | (simp [zR, qup]; omega) | (simp [zR, qup]; done))) (fun h158 => ?_) (fun h158 => absurd h158 (by show ¬ (5 : Int) = 0; decide))
            refine q_return dX8_treeLine_166 ?_
            exact ⟨rfl, Or.inl (by rw [htr]; unfold trF; rw [if_neg g, if_neg (by rw [← q1]; exact hz1)]; exact hq151)⟩
    ·
      refine q_aload_n dX8_treeLine_49 rfl ?_
      refine q_iconst dX8_treeLine_50 ?_
      refine q_sipush dX8_treeLine_51 rfl ?_
      refine q_V2 dX8_treeLine_54 ml_8_202 md_X8_numberHere (m_numberHereE hP h46) rfl rfl rfl (by first | decide | omega) (Nat.le_of_ble_eq_true rfl) (Nat.le_of_ble_eq_true rfl) (qk_g (fun z54 N54 hq54 => ?_))
      have hvi := num_in b6.2 h46
      have hsi : srcS I n p2 i = tV I n (np I n p2 i) := by unfold srcS; rw [Int.toNat_natCast]
      have hi70 : (i : Int) < n := by
        have := (tE_in (I := I) b6.2).2.2 (by have := (tK_0 (I := I) (n := n) (p := np I n p2 i)).2; exact Classical.byContradiction fun q => by have := this (by omega); omega)
        omega
      have hfu : n.toNat - i = (n.toNat - (i + 1)) + 1 := by omega
      have htr : lnTree I n L σ = if 255 < tV I n (np I n p2 i) then flS I n 2 (np I n p2 i) else if (oj (srcS I n p2) L ((i : Int) + 1)).1 ≠ -1 ∧ (oj (srcS I n p2) L ((i : Int) + 1)).1 < (i : Int) + 1 then flS I n 5 (np I n p2 i) else trS I n L a p2 σ (n.toNat - (i + 1)) (i + 1) := by rw [hA2, hfu, trS, if_pos h46]
      have h17b : ∀ j, qup W 47 (i : Int) j 37 17 = (i : Int) := fun j => by rw [qup_o _ _ _ _ (by decide)]; exact h17
      rcases hq54 with ⟨hv, rfl, rfl⟩ | ⟨hv, rfl, rfl⟩
      · dsimp only at hv
        rw [if_neg (by omega)] at htr
        have hMS2 : MS N54 (qup (qup N54 47 (i : Int) (tV I n (np I n p2 i))) 37 17 ((i : Int) + 1)) := MS_up (MS_47u (MS_rf _) _ _) (by omega)
        have w37 : ∀ j, j ≠ 17 → qup (qup N54 47 (i : Int) (tV I n (np I n p2 i))) 37 17 ((i : Int) + 1) 37 j = N54 37 j := fun j hj => by rw [qup_k _ _ _ hj, qup_o _ _ _ _ (by decide)]
        have wo : ∀ u : Nat, u ≠ 37 → u ≠ 47 → qup (qup N54 47 (i : Int) (tV I n (np I n p2 i))) 37 17 ((i : Int) + 1) u = N54 u := fun u hu hu' => by funext j; rw [qup_o _ _ _ _ hu, qup_o _ _ _ _ hu']
        have w47 : ∀ j, 0 ≤ j → j < (i : Int) + 1 → qup (qup N54 47 (i : Int) (tV I n (np I n p2 i))) 37 17 ((i : Int) + 1) 47 j = srcS I n p2 j ∧ 0 ≤ srcS I n p2 j ∧ srcS I n p2 j < 256 := fun j j0 j1 => by
          rw [qup_o _ _ _ _ (by decide)]
          by_cases g : j = (i : Int)
          · subst g; rw [qup_s, hsi]; omega
          · rw [qup_k _ _ _ g]; exact h47 j j0 (by omega)
        refine q_istore_n dX8_treeLine_57 (Nat.le_of_ble_eq_true rfl) rfl ?_
        refine q_aload_n dX8_treeLine_58 rfl ?_
        refine q_getr dX8_treeLine_59 fl_8_38 rfl rfl ?_
        refine q_aload_n dX8_treeLine_62 rfl ?_
        refine q_geti (j := 17) dX8_treeLine_63 fl_8_130 rfl rfl rfl ?_
        rw [h17]
        refine q_iload_n dX8_treeLine_66 rfl ?_
        refine q_iast dX8_treeLine_67 rfl (by (first | (unfold zR; omega) | (unfold zLR; omega) | omega | (simp only [zR, qup] at *; omega) | (simp [zR, qup]; omega) | (simp [zR, qup]; done))) (Nat.le_of_ble_eq_true rfl) ?_
        refine q_aload_n dX8_treeLine_68 rfl ?_
        refine q_dup dX8_treeLine_69 rfl ?_
        refine q_geti (j := 17) dX8_treeLine_70 fl_8_130 rfl rfl rfl ?_
        rw [h17b]
        refine q_iconst dX8_treeLine_73 ?_
        refine q_iadd dX8_treeLine_74 ?_
        refine q_puti (j := 17) dX8_treeLine_75 fl_8_130 rfl rfl rfl rfl rfl ?_
        refine q_aload_n dX8_treeLine_78 rfl ?_
        have w17 : qup (qup N54 47 (i : Int) (tV I n (np I n p2 i))) 37 17 ((i : Int) + 1) 37 17 = (i : Int) + 1 := qup_s _ _ _ _
        generalize qup (qup N54 47 (i : Int) (tV I n (np I n p2 i))) 37 17 ((i : Int) + 1) = W2 at hMS2 w37 wo w47 w17
        have hP2 := PS_frame hP hMS2 (fun j hj _ _ => w37 j hj) (wo 49 (by decide) (by decide)) (wo 50 (by decide) (by decide))
        refine q_V0 dX8_treeLine_79 ml_8_243 md_X8_readsTree (m_readsTree (src := srcS I n p2) (n := (i : Int) + 1) hL (by rw [w37 _ (by decide)]; exact b4) w17 ⟨by omega, by omega⟩ w47) rfl rfl rfl (by first | decide | omega) (Nat.le_of_ble_eq_true rfl) (Nat.le_of_ble_eq_true rfl) (qk_g (fun z79 N79 hq79 => ?_))
        obtain ⟨y1, y2, ⟨G, P, rfl⟩, y4⟩ := hq79
        have hP3 := PS_frame (W := rdM W2 G P z79) hP2 rdM_MS (fun j _ j1 j2 => rdM_37 j1 j2) (rdM_o (by decide) (by decide)) (rdM_o (by decide) (by decide))
        have hA3 : ¬ ((oj (srcS I n p2) L ((i : Int) + 1)).1 ≠ -1 ∧ (oj (srcS I n p2) L ((i : Int) + 1)).1 < (i : Int) + 1) → ∀ u, (tK I n (tE I n (np I n p2 i)) = 2 → zR u ∧ u = tV I n (tE I n (np I n p2 i))) → tlA M0 I n L σ p2 a (i + 1) z79 (mlx (rdM W2 G P z79) (tE I n (tE I n (np I n p2 i))) (tS I n (tE I n (np I n p2 i))) (tK I n (tE I n (np I n p2 i))) u) := fun hno u hu => by
          refine ⟨PS_tok hP3 hu, ?_, ?_, fun j j0 j1 => ?_, fun e => absurd e (Nat.succ_ne_zero i), fun _ => ⟨?_, by omega, fun hz k k0 k1 => ?_⟩, ?_⟩
          · rw [mlx_37 (by decide) (by decide) (by decide) (by decide), rdM_37 (by decide) (by decide), w17]; omega
          · rw [np_s]; have := hE.2.2 (by have := (tK_0 (I := I) (n := n) (p := np I n p2 i)).2; exact Classical.byContradiction fun q => by have := this (by omega); omega); omega
          · rw [mlx_o (by decide), rdM_o (by decide) (by decide)]; exact w47 j j0 (by omega)
          · rw [y2, show ((i + 1 : Nat) : Int) = (i : Int) + 1 by omega]
          · rw [mlx_o (by decide), show ((i + 1 : Nat) : Int) = (i : Int) + 1 by omega]; exact y4 hz k k0 k1
          · rw [htr, if_neg hno]
        refine q_istore_n dX8_treeLine_82 (Nat.le_of_ble_eq_true rfl) rfl ?_
        refine q_aload_n dX8_treeLine_83 rfl ?_
        refine q_iload_n dX8_treeLine_84 rfl ?_
        refine q_iconst dX8_treeLine_85 ?_
        refine q_icmp_eq (tgt := 101) dX8_treeLine_86 rfl (by (first | (unfold zR; omega) | (unfold zLR; omega) | omega | (simp only [zR, qup] at *; omega) | (simp [zR, qup]; omega) | (simp [zR, qup]; done))) (by (first | (unfold zR; omega) | (unfold zLR; omega) | omega | (simp only [zR, qup] at *; omega) | (simp [zR, qup]; omega) | (simp [zR, qup]; done))) (fun h86 => ?_) (fun h86 => ?_)
        ·
          refine q_iconst dX8_treeLine_101 ?_
          refine q_iconst dX8_treeLine_102 ?_
          skip
          refine q_V2 dX8_treeLine_103 ml_8_215 md_X8_failsIf m_failsIf0 rfl rfl rfl (by first | decide | omega) (Nat.le_of_ble_eq_true rfl) (Nat.le_of_ble_eq_true rfl) (qk_v ?_)
          refine q_aload_n dX8_treeLine_106 rfl ?_
          refine q_V0 dX8_treeLine_107 ml_8_205 md_X8_goesOn (m_goesOnE hP3) rfl rfl rfl (by first | decide | omega) (Nat.le_of_ble_eq_true rfl) (Nat.le_of_ble_eq_true rfl) (qk_h (fun N107 hq107 => ?_))
          refine q_goto (tgt := 34) dX8_treeLine_110 rfl ?_
          obtain ⟨u, hu, rfl⟩ := hq107
          refine q_wk _ ?_ (ih (i + 1, z79, _) _ _ ⟨by dsimp only; omega, Or.inl (hA3 (fun g => g.1 (by rw [← y2]; exact h86)) u hu)⟩ (by dsimp only; omega) rfl rfl)
          simp only [wkB]
          (repeat (first | exact rfl | exact trivial | refine ⟨rfl, ?_⟩))
        ·
          refine q_iload_n dX8_treeLine_89 rfl ?_
          refine q_aload_n dX8_treeLine_90 rfl ?_
          refine q_geti (j := 17) dX8_treeLine_91 fl_8_130 rfl rfl rfl ?_
          rw [rdM_37 (by decide) (by decide), w17]
          refine q_icmp_ge (tgt := 101) dX8_treeLine_94 rfl (by (first | (unfold zR; omega) | (unfold zLR; omega) | omega | (simp only [zR, qup] at *; omega) | (simp [zR, qup]; omega) | (simp [zR, qup]; done))) (by (first | (unfold zR; omega) | (unfold zLR; omega) | omega | (simp only [zR, qup] at *; omega) | (simp [zR, qup]; omega) | (simp [zR, qup]; done))) (fun h94 => ?_) (fun h94 => ?_)
          ·
            refine q_iconst dX8_treeLine_101 ?_
            refine q_iconst dX8_treeLine_102 ?_
            skip
            refine q_V2 dX8_treeLine_103 ml_8_215 md_X8_failsIf m_failsIf0 rfl rfl rfl (by first | decide | omega) (Nat.le_of_ble_eq_true rfl) (Nat.le_of_ble_eq_true rfl) (qk_v ?_)
            refine q_aload_n dX8_treeLine_106 rfl ?_
            refine q_V0 dX8_treeLine_107 ml_8_205 md_X8_goesOn (m_goesOnE hP3) rfl rfl rfl (by first | decide | omega) (Nat.le_of_ble_eq_true rfl) (Nat.le_of_ble_eq_true rfl) (qk_h (fun N107 hq107 => ?_))
            refine q_goto (tgt := 34) dX8_treeLine_110 rfl ?_
            obtain ⟨u, hu, rfl⟩ := hq107
            refine q_wk _ ?_ (ih (i + 1, z79, _) _ _ ⟨by dsimp only; omega, Or.inl (hA3 (fun g => by have := g.2; rw [← y2] at this; omega) u hu)⟩ (by dsimp only; omega) rfl rfl)
            simp only [wkB]
            (repeat (first | exact rfl | exact trivial | refine ⟨rfl, ?_⟩))
          ·
            refine q_iconst dX8_treeLine_97 ?_
            refine q_goto (tgt := 102) dX8_treeLine_98 rfl ?_
            refine q_iconst dX8_treeLine_102 ?_
            skip
            refine q_V2 dX8_treeLine_103 ml_8_215 md_X8_failsIf (m_failsIf1 hP3 (by decide) (by (first | (unfold zR; omega) | (unfold zLR; omega) | omega | (simp only [zR, qup] at *; omega) | (simp [zR, qup]; omega) | (simp [zR, qup]; done)))) rfl rfl rfl (by first | decide | omega) (Nat.le_of_ble_eq_true rfl) (Nat.le_of_ble_eq_true rfl) (qk_h (fun N103 hq103 => ?_))
            refine q_aload_n dX8_treeLine_106 rfl ?_
            refine q_V0 dX8_treeLine_107 ml_8_205 md_X8_goesOn (m_goesOnF hq103) rfl rfl rfl (by first | decide | omega) (Nat.le_of_ble_eq_true rfl) (Nat.le_of_ble_eq_true rfl) (qk_h (fun N107 hq107 => ?_))
            refine q_goto (tgt := 34) dX8_treeLine_110 rfl ?_
            refine q_wk _ ?_ (ih (i + 1, z79, N107) _ _ ⟨by dsimp only; omega, Or.inr ⟨_, hq107, by rw [htr, if_pos ⟨by rw [← y2]; exact h86, by rw [← y2]; omega⟩]; rfl, by dsimp only; unfold zR; omega⟩⟩ (by dsimp only; omega) rfl rfl)
            simp only [wkB]
            (repeat (first | exact rfl | exact trivial | refine ⟨rfl, ?_⟩))
      · dsimp only at hv
        rw [if_pos (by omega)] at htr
        have hF1 := FS_of hP (c := 2) (by decide) (by unfold zR; omega)
        dsimp only at hF1
        have f17 : qup (qup W 37 29 2) 37 30 (tS I n (np I n p2 i)) 37 17 = (i : Int) := by rw [qup_k _ _ _ (by decide), qup_k _ _ _ (by decide)]; exact h17
        have f9 : qup (qup W 37 29 2) 37 30 (tS I n (np I n p2 i)) 37 9 = (L : Int) := by rw [qup_k _ _ _ (by decide), qup_k _ _ _ (by decide)]; exact b4
        have f47 : ∀ j, qup (qup W 37 29 2) 37 30 (tS I n (np I n p2 i)) 47 j = W 47 j := fun j => by rw [qup_o _ _ _ _ (by decide), qup_o _ _ _ _ (by decide)]
        generalize qup (qup W 37 29 2) 37 30 (tS I n (np I n p2 i)) = W1 at hF1 f17 f9 f47 ⊢
        refine q_istore_n dX8_treeLine_57 (Nat.le_of_ble_eq_true rfl) rfl ?_
        refine q_aload_n dX8_treeLine_58 rfl ?_
        refine q_getr dX8_treeLine_59 fl_8_38 rfl rfl ?_
        refine q_aload_n dX8_treeLine_62 rfl ?_
        refine q_geti (j := 17) dX8_treeLine_63 fl_8_130 rfl rfl rfl ?_
        rw [f17]
        refine q_iload_n dX8_treeLine_66 rfl ?_
        refine q_iast dX8_treeLine_67 rfl (by (first | (unfold zR; omega) | (unfold zLR; omega) | omega | (simp only [zR, qup] at *; omega) | (simp [zR, qup]; omega) | (simp [zR, qup]; done))) (Nat.le_of_ble_eq_true rfl) ?_
        refine q_aload_n dX8_treeLine_68 rfl ?_
        refine q_dup dX8_treeLine_69 rfl ?_
        refine q_geti (j := 17) dX8_treeLine_70 fl_8_130 rfl rfl rfl ?_
        rw [show qup W1 47 (i : Int) 0 37 17 = (i : Int) by rw [qup_o _ _ _ _ (by decide)]; exact f17]
        refine q_iconst dX8_treeLine_73 ?_
        refine q_iadd dX8_treeLine_74 ?_
        refine q_puti (j := 17) dX8_treeLine_75 fl_8_130 rfl rfl rfl rfl rfl ?_
        refine q_aload_n dX8_treeLine_78 rfl ?_
        have hF3 := FS_frame (W := qup (qup W1 47 (i : Int) 0) 37 17 ((i : Int) + 1)) hF1 (MS_up (MS_47u (MS_rf _) _ _) (by omega)) (fun j hj _ _ => by rw [qup_k _ _ _ hj, qup_o _ _ _ _ (by decide)])
        have w17 : qup (qup W1 47 (i : Int) 0) 37 17 ((i : Int) + 1) 37 17 = (i : Int) + 1 := qup_s _ _ _ _
        have w9 : qup (qup W1 47 (i : Int) 0) 37 17 ((i : Int) + 1) 37 9 = (L : Int) := by rw [qup_k _ _ _ (by decide), qup_o _ _ _ _ (by decide)]; exact f9
        have w47 : ∀ j, 0 ≤ j → j < (i : Int) + 1 → qup (qup W1 47 (i : Int) 0) 37 17 ((i : Int) + 1) 47 j = (fun j => if j < (i : Int) then srcS I n p2 j else 0) j ∧ 0 ≤ (fun j => if j < (i : Int) then srcS I n p2 j else 0) j ∧ (fun j => if j < (i : Int) then srcS I n p2 j else 0) j < 256 := fun j j0 j1 => by
          dsimp only
          rw [qup_o _ _ _ _ (by decide)]
          by_cases g : j = (i : Int)
          · subst g; rw [qup_s, if_neg (by omega)]; omega
          · rw [qup_k _ _ _ g, if_pos (by omega), f47]; exact h47 j j0 (by omega)
        generalize qup (qup W1 47 (i : Int) 0) 37 17 ((i : Int) + 1) = W3 at hF3 w17 w9 w47
        refine q_V0 dX8_treeLine_79 ml_8_243 md_X8_readsTree (m_readsTree (n := (i : Int) + 1) hL w9 w17 ⟨by omega, by omega⟩ w47) rfl rfl rfl (by first | decide | omega) (Nat.le_of_ble_eq_true rfl) (Nat.le_of_ble_eq_true rfl) (qk_g (fun z79 N79 hq79 => ?_))
        obtain ⟨y1, y2, ⟨G, P, rfl⟩, y4⟩ := hq79
        have hF4 := FS_frame (W := rdM W3 G P z79) hF3 rdM_MS (fun j _ j1 j2 => rdM_37 j1 j2)
        refine q_istore_n dX8_treeLine_82 (Nat.le_of_ble_eq_true rfl) rfl ?_
        refine q_aload_n dX8_treeLine_83 rfl ?_
        refine q_iload_n dX8_treeLine_84 rfl ?_
        refine q_iconst dX8_treeLine_85 ?_
        refine q_icmp_eq (tgt := 101) dX8_treeLine_86 rfl (by (first | (unfold zR; omega) | (unfold zLR; omega) | omega | (simp only [zR, qup] at *; omega) | (simp [zR, qup]; omega) | (simp [zR, qup]; done))) (by (first | (unfold zR; omega) | (unfold zLR; omega) | omega | (simp only [zR, qup] at *; omega) | (simp [zR, qup]; omega) | (simp [zR, qup]; done))) (fun h86 => ?_) (fun h86 => ?_)
        ·
          refine q_iconst dX8_treeLine_101 ?_
          refine q_iconst dX8_treeLine_102 ?_
          refine q_V2 dX8_treeLine_103 ml_8_215 md_X8_failsIf (m_failsIfF hF4 (by first | exact Or.inl rfl | exact Or.inr rfl)) rfl rfl rfl (by first | decide | omega) (Nat.le_of_ble_eq_true rfl) (Nat.le_of_ble_eq_true rfl) (qk_h (fun N103 hq103 => ?_))
          refine q_aload_n dX8_treeLine_106 rfl ?_
          refine q_V0 dX8_treeLine_107 ml_8_205 md_X8_goesOn (m_goesOnF hq103) rfl rfl rfl (by first | decide | omega) (Nat.le_of_ble_eq_true rfl) (Nat.le_of_ble_eq_true rfl) (qk_h (fun N107 hq107 => ?_))
          refine q_goto (tgt := 34) dX8_treeLine_110 rfl ?_
          refine q_wk _ ?_ (ih (i + 1, z79, N107) _ _ ⟨by dsimp only; omega, Or.inr ⟨_, hq107, by rw [htr]; rfl, by dsimp only; unfold zR; omega⟩⟩ (by dsimp only; omega) rfl rfl)
          simp only [wkB]
          (repeat (first | exact rfl | exact trivial | refine ⟨rfl, ?_⟩))
        ·
          refine q_iload_n dX8_treeLine_89 rfl ?_
          refine q_aload_n dX8_treeLine_90 rfl ?_
          refine q_geti (j := 17) dX8_treeLine_91 fl_8_130 rfl rfl rfl ?_
          rw [rdM_37 (by decide) (by decide), w17]
          refine q_icmp_ge (tgt := 101) dX8_treeLine_94 rfl (by (first | (unfold zR; omega) | (unfold zLR; omega) | omega | (simp only [zR, qup] at *; omega) | (simp [zR, qup]; omega) | (simp [zR, qup]; done))) (by (first | (unfold zR; omega) | (unfold zLR; omega) | omega | (simp only [zR, qup] at *; omega) | (simp [zR, qup]; omega) | (simp [zR, qup]; done))) (fun h94 => ?_) (fun h94 => ?_)
          ·
            refine q_iconst dX8_treeLine_101 ?_
            refine q_iconst dX8_treeLine_102 ?_
            refine q_V2 dX8_treeLine_103 ml_8_215 md_X8_failsIf (m_failsIfF hF4 (by first | exact Or.inl rfl | exact Or.inr rfl)) rfl rfl rfl (by first | decide | omega) (Nat.le_of_ble_eq_true rfl) (Nat.le_of_ble_eq_true rfl) (qk_h (fun N103 hq103 => ?_))
            refine q_aload_n dX8_treeLine_106 rfl ?_
            refine q_V0 dX8_treeLine_107 ml_8_205 md_X8_goesOn (m_goesOnF hq103) rfl rfl rfl (by first | decide | omega) (Nat.le_of_ble_eq_true rfl) (Nat.le_of_ble_eq_true rfl) (qk_h (fun N107 hq107 => ?_))
            refine q_goto (tgt := 34) dX8_treeLine_110 rfl ?_
            refine q_wk _ ?_ (ih (i + 1, z79, N107) _ _ ⟨by dsimp only; omega, Or.inr ⟨_, hq107, by rw [htr]; rfl, by dsimp only; unfold zR; omega⟩⟩ (by dsimp only; omega) rfl rfl)
            simp only [wkB]
            (repeat (first | exact rfl | exact trivial | refine ⟨rfl, ?_⟩))
          ·
            refine q_iconst dX8_treeLine_97 ?_
            refine q_goto (tgt := 102) dX8_treeLine_98 rfl ?_
            refine q_iconst dX8_treeLine_102 ?_
            refine q_V2 dX8_treeLine_103 ml_8_215 md_X8_failsIf (m_failsIfF hF4 (by first | exact Or.inl rfl | exact Or.inr rfl)) rfl rfl rfl (by first | decide | omega) (Nat.le_of_ble_eq_true rfl) (Nat.le_of_ble_eq_true rfl) (qk_h (fun N103 hq103 => ?_))
            refine q_aload_n dX8_treeLine_106 rfl ?_
            refine q_V0 dX8_treeLine_107 ml_8_205 md_X8_goesOn (m_goesOnF hq103) rfl rfl rfl (by first | decide | omega) (Nat.le_of_ble_eq_true rfl) (Nat.le_of_ble_eq_true rfl) (qk_h (fun N107 hq107 => ?_))
            refine q_goto (tgt := 34) dX8_treeLine_110 rfl ?_
            refine q_wk _ ?_ (ih (i + 1, z79, N107) _ _ ⟨by dsimp only; omega, Or.inr ⟨_, hq107, by rw [htr]; rfl, by dsimp only; unfold zR; omega⟩⟩ (by dsimp only; omega) rfl rfl)
            simp only [wkB]
            (repeat (first | exact rfl | exact trivial | refine ⟨rfl, ?_⟩))
  · exact tl_34F hF hr
set_option maxHeartbeats 3000000 in
theorem m_treeLine (hL : L ≤ 4) (h : PS M0 I n (L : Int) σ M) : qCt mX8_treeLine 0 11 [.ref 37] M (qph (YS M0 I n (L : Int) (lnTree I n L σ))) := by
  have hm6 := h.2.2.2.2.2.2.2.2.2.2.2.2.1
  refine q_intro (own := 8) (L := [some (.ref 37), none, none, none]) md_X8_treeLine rfl rfl rfl (Nat.le_of_ble_eq_true rfl) (fun X => ?_)
  refine q_aload_n dX8_treeLine_0 rfl ?_
  refine q_V0 dX8_treeLine_1 ml_8_205 md_X8_goesOn (m_goesOnP h) rfl rfl rfl (by first | decide | omega) (Nat.le_of_ble_eq_true rfl) (Nat.le_of_ble_eq_true rfl) (qk_h (fun N1 hq1 => ?_))
  refine q_aload_n dX8_treeLine_4 rfl ?_
  refine q_V0 dX8_treeLine_5 ml_8_222 md_X8_takesMap (m_takesMapP hq1) rfl rfl rfl (by first | decide | omega) (Nat.le_of_ble_eq_true rfl) (Nat.le_of_ble_eq_true rfl) (qk_g (fun z5 N5 hq5 => ?_))
  refine q_istore_n dX8_treeLine_8 (Nat.le_of_ble_eq_true rfl) rfl ?_
  rcases hq5 with ⟨e, g1, rfl, g3⟩ | ⟨g1, g2, g3⟩
  · have hr : lnTree I n L σ = .inl e := g3 _
    have hF := FS_frame (W := qup N5 37 17 0) g1 (MS_up (MS_rf _) (by omega)) (fun j hj _ _ => qup_k _ _ _ hj)
    obtain ⟨a1, a2, a3, a4, a5, a6, a7, a8, a9⟩ := id hF
    refine q_aload_n dX8_treeLine_9 rfl ?_
    refine q_iconst dX8_treeLine_10 ?_
    refine q_puti (j := 17) dX8_treeLine_11 fl_8_130 rfl rfl rfl rfl rfl ?_
    refine q_iconst dX8_treeLine_14 ?_
    refine q_istore_n dX8_treeLine_15 (Nat.le_of_ble_eq_true rfl) rfl ?_
    refine q_aload_n dX8_treeLine_16 rfl ?_
    refine q_aload_n dX8_treeLine_17 rfl ?_
    refine q_geti (j := 27) dX8_treeLine_18 fl_8_170 rfl rfl rfl ?_
    refine q_iconst dX8_treeLine_21 ?_
    refine q_icmp_eq (tgt := 29) dX8_treeLine_22 rfl (by (first | (unfold zR; omega) | (unfold zLR; omega) | omega | (simp only [zR, qup] at *; omega) | (simp [zR, qup]; omega) | (simp [zR, qup]; done))) (by (first | (unfold zR; omega) | (unfold zLR; omega) | omega | (simp only [zR, qup] at *; omega) | (simp [zR, qup]; omega) | (simp [zR, qup]; done))) (fun h22 => ?_) (fun h22 => ?_)
    ·
      refine q_iconst dX8_treeLine_29 ?_
      refine q_iconst dX8_treeLine_30 ?_
      refine q_V2 dX8_treeLine_31 ml_8_215 md_X8_failsIf (m_failsIfF hF (by first | exact Or.inl rfl | exact Or.inr rfl)) rfl rfl rfl (by first | decide | omega) (Nat.le_of_ble_eq_true rfl) (Nat.le_of_ble_eq_true rfl) (qk_h (fun N31 hq31 => ?_))
      exact tl_34F hq31 hr
    ·
      refine q_iconst dX8_treeLine_25 ?_
      refine q_goto (tgt := 30) dX8_treeLine_26 rfl ?_
      refine q_iconst dX8_treeLine_30 ?_
      refine q_V2 dX8_treeLine_31 ml_8_215 md_X8_failsIf (m_failsIfF hF (by first | exact Or.inl rfl | exact Or.inr rfl)) rfl rfl rfl (by first | decide | omega) (Nat.le_of_ble_eq_true rfl) (Nat.le_of_ble_eq_true rfl) (qk_h (fun N31 hq31 => ?_))
      exact tl_34F hq31 hr
  · have hP := PS_frame (W := qup N5 37 17 0) g1 (MS_up (MS_rf _) (by omega)) (fun j hj _ _ => qup_k _ _ _ hj) (by funext j; exact qup_o _ _ _ _ (by decide)) (by funext j; exact qup_o _ _ _ _ (by decide))
    obtain ⟨b1, b2, b3, b4, b5, b6, b7, b8, b9, b10, b11, b12⟩ := id hP
    dsimp only at b6 b7 b8 b9 b10 g2 g3 hP
    have hk := tK_in I n (tE I n (tE I n σ.1))
    have hr : lnTree I n L σ = if tK I n (tE I n (tE I n σ.1)) ≠ 2 then flS I n 1 (tE I n (tE I n σ.1)) else trS I n L z5 (tE I n (tE I n σ.1)) σ n.toNat 0 := g3 _
    have h17 : qup N5 37 17 0 37 17 = 0 := qup_s _ _ _ _
    refine q_aload_n dX8_treeLine_9 rfl ?_
    refine q_iconst dX8_treeLine_10 ?_
    refine q_puti (j := 17) dX8_treeLine_11 fl_8_130 rfl rfl rfl rfl rfl ?_
    refine q_iconst dX8_treeLine_14 ?_
    refine q_istore_n dX8_treeLine_15 (Nat.le_of_ble_eq_true rfl) rfl ?_
    refine q_aload_n dX8_treeLine_16 rfl ?_
    refine q_aload_n dX8_treeLine_17 rfl ?_
    refine q_geti (j := 27) dX8_treeLine_18 fl_8_170 rfl rfl rfl ?_
    generalize qup N5 37 17 0 = W at hP b1 b2 b3 b4 b5 b7 b8 b9 b10 b11 b12 h17
    rw [b9]
    refine q_iconst dX8_treeLine_21 ?_
    refine q_icmp_eq (tgt := 29) dX8_treeLine_22 rfl (by (first | (unfold zR; omega) | (unfold zLR; omega) | omega | (simp only [zR, qup] at *; omega) | (simp [zR, qup]; omega) | (simp [zR, qup]; done))) (by (first | (unfold zR; omega) | (unfold zLR; omega) | omega | (simp only [zR, qup] at *; omega) | (simp [zR, qup]; omega) | (simp [zR, qup]; done))) (fun h22 => ?_) (fun h22 => ?_)
    ·
      refine q_iconst dX8_treeLine_29 ?_
      refine q_iconst dX8_treeLine_30 ?_
      rw [if_neg (fun g => g h22)] at hr
      refine q_V2 dX8_treeLine_31 ml_8_215 md_X8_failsIf m_failsIf0 rfl rfl rfl (by first | decide | omega) (Nat.le_of_ble_eq_true rfl) (Nat.le_of_ble_eq_true rfl) (qk_v ?_)
      exact tl_34A hL b6 g2 hr ⟨hP, h17, b6.1, fun j j0 j1 => by omega, fun _ => ⟨h22, rfl⟩, fun g => absurd rfl g, hr⟩
    ·
      refine q_iconst dX8_treeLine_25 ?_
      refine q_goto (tgt := 30) dX8_treeLine_26 rfl ?_
      refine q_iconst dX8_treeLine_30 ?_
      rw [if_pos h22] at hr
      refine q_V2 dX8_treeLine_31 ml_8_215 md_X8_failsIf (m_failsIf1 hP (by decide) (by (first | (unfold zR; omega) | (unfold zLR; omega) | omega | (simp only [zR, qup] at *; omega) | (simp [zR, qup]; omega) | (simp [zR, qup]; done)))) rfl rfl rfl (by first | decide | omega) (Nat.le_of_ble_eq_true rfl) (Nat.le_of_ble_eq_true rfl) (qk_h (fun N31 hq31 => ?_))
      exact tl_34F hq31 hr
end MTL


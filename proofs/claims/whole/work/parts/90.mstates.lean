/-! The model: its parser's states; goesOn, fails, takesMap, takes. -/
theorem word_tok {I : Int → Int} {n p : Int} (hp : p ≤ n) (h : tK I n p = 1) : (1 ≤ tE I n p - tS I n p ∧ tE I n p - tS I n p ≤ 6) ∧ (∀ j, tS I n p ≤ j → j < tE I n p → 97 ≤ I j ∧ I j ≤ 122) ∧ tV I n p = wc I (tS I n p) (tE I n p - tS I n p).toNat := by
  have hE := tE_in (I := I) hp
  unfold tK at h
  by_cases h0 : n ≤ tS I n p
  · rw [if_pos h0] at h; omega
  · rw [if_neg h0] at h
    by_cases h1 : isLt (I (tS I n p)) = true
    · rw [if_pos h1] at h
      by_cases h2 : tE I n p - tS I n p ≤ 6
      · have eE : tE I n p = skp isLt I (tS I n p) (n - tS I n p).toNat := by
          show (if n ≤ tS I n p then tS I n p else if isLt (I (tS I n p)) = true then skp isLt I (tS I n p) (n - tS I n p).toNat else if isDg (I (tS I n p)) = true then skp isDg I (tS I n p) (n - tS I n p).toNat else tS I n p + 1) = _
          rw [if_neg h0, if_pos h1]
        refine ⟨by omega, fun j j0 j1 => isLt_i.mp (skp_all (n - tS I n p).toNat (tS I n p) j j0 (by omega)), ?_⟩
        unfold tV
        rw [if_neg h0, if_pos h1]
      · rw [if_neg h2] at h; omega
    · rw [if_neg h1] at h
      by_cases h2 : isDg (I (tS I n p)) = true
      · rw [if_pos h2] at h
        by_cases h3 : tE I n p - tS I n p ≤ 4
        · rw [if_pos h3] at h; omega
        · rw [if_neg h3] at h; omega
      · rw [if_neg h2] at h
        by_cases h3 : I (tS I n p) = 59
        · rw [if_pos h3] at h; omega
        · rw [if_neg h3] at h; omega
/-- the model's parser goes on -/
def PS (M0 : qM) (I : Int → Int) (n Lq : Int) (σ : qσ) (M : qM) : Prop := MS M0 M ∧ inM M I n ∧ M 37 24 = n ∧ M 37 9 = Lq ∧ M 37 29 = 0 ∧ (0 ≤ σ.1 ∧ σ.1 ≤ n) ∧ M 37 25 = tE I n σ.1 ∧ M 37 26 = tS I n σ.1 ∧ M 37 27 = tK I n σ.1 ∧ (tK I n σ.1 = 2 → M 37 28 = tV I n σ.1) ∧ (tK I n σ.1 = 2 → zR (M 37 28)) ∧ M 37 31 = σ.2.1 ∧ (0 ≤ σ.2.1 ∧ σ.2.1 ≤ 6) ∧ (∀ k, 0 ≤ k → k < σ.2.1 → nmR (fun j => M 49 (6 * k + j)) (σ.2.2.1 k)) ∧ (∀ i, 0 ≤ i → i < 256 * σ.2.1 → 0 ≤ M 50 i ∧ M 50 i < 256) ∧ (∀ k i, 0 ≤ k → k < σ.2.1 → 0 ≤ i → i < p4 Lq → M 50 (256 * k + i) = σ.2.2.2 k i) ∧ ∀ k i, 0 ≤ k → k < σ.2.1 → p4 Lq ≤ i → i < 256 → M 50 (256 * k + i) = 0
/-- it has found the text wrong: c, at s -/
def FS (M0 : qM) (Lq : Int) (e : Int × Int) (M : qM) : Prop := MS M0 M ∧ M 37 9 = Lq ∧ M 37 29 = e.1 ∧ e.1 ≠ 0 ∧ zR e.1 ∧ M 37 30 = e.2 ∧ zR (M 37 27) ∧ (M 37 27 = 2 → zR (M 37 28)) ∧ 0 ≤ M 37 31 ∧ M 37 31 ≤ 6
def XS (M0 : qM) (I : Int → Int) (n Lq : Int) : qρ → qM → Prop
  | .inl e => FS M0 Lq e
  | .inr σ => PS M0 I n Lq σ
theorem MS_up {A B : qM} (h : MS A B) {k v : Int} (hk : ¬ (k = 0 ∨ k = 1 ∨ k = 2 ∨ k = 3 ∨ k = 7 ∨ k = 21 ∨ k = 22 ∨ k = 23 ∨ k = 35)) : MS A (qup B 37 k v) := MS_tr h ⟨fun u a1 _ _ _ _ _ _ _ _ => by funext j; exact qup_o _ _ _ _ a1, fun j hj => qup_k _ _ _ (fun e => hk (e ▸ hj))⟩
theorem mlx_MS (M : qM) (a f s u : Int) : MS M (mlx M a f s u) := ⟨fun o h _ _ _ _ _ _ _ _ => mlx_o h, fun k hk => mlx_37 (by omega) (by omega) (by omega) (by omega)⟩
section MPS
variable {M M0 : qM} {I : Int → Int} {n Lq c q least most : Int} {σ : qσ} {e : Int × Int}
theorem PS_in (h : PS M0 I n Lq σ M) : inM M I n := h.2.1
theorem PS_tok {u : Int} (h : PS M0 I n Lq σ M) (hu : tK I n (tE I n σ.1) = 2 → zR u ∧ u = tV I n (tE I n σ.1)) : PS M0 I n Lq (tE I n σ.1, σ.2) (mlx M (tE I n (tE I n σ.1)) (tS I n (tE I n σ.1)) (tK I n (tE I n σ.1)) u) := by
  obtain ⟨a1, a2, a3, a4, a5, a6, a7, a8, a9, a10, a11, a12, a13, a14, a15, a16, a17⟩ := h
  have hE := tE_in (I := I) a6.2
  have hS := tS_in (I := I) a6.2
  refine ⟨MS_tr a1 (mlx_MS _ _ _ _ _), inM_lx a2, ?_, ?_, ?_, ⟨by dsimp only; omega, by dsimp only; omega⟩, mlx_25, mlx_26, mlx_27, fun h => by rw [mlx_28]; exact (hu h).2, fun h => by rw [mlx_28]; exact (hu h).1, ?_, a13, ?_⟩
  · rw [mlx_37 (by decide) (by decide) (by decide) (by decide)]; exact a3
  · rw [mlx_37 (by decide) (by decide) (by decide) (by decide)]; exact a4
  · rw [mlx_37 (by decide) (by decide) (by decide) (by decide)]; exact a5
  · rw [mlx_37 (by decide) (by decide) (by decide) (by decide)]; exact a12
  · rw [mlx_o (o := 49) (by decide), mlx_o (o := 50) (by decide)]
    exact ⟨a14, a15, a16, a17⟩
theorem FS_of (h : PS M0 I n Lq σ M) (hc : c ≠ 0) (hz : zR c) : FS M0 Lq (c, tS I n σ.1) (qup (qup M 37 29 c) 37 30 (tS I n σ.1)) := by
  obtain ⟨a1, a2, a3, a4, a5, a6, a7, a8, a9, a10, a11, a12, a13, a14⟩ := h
  have hk := tK_in I n σ.1
  refine ⟨MS_up (MS_up a1 (by omega)) (by omega), ?_, ?_, hc, hz, qup_s _ _ _ _, ?_, ?_, ?_⟩
  · rw [qup_k _ _ _ (by decide), qup_k _ _ _ (by decide)]; exact a4
  · rw [qup_k _ _ _ (by decide), qup_s]
  · rw [qup_k _ _ _ (by decide), qup_k _ _ _ (by decide), a9]; unfold zR; omega
  · intro hq
    rw [qup_k _ _ _ (by decide), qup_k _ _ _ (by decide), a9] at hq
    rw [qup_k _ _ _ (by decide), qup_k _ _ _ (by decide)]
    exact a11 hq
  · rw [qup_k _ _ _ (by decide), qup_k _ _ _ (by decide), a12]; exact a13
set_option maxHeartbeats 1500000 in
theorem m_goesOnF (h : FS M0 Lq e M) : qCt mX8_goesOn 0 2 [.ref 37] M (qph (FS M0 Lq e)) := by
  obtain ⟨a1, a2, a3, a4, a5, a6⟩ := h
  refine q_intro (own := 8) (L := [some (.ref 37)]) md_X8_goesOn rfl rfl rfl (Nat.le_of_ble_eq_true rfl) (fun X => ?_)
  refine q_aload_n dX8_goesOn_0 rfl ?_
  refine q_geti (j := 29) dX8_goesOn_1 fl_8_182 rfl rfl rfl ?_
  rw [a3]
  refine q_if_ne (tgt := 11) dX8_goesOn_4 rfl (by (first | (unfold zR; omega) | (unfold zLR; omega) | omega | (simp only [zR, qup] at *; omega) | (simp [zR, qup]; omega) | (simp [zR, qup]; done))) (fun h4 => ?_) (fun h4 => absurd h4 (by exact a4))
  refine q_return dX8_goesOn_11 ?_
  exact ⟨rfl, a1, a2, a3, a4, a5, a6⟩
set_option maxHeartbeats 1500000 in
theorem m_goesOnP (h : PS M0 I n Lq σ M) : qCt mX8_goesOn 0 2 [.ref 37] M (qph (PS M0 I n Lq (tE I n σ.1, σ.2))) := by
  obtain ⟨a1, a2, a3, a4, a5, a6, a7, a8, a9, a10, a11, a12⟩ := id h
  have hE := tE_in (I := I) a6.2
  have hS := tS_in (I := I) a6.2
  refine q_intro (own := 8) (L := [some (.ref 37)]) md_X8_goesOn rfl rfl rfl (Nat.le_of_ble_eq_true rfl) (fun X => ?_)
  refine q_aload_n dX8_goesOn_0 rfl ?_
  refine q_geti (j := 29) dX8_goesOn_1 fl_8_182 rfl rfl rfl ?_
  rw [a5]
  refine q_if_ne (tgt := 11) dX8_goesOn_4 rfl (by (first | (unfold zR; omega) | (unfold zLR; omega) | omega | (simp only [zR, qup] at *; omega) | (simp [zR, qup]; omega) | (simp [zR, qup]; done))) (fun h4 => absurd h4 (by exact fun g => g rfl)) (fun h4 => ?_)
  refine q_aload_n dX8_goesOn_7 rfl ?_
  refine q_V0 dX8_goesOn_8 ml_8_191 md_X8_token (m_token (p := tE I n σ.1) a2 a3 a7 (by omega)) rfl rfl rfl (by first | decide | omega) (Nat.le_of_ble_eq_true rfl) (Nat.le_of_ble_eq_true rfl) (qk_h (fun N8 hq8 => ?_))
  refine q_return dX8_goesOn_11 ?_
  obtain ⟨u, hu, rfl⟩ := hq8
  exact ⟨rfl, PS_tok h hu⟩
set_option maxHeartbeats 1500000 in
theorem m_failsF (h : FS M0 Lq e M) : qCt mX8_fails 0 0 [.ref 37, .int (zI c)] M (qph (FS M0 Lq e)) := by
  obtain ⟨a1, a2, a3, a4, a5, a6⟩ := id h
  refine q_intro (own := 8) (L := [some (.ref 37), some (.int (zI c))]) md_X8_fails rfl rfl rfl (Nat.le_of_ble_eq_true rfl) (fun X => ?_)
  refine q_aload_n dX8_fails_0 rfl ?_
  refine q_geti (j := 29) dX8_fails_1 fl_8_182 rfl rfl rfl ?_
  rw [a3]
  refine q_if_ne (tgt := 20) dX8_fails_4 rfl (by (first | (unfold zR; omega) | (unfold zLR; omega) | omega | (simp only [zR, qup] at *; omega) | (simp [zR, qup]; omega) | (simp [zR, qup]; done))) (fun h4 => ?_) (fun h4 => absurd h4 (by exact a4))
  refine q_return dX8_fails_20 ?_
  exact ⟨rfl, h⟩
set_option maxHeartbeats 1500000 in
theorem m_failsP (h : PS M0 I n Lq σ M) (hc : c ≠ 0) (hz : zR c) : qCt mX8_fails 0 0 [.ref 37, .int (zI c)] M (qph (FS M0 Lq (c, tS I n σ.1))) := by
  obtain ⟨a1, a2, a3, a4, a5, a6, a7, a8, a9, a10, a11, a12⟩ := id h
  refine q_intro (own := 8) (L := [some (.ref 37), some (.int (zI c))]) md_X8_fails rfl rfl rfl (Nat.le_of_ble_eq_true rfl) (fun X => ?_)
  refine q_aload_n dX8_fails_0 rfl ?_
  refine q_geti (j := 29) dX8_fails_1 fl_8_182 rfl rfl rfl ?_
  rw [a5]
  refine q_if_ne (tgt := 20) dX8_fails_4 rfl (by (first | (unfold zR; omega) | (unfold zLR; omega) | omega | (simp only [zR, qup] at *; omega) | (simp [zR, qup]; omega) | (simp [zR, qup]; done))) (fun h4 => absurd h4 (by exact fun g => g rfl)) (fun h4 => ?_)
  refine q_aload_n dX8_fails_7 rfl ?_
  refine q_iload_n dX8_fails_8 rfl ?_
  refine q_puti (j := 29) dX8_fails_9 fl_8_182 rfl rfl rfl rfl rfl ?_
  refine q_aload_n dX8_fails_12 rfl ?_
  refine q_aload_n dX8_fails_13 rfl ?_
  refine q_geti (j := 26) dX8_fails_14 fl_8_167 rfl rfl rfl ?_
  rw [qup_k _ _ _ (by decide), a8]
  refine q_puti (j := 30) dX8_fails_17 fl_8_185 rfl rfl rfl rfl rfl ?_
  refine q_return dX8_fails_20 ?_
  exact ⟨rfl, FS_of h hc hz⟩
set_option maxHeartbeats 1500000 in
theorem m_failsIfF (h : FS M0 Lq e M) (hq : q = 0 ∨ q = 1) : qCt mX8_failsIf 0 1 [.ref 37, .int (zI q), .int (zI c)] M (qph (FS M0 Lq e)) := by
  refine q_intro (own := 8) (L := [some (.ref 37), some (.int (zI q)), some (.int (zI c))]) md_X8_failsIf rfl rfl rfl (Nat.le_of_ble_eq_true rfl) (fun X => ?_)
  refine q_iload_n dX8_failsIf_0 rfl ?_
  refine q_if_eq (tgt := 9) dX8_failsIf_1 rfl (by (first | (unfold zR; omega) | (unfold zLR; omega) | omega | (simp only [zR, qup] at *; omega) | (simp [zR, qup]; omega) | (simp [zR, qup]; done))) (fun h1 => ?_) (fun h1 => ?_)
  ·
    refine q_return dX8_failsIf_9 ?_
    exact ⟨rfl, h⟩
  ·
    refine q_aload_n dX8_failsIf_4 rfl ?_
    refine q_iload_n dX8_failsIf_5 rfl ?_
    refine q_V1 dX8_failsIf_6 ml_8_188 md_X8_fails (m_failsF h) rfl rfl rfl (by first | decide | omega) (Nat.le_of_ble_eq_true rfl) (Nat.le_of_ble_eq_true rfl) (qk_h (fun N6 hq6 => ?_))
    refine q_return dX8_failsIf_9 ?_
    exact ⟨rfl, hq6⟩
set_option maxHeartbeats 1500000 in
theorem m_failsIf0 : qCt mX8_failsIf 0 1 [.ref 37, .int (zI 0), .int (zI c)] M (qpv M) := by
  refine q_intro (own := 8) (L := [some (.ref 37), some (.int (zI 0)), some (.int (zI c))]) md_X8_failsIf rfl rfl rfl (Nat.le_of_ble_eq_true rfl) (fun X => ?_)
  refine q_iload_n dX8_failsIf_0 rfl ?_
  refine q_if_eq (tgt := 9) dX8_failsIf_1 rfl (by (first | (unfold zR; omega) | (unfold zLR; omega) | omega | (simp only [zR, qup] at *; omega) | (simp [zR, qup]; omega) | (simp [zR, qup]; done))) (fun h1 => ?_) (fun h1 => absurd h1 (by exact fun g => g rfl))
  refine q_return dX8_failsIf_9 ?_
  exact ⟨rfl, rfl⟩
set_option maxHeartbeats 1500000 in
theorem m_failsIf1 (h : PS M0 I n Lq σ M) (hc : c ≠ 0) (hz : zR c) : qCt mX8_failsIf 0 1 [.ref 37, .int (zI 1), .int (zI c)] M (qph (FS M0 Lq (c, tS I n σ.1))) := by
  refine q_intro (own := 8) (L := [some (.ref 37), some (.int (zI 1)), some (.int (zI c))]) md_X8_failsIf rfl rfl rfl (Nat.le_of_ble_eq_true rfl) (fun X => ?_)
  refine q_iload_n dX8_failsIf_0 rfl ?_
  refine q_if_eq (tgt := 9) dX8_failsIf_1 rfl (by (first | (unfold zR; omega) | (unfold zLR; omega) | omega | (simp only [zR, qup] at *; omega) | (simp [zR, qup]; omega) | (simp [zR, qup]; done))) (fun h1 => absurd h1 (by decide)) (fun h1 => ?_)
  refine q_aload_n dX8_failsIf_4 rfl ?_
  refine q_iload_n dX8_failsIf_5 rfl ?_
  refine q_V1 dX8_failsIf_6 ml_8_188 md_X8_fails (m_failsP h hc hz) rfl rfl rfl (by first | decide | omega) (Nat.le_of_ble_eq_true rfl) (Nat.le_of_ble_eq_true rfl) (qk_h (fun N6 hq6 => ?_))
  refine q_return dX8_failsIf_9 ?_
  exact ⟨rfl, hq6⟩
set_option maxHeartbeats 1500000 in
theorem m_takesMapF (h : FS M0 Lq e M) : qCt mX8_takesMap 0 3 [.ref 37] M (qpg (fun z M' => z = 0 ∧ FS M0 Lq e M')) := by
  obtain ⟨a1, a2, a3, a4, a5, a6, a7, a8⟩ := id h
  refine q_intro (own := 8) (L := [some (.ref 37), none]) md_X8_takesMap rfl rfl rfl (Nat.le_of_ble_eq_true rfl) (fun X => ?_)
  refine q_aload_n dX8_takesMap_0 rfl ?_
  refine q_aload_n dX8_takesMap_1 rfl ?_
  refine q_geti (j := 27) dX8_takesMap_2 fl_8_170 rfl rfl rfl ?_
  refine q_iconst dX8_takesMap_5 ?_
  refine q_icmp_eq (tgt := 13) dX8_takesMap_6 rfl (by (first | (unfold zR; omega) | (unfold zLR; omega) | omega | (simp only [zR, qup] at *; omega) | (simp [zR, qup]; omega) | (simp [zR, qup]; done))) (by (first | (unfold zR; omega) | (unfold zLR; omega) | omega | (simp only [zR, qup] at *; omega) | (simp [zR, qup]; omega) | (simp [zR, qup]; done))) (fun h6 => ?_) (fun h6 => ?_)
  ·
    refine q_iconst dX8_takesMap_13 ?_
    refine q_iconst dX8_takesMap_14 ?_
    refine q_V2 dX8_takesMap_15 ml_8_215 md_X8_failsIf (m_failsIfF h (by first | exact Or.inl rfl | exact Or.inr rfl)) rfl rfl rfl (by first | decide | omega) (Nat.le_of_ble_eq_true rfl) (Nat.le_of_ble_eq_true rfl) (qk_h (fun N15 hq15 => ?_))
    obtain ⟨b1, b2, b3, b4, b5, b6⟩ := id hq15
    refine q_aload_n dX8_takesMap_18 rfl ?_
    refine q_geti (j := 29) dX8_takesMap_19 fl_8_182 rfl rfl rfl ?_
    rw [b3]
    refine q_if_ne (tgt := 32) dX8_takesMap_22 rfl (by (first | (unfold zR; omega) | (unfold zLR; omega) | omega | (simp only [zR, qup] at *; omega) | (simp [zR, qup]; omega) | (simp [zR, qup]; done))) (fun h22 => ?_) (fun h22 => absurd h22 (by exact b4))
    refine q_iconst dX8_takesMap_32 ?_
    refine q_istore_n dX8_takesMap_33 (Nat.le_of_ble_eq_true rfl) rfl ?_
    refine q_aload_n dX8_takesMap_34 rfl ?_
    refine q_iload_n dX8_takesMap_35 rfl ?_
    refine q_iconst dX8_takesMap_36 ?_
    refine q_icmp_ne (tgt := 44) dX8_takesMap_37 rfl (by (first | (unfold zR; omega) | (unfold zLR; omega) | omega | (simp only [zR, qup] at *; omega) | (simp [zR, qup]; omega) | (simp [zR, qup]; done))) (by (first | (unfold zR; omega) | (unfold zLR; omega) | omega | (simp only [zR, qup] at *; omega) | (simp [zR, qup]; omega) | (simp [zR, qup]; done))) (fun h37 => absurd h37 (by exact fun g => g rfl)) (fun h37 => ?_)
    refine q_iconst dX8_takesMap_40 ?_
    refine q_goto (tgt := 45) dX8_takesMap_41 rfl ?_
    refine q_iconst dX8_takesMap_45 ?_
    refine q_V2 dX8_takesMap_46 ml_8_215 md_X8_failsIf (m_failsIfF hq15 (by first | exact Or.inl rfl | exact Or.inr rfl)) rfl rfl rfl (by first | decide | omega) (Nat.le_of_ble_eq_true rfl) (Nat.le_of_ble_eq_true rfl) (qk_h (fun N46 hq46 => ?_))
    refine q_aload_n dX8_takesMap_49 rfl ?_
    refine q_V0 dX8_takesMap_50 ml_8_205 md_X8_goesOn (m_goesOnF hq46) rfl rfl rfl (by first | decide | omega) (Nat.le_of_ble_eq_true rfl) (Nat.le_of_ble_eq_true rfl) (qk_h (fun N50 hq50 => ?_))
    obtain ⟨d1, d2, d3, d4, d5, d6⟩ := id hq50
    refine q_aload_n dX8_takesMap_53 rfl ?_
    refine q_geti (j := 29) dX8_takesMap_54 fl_8_182 rfl rfl rfl ?_
    rw [d3]
    refine q_if_ne (tgt := 64) dX8_takesMap_57 rfl (by (first | (unfold zR; omega) | (unfold zLR; omega) | omega | (simp only [zR, qup] at *; omega) | (simp [zR, qup]; omega) | (simp [zR, qup]; done))) (fun h57 => ?_) (fun h57 => absurd h57 (by exact d4))
    refine q_iconst dX8_takesMap_64 ?_
    refine q_ireturn dX8_takesMap_65 ?_
    exact ⟨0, rfl, rfl, hq50⟩
  ·
    refine q_iconst dX8_takesMap_9 ?_
    refine q_goto (tgt := 14) dX8_takesMap_10 rfl ?_
    refine q_iconst dX8_takesMap_14 ?_
    refine q_V2 dX8_takesMap_15 ml_8_215 md_X8_failsIf (m_failsIfF h (by first | exact Or.inl rfl | exact Or.inr rfl)) rfl rfl rfl (by first | decide | omega) (Nat.le_of_ble_eq_true rfl) (Nat.le_of_ble_eq_true rfl) (qk_h (fun N15 hq15 => ?_))
    obtain ⟨b1, b2, b3, b4, b5, b6⟩ := id hq15
    refine q_aload_n dX8_takesMap_18 rfl ?_
    refine q_geti (j := 29) dX8_takesMap_19 fl_8_182 rfl rfl rfl ?_
    rw [b3]
    refine q_if_ne (tgt := 32) dX8_takesMap_22 rfl (by (first | (unfold zR; omega) | (unfold zLR; omega) | omega | (simp only [zR, qup] at *; omega) | (simp [zR, qup]; omega) | (simp [zR, qup]; done))) (fun h22 => ?_) (fun h22 => absurd h22 (by exact b4))
    refine q_iconst dX8_takesMap_32 ?_
    refine q_istore_n dX8_takesMap_33 (Nat.le_of_ble_eq_true rfl) rfl ?_
    refine q_aload_n dX8_takesMap_34 rfl ?_
    refine q_iload_n dX8_takesMap_35 rfl ?_
    refine q_iconst dX8_takesMap_36 ?_
    refine q_icmp_ne (tgt := 44) dX8_takesMap_37 rfl (by (first | (unfold zR; omega) | (unfold zLR; omega) | omega | (simp only [zR, qup] at *; omega) | (simp [zR, qup]; omega) | (simp [zR, qup]; done))) (by (first | (unfold zR; omega) | (unfold zLR; omega) | omega | (simp only [zR, qup] at *; omega) | (simp [zR, qup]; omega) | (simp [zR, qup]; done))) (fun h37 => absurd h37 (by exact fun g => g rfl)) (fun h37 => ?_)
    refine q_iconst dX8_takesMap_40 ?_
    refine q_goto (tgt := 45) dX8_takesMap_41 rfl ?_
    refine q_iconst dX8_takesMap_45 ?_
    refine q_V2 dX8_takesMap_46 ml_8_215 md_X8_failsIf (m_failsIfF hq15 (by first | exact Or.inl rfl | exact Or.inr rfl)) rfl rfl rfl (by first | decide | omega) (Nat.le_of_ble_eq_true rfl) (Nat.le_of_ble_eq_true rfl) (qk_h (fun N46 hq46 => ?_))
    refine q_aload_n dX8_takesMap_49 rfl ?_
    refine q_V0 dX8_takesMap_50 ml_8_205 md_X8_goesOn (m_goesOnF hq46) rfl rfl rfl (by first | decide | omega) (Nat.le_of_ble_eq_true rfl) (Nat.le_of_ble_eq_true rfl) (qk_h (fun N50 hq50 => ?_))
    obtain ⟨d1, d2, d3, d4, d5, d6⟩ := id hq50
    refine q_aload_n dX8_takesMap_53 rfl ?_
    refine q_geti (j := 29) dX8_takesMap_54 fl_8_182 rfl rfl rfl ?_
    rw [d3]
    refine q_if_ne (tgt := 64) dX8_takesMap_57 rfl (by (first | (unfold zR; omega) | (unfold zLR; omega) | omega | (simp only [zR, qup] at *; omega) | (simp [zR, qup]; omega) | (simp [zR, qup]; done))) (fun h57 => ?_) (fun h57 => absurd h57 (by exact d4))
    refine q_iconst dX8_takesMap_64 ?_
    refine q_ireturn dX8_takesMap_65 ?_
    exact ⟨0, rfl, rfl, hq50⟩
set_option maxHeartbeats 1500000 in
theorem m_takesMapP (h : PS M0 I n Lq σ M) : qCt mX8_takesMap 0 3 [.ref 37] M (qpg (fun z M' => (∃ e, FS M0 Lq e M' ∧ z = 0 ∧ ∀ k, tMap I n σ.2.2.1 σ.2.1 σ.1 k = .inl e) ∨ (PS M0 I n Lq (tE I n σ.1, σ.2) M' ∧ (0 ≤ z ∧ z < σ.2.1) ∧ ∀ k, tMap I n σ.2.2.1 σ.2.1 σ.1 k = k z (tE I n σ.1)))) := by
  obtain ⟨a1, a2, a3, a4, a5, a6, a7, a8, a9, a10, a11, a12, a13, a14, a15⟩ := id h
  have hE := tE_in (I := I) a6.2
  have hS := tS_in (I := I) a6.2
  have hk := tK_in I n σ.1
  refine q_intro (own := 8) (L := [some (.ref 37), none]) md_X8_takesMap rfl rfl rfl (Nat.le_of_ble_eq_true rfl) (fun X => ?_)
  refine q_aload_n dX8_takesMap_0 rfl ?_
  refine q_aload_n dX8_takesMap_1 rfl ?_
  refine q_geti (j := 27) dX8_takesMap_2 fl_8_170 rfl rfl rfl ?_
  refine q_iconst dX8_takesMap_5 ?_
  rw [a9]
  refine q_icmp_eq (tgt := 13) dX8_takesMap_6 rfl (by (first | (unfold zR; omega) | (unfold zLR; omega) | omega | (simp only [zR, qup] at *; omega) | (simp [zR, qup]; omega) | (simp [zR, qup]; done))) (by (first | (unfold zR; omega) | (unfold zLR; omega) | omega | (simp only [zR, qup] at *; omega) | (simp [zR, qup]; omega) | (simp [zR, qup]; done))) (fun h6 => ?_) (fun h6 => ?_)
  ·
    refine q_iconst dX8_takesMap_13 ?_
    refine q_iconst dX8_takesMap_14 ?_
    obtain ⟨w1, w2, w3⟩ := word_tok a6.2 h6
    have hmn := mn_in σ.2.2.1 (tV I n σ.1) σ.2.1.toNat
    refine q_V2 dX8_takesMap_15 ml_8_215 md_X8_failsIf m_failsIf0 rfl rfl rfl (by first | decide | omega) (Nat.le_of_ble_eq_true rfl) (Nat.le_of_ble_eq_true rfl) (qk_v ?_)
    refine q_aload_n dX8_takesMap_18 rfl ?_
    refine q_geti (j := 29) dX8_takesMap_19 fl_8_182 rfl rfl rfl ?_
    rw [a5]
    refine q_if_ne (tgt := 32) dX8_takesMap_22 rfl (by (first | (unfold zR; omega) | (unfold zLR; omega) | omega | (simp only [zR, qup] at *; omega) | (simp [zR, qup]; omega) | (simp [zR, qup]; done))) (fun h22 => absurd h22 (by exact fun g => g rfl)) (fun h22 => ?_)
    refine q_aload_n dX8_takesMap_25 rfl ?_
    refine q_V0 dX8_takesMap_26 ml_8_219 md_X8_named (m_named (N := σ.2.2.1) a2 a12 a13 a8 a7 ⟨by omega, by omega⟩ w1 w2 a14) rfl rfl rfl (by first | decide | omega) (Nat.le_of_ble_eq_true rfl) (Nat.le_of_ble_eq_true rfl) (qk_e ?_)
    refine q_goto (tgt := 33) dX8_takesMap_29 rfl ?_
    rw [← w3]
    have htm : ∀ k, tMap I n σ.2.2.1 σ.2.1 σ.1 k = if mn σ.2.2.1 (tV I n σ.1) σ.2.1.toNat = -1 then flS I n 3 σ.1 else k (mn σ.2.2.1 (tV I n σ.1) σ.2.1.toNat) (tE I n σ.1) := fun k => by unfold tMap; rw [if_neg (fun g => g h6)]
    generalize mn σ.2.2.1 (tV I n σ.1) σ.2.1.toNat = z at hmn htm
    refine q_istore_n dX8_takesMap_33 (Nat.le_of_ble_eq_true rfl) rfl ?_
    refine q_aload_n dX8_takesMap_34 rfl ?_
    refine q_iload_n dX8_takesMap_35 rfl ?_
    refine q_iconst dX8_takesMap_36 ?_
    refine q_icmp_ne (tgt := 44) dX8_takesMap_37 rfl (by (first | (unfold zR; omega) | (unfold zLR; omega) | omega | (simp only [zR, qup] at *; omega) | (simp [zR, qup]; omega) | (simp [zR, qup]; done))) (by (first | (unfold zR; omega) | (unfold zLR; omega) | omega | (simp only [zR, qup] at *; omega) | (simp [zR, qup]; omega) | (simp [zR, qup]; done))) (fun h37 => ?_) (fun h37 => ?_)
    ·
      refine q_iconst dX8_takesMap_44 ?_
      refine q_iconst dX8_takesMap_45 ?_
      skip
      refine q_V2 dX8_takesMap_46 ml_8_215 md_X8_failsIf m_failsIf0 rfl rfl rfl (by first | decide | omega) (Nat.le_of_ble_eq_true rfl) (Nat.le_of_ble_eq_true rfl) (qk_v ?_)
      refine q_aload_n dX8_takesMap_49 rfl ?_
      refine q_V0 dX8_takesMap_50 ml_8_205 md_X8_goesOn (m_goesOnP h) rfl rfl rfl (by first | decide | omega) (Nat.le_of_ble_eq_true rfl) (Nat.le_of_ble_eq_true rfl) (qk_h (fun N50 hq50 => ?_))
      refine q_aload_n dX8_takesMap_53 rfl ?_
      refine q_geti (j := 29) dX8_takesMap_54 fl_8_182 rfl rfl rfl ?_
      rw [hq50.2.2.2.2.1]
      refine q_if_ne (tgt := 64) dX8_takesMap_57 rfl (by (first | (unfold zR; omega) | (unfold zLR; omega) | omega | (simp only [zR, qup] at *; omega) | (simp [zR, qup]; omega) | (simp [zR, qup]; done))) (fun h57 => absurd h57 (by exact fun g => g rfl)) (fun h57 => ?_)
      refine q_iload_n dX8_takesMap_60 rfl ?_
      refine q_goto (tgt := 65) dX8_takesMap_61 rfl ?_
      refine q_ireturn dX8_takesMap_65 ?_
      exact ⟨z, rfl, Or.inr ⟨hq50, by omega, fun k => by rw [htm, if_neg h37]⟩⟩
    ·
      refine q_iconst dX8_takesMap_40 ?_
      refine q_goto (tgt := 45) dX8_takesMap_41 rfl ?_
      refine q_iconst dX8_takesMap_45 ?_
      skip
      refine q_V2 dX8_takesMap_46 ml_8_215 md_X8_failsIf (m_failsIf1 h (by decide) (by (first | (unfold zR; omega) | (unfold zLR; omega) | omega | (simp only [zR, qup] at *; omega) | (simp [zR, qup]; omega) | (simp [zR, qup]; done)))) rfl rfl rfl (by first | decide | omega) (Nat.le_of_ble_eq_true rfl) (Nat.le_of_ble_eq_true rfl) (qk_h (fun N46 hq46 => ?_))
      refine q_aload_n dX8_takesMap_49 rfl ?_
      refine q_V0 dX8_takesMap_50 ml_8_205 md_X8_goesOn (m_goesOnF hq46) rfl rfl rfl (by first | decide | omega) (Nat.le_of_ble_eq_true rfl) (Nat.le_of_ble_eq_true rfl) (qk_h (fun N50 hq50 => ?_))
      refine q_aload_n dX8_takesMap_53 rfl ?_
      refine q_geti (j := 29) dX8_takesMap_54 fl_8_182 rfl rfl rfl ?_
      rw [hq50.2.2.1]
      refine q_if_ne (tgt := 64) dX8_takesMap_57 rfl (by (first | (unfold zR; omega) | (unfold zLR; omega) | omega | (simp only [zR, qup] at *; omega) | (simp [zR, qup]; omega) | (simp [zR, qup]; done))) (fun h57 => ?_) (fun h57 => absurd h57 (by exact hq50.2.2.2.1))
      refine q_iconst dX8_takesMap_64 ?_
      refine q_ireturn dX8_takesMap_65 ?_
      exact ⟨0, rfl, Or.inl ⟨_, hq50, rfl, fun k => by rw [htm, if_pos (by omega)]; rfl⟩⟩
  ·
    refine q_iconst dX8_takesMap_9 ?_
    refine q_goto (tgt := 14) dX8_takesMap_10 rfl ?_
    refine q_iconst dX8_takesMap_14 ?_
    skip
    refine q_V2 dX8_takesMap_15 ml_8_215 md_X8_failsIf (m_failsIf1 h (by decide) (by (first | (unfold zR; omega) | (unfold zLR; omega) | omega | (simp only [zR, qup] at *; omega) | (simp [zR, qup]; omega) | (simp [zR, qup]; done)))) rfl rfl rfl (by first | decide | omega) (Nat.le_of_ble_eq_true rfl) (Nat.le_of_ble_eq_true rfl) (qk_h (fun N15 hq15 => ?_))
    refine q_aload_n dX8_takesMap_18 rfl ?_
    refine q_geti (j := 29) dX8_takesMap_19 fl_8_182 rfl rfl rfl ?_
    rw [hq15.2.2.1]
    refine q_if_ne (tgt := 32) dX8_takesMap_22 rfl (by (first | (unfold zR; omega) | (unfold zLR; omega) | omega | (simp only [zR, qup] at *; omega) | (simp [zR, qup]; omega) | (simp [zR, qup]; done))) (fun h22 => ?_) (fun h22 => absurd h22 (by exact hq15.2.2.2.1))
    refine q_iconst dX8_takesMap_32 ?_
    refine q_istore_n dX8_takesMap_33 (Nat.le_of_ble_eq_true rfl) rfl ?_
    refine q_aload_n dX8_takesMap_34 rfl ?_
    refine q_iload_n dX8_takesMap_35 rfl ?_
    refine q_iconst dX8_takesMap_36 ?_
    refine q_icmp_ne (tgt := 44) dX8_takesMap_37 rfl (by (first | (unfold zR; omega) | (unfold zLR; omega) | omega | (simp only [zR, qup] at *; omega) | (simp [zR, qup]; omega) | (simp [zR, qup]; done))) (by (first | (unfold zR; omega) | (unfold zLR; omega) | omega | (simp only [zR, qup] at *; omega) | (simp [zR, qup]; omega) | (simp [zR, qup]; done))) (fun h37 => absurd h37 (by exact fun g => g rfl)) (fun h37 => ?_)
    refine q_iconst dX8_takesMap_40 ?_
    refine q_goto (tgt := 45) dX8_takesMap_41 rfl ?_
    refine q_iconst dX8_takesMap_45 ?_
    refine q_V2 dX8_takesMap_46 ml_8_215 md_X8_failsIf (m_failsIfF hq15 (by first | exact Or.inl rfl | exact Or.inr rfl)) rfl rfl rfl (by first | decide | omega) (Nat.le_of_ble_eq_true rfl) (Nat.le_of_ble_eq_true rfl) (qk_h (fun N46 hq46 => ?_))
    refine q_aload_n dX8_takesMap_49 rfl ?_
    refine q_V0 dX8_takesMap_50 ml_8_205 md_X8_goesOn (m_goesOnF hq46) rfl rfl rfl (by first | decide | omega) (Nat.le_of_ble_eq_true rfl) (Nat.le_of_ble_eq_true rfl) (qk_h (fun N50 hq50 => ?_))
    refine q_aload_n dX8_takesMap_53 rfl ?_
    refine q_geti (j := 29) dX8_takesMap_54 fl_8_182 rfl rfl rfl ?_
    rw [hq50.2.2.1]
    refine q_if_ne (tgt := 64) dX8_takesMap_57 rfl (by (first | (unfold zR; omega) | (unfold zLR; omega) | omega | (simp only [zR, qup] at *; omega) | (simp [zR, qup]; omega) | (simp [zR, qup]; done))) (fun h57 => ?_) (fun h57 => absurd h57 (by exact hq50.2.2.2.1))
    refine q_iconst dX8_takesMap_64 ?_
    refine q_ireturn dX8_takesMap_65 ?_
    exact ⟨0, rfl, Or.inl ⟨_, hq50, rfl, fun k => by unfold tMap; rw [if_pos h6]; rfl⟩⟩
set_option maxHeartbeats 1500000 in
theorem m_numberHereF (h : FS M0 Lq e M) (hl : zR least) (hm : zR most) : qCt mX8_numberHere 0 1 [.ref 37, .int (zI least), .int (zI most)] M (qpg (fun z M' => z = least ∧ FS M0 Lq e M')) := by
  obtain ⟨a1, a2, a3, a4, a5, a6, a7, a8, a9⟩ := id h
  refine q_intro (own := 8) (L := [some (.ref 37), some (.int (zI least)), some (.int (zI most))]) md_X8_numberHere rfl rfl rfl (Nat.le_of_ble_eq_true rfl) (fun X => ?_)
  refine q_aload_n dX8_numberHere_0 rfl ?_
  refine q_geti (j := 27) dX8_numberHere_1 fl_8_170 rfl rfl rfl ?_
  refine q_iconst dX8_numberHere_4 ?_
  refine q_icmp_eq (tgt := 16) dX8_numberHere_5 rfl (by (first | (unfold zR; omega) | (unfold zLR; omega) | omega | (simp only [zR, qup] at *; omega) | (simp [zR, qup]; omega) | (simp [zR, qup]; done))) (by (first | (unfold zR; omega) | (unfold zLR; omega) | omega | (simp only [zR, qup] at *; omega) | (simp [zR, qup]; omega) | (simp [zR, qup]; done))) (fun h5 => ?_) (fun h5 => ?_)
  ·
    refine q_aload_n dX8_numberHere_16 rfl ?_
    refine q_geti (j := 28) dX8_numberHere_17 fl_8_179 rfl rfl rfl ?_
    refine q_iload_n dX8_numberHere_20 rfl ?_
    refine q_iload_n dX8_numberHere_21 rfl ?_
    refine q_S3 dX8_numberHere_22 ml_8_71 md_X8_in (m_in (a8 h5) hl hm) rfl (by first | decide | omega) (Nat.le_of_ble_eq_true rfl) (Nat.le_of_ble_eq_true rfl) (qk_e ?_)
    refine q_if_ne (tgt := 33) dX8_numberHere_25 rfl (by exact zb_R _) (fun h25 => ?_) (fun h25 => ?_)
    ·
      refine q_aload_n dX8_numberHere_33 rfl ?_
      refine q_geti (j := 29) dX8_numberHere_34 fl_8_182 rfl rfl rfl ?_
      rw [a3]
      refine q_if_eq (tgt := 44) dX8_numberHere_37 rfl (by (first | (unfold zR; omega) | (unfold zLR; omega) | omega | (simp only [zR, qup] at *; omega) | (simp [zR, qup]; omega) | (simp [zR, qup]; done))) (fun h37 => absurd h37 (by exact a4)) (fun h37 => ?_)
      refine q_iload_n dX8_numberHere_40 rfl ?_
      refine q_goto (tgt := 48) dX8_numberHere_41 rfl ?_
      refine q_ireturn dX8_numberHere_48 ?_
      exact ⟨least, rfl, rfl, h⟩
    ·
      refine q_aload_n dX8_numberHere_28 rfl ?_
      refine q_iconst dX8_numberHere_29 ?_
      refine q_V1 dX8_numberHere_30 ml_8_188 md_X8_fails (m_failsF h) rfl rfl rfl (by first | decide | omega) (Nat.le_of_ble_eq_true rfl) (Nat.le_of_ble_eq_true rfl) (qk_h (fun N30 hq30 => ?_))
      refine q_aload_n dX8_numberHere_33 rfl ?_
      refine q_geti (j := 29) dX8_numberHere_34 fl_8_182 rfl rfl rfl ?_
      rw [hq30.2.2.1]
      refine q_if_eq (tgt := 44) dX8_numberHere_37 rfl (by (first | (unfold zR; omega) | (unfold zLR; omega) | omega | (simp only [zR, qup] at *; omega) | (simp [zR, qup]; omega) | (simp [zR, qup]; done))) (fun h37 => absurd h37 (by exact a4)) (fun h37 => ?_)
      refine q_iload_n dX8_numberHere_40 rfl ?_
      refine q_goto (tgt := 48) dX8_numberHere_41 rfl ?_
      refine q_ireturn dX8_numberHere_48 ?_
      exact ⟨least, rfl, rfl, hq30⟩
  ·
    refine q_aload_n dX8_numberHere_8 rfl ?_
    refine q_iconst dX8_numberHere_9 ?_
    refine q_V1 dX8_numberHere_10 ml_8_188 md_X8_fails (m_failsF h) rfl rfl rfl (by first | decide | omega) (Nat.le_of_ble_eq_true rfl) (Nat.le_of_ble_eq_true rfl) (qk_h (fun N10 hq10 => ?_))
    refine q_goto (tgt := 33) dX8_numberHere_13 rfl ?_
    refine q_aload_n dX8_numberHere_33 rfl ?_
    refine q_geti (j := 29) dX8_numberHere_34 fl_8_182 rfl rfl rfl ?_
    rw [hq10.2.2.1]
    refine q_if_eq (tgt := 44) dX8_numberHere_37 rfl (by (first | (unfold zR; omega) | (unfold zLR; omega) | omega | (simp only [zR, qup] at *; omega) | (simp [zR, qup]; omega) | (simp [zR, qup]; done))) (fun h37 => absurd h37 (by exact a4)) (fun h37 => ?_)
    refine q_iload_n dX8_numberHere_40 rfl ?_
    refine q_goto (tgt := 48) dX8_numberHere_41 rfl ?_
    refine q_ireturn dX8_numberHere_48 ?_
    exact ⟨least, rfl, rfl, hq10⟩
set_option maxHeartbeats 1500000 in
theorem m_numberHereP (h : PS M0 I n Lq σ M) (hl : zR least) (hm : zR most) : qCt mX8_numberHere 0 1 [.ref 37, .int (zI least), .int (zI most)] M (qpg (fun z M' => (∃ e, FS M0 Lq e M' ∧ z = least ∧ ∀ k, tNum I n least most σ.1 k = .inl e) ∨ (PS M0 I n Lq σ M' ∧ tK I n σ.1 = 2 ∧ z = tV I n σ.1 ∧ (least ≤ z ∧ z ≤ most) ∧ ∀ k, tNum I n least most σ.1 k = k z (tE I n σ.1)))) := by
  obtain ⟨a1, a2, a3, a4, a5, a6, a7, a8, a9, a10, a11, a12⟩ := id h
  have hk := tK_in I n σ.1
  refine q_intro (own := 8) (L := [some (.ref 37), some (.int (zI least)), some (.int (zI most))]) md_X8_numberHere rfl rfl rfl (Nat.le_of_ble_eq_true rfl) (fun X => ?_)
  refine q_aload_n dX8_numberHere_0 rfl ?_
  refine q_geti (j := 27) dX8_numberHere_1 fl_8_170 rfl rfl rfl ?_
  refine q_iconst dX8_numberHere_4 ?_
  rw [a9]
  refine q_icmp_eq (tgt := 16) dX8_numberHere_5 rfl (by (first | (unfold zR; omega) | (unfold zLR; omega) | omega | (simp only [zR, qup] at *; omega) | (simp [zR, qup]; omega) | (simp [zR, qup]; done))) (by (first | (unfold zR; omega) | (unfold zLR; omega) | omega | (simp only [zR, qup] at *; omega) | (simp [zR, qup]; omega) | (simp [zR, qup]; done))) (fun h5 => ?_) (fun h5 => ?_)
  ·
    refine q_aload_n dX8_numberHere_16 rfl ?_
    refine q_geti (j := 28) dX8_numberHere_17 fl_8_179 rfl rfl rfl ?_
    rw [a10 h5]
    have hvr : zR (tV I n σ.1) := by have h2 := a11 h5; rw [a10 h5] at h2; exact h2
    have htn : ∀ k, tNum I n least most σ.1 k = if tV I n σ.1 < least ∨ most < tV I n σ.1 then flS I n 2 σ.1 else k (tV I n σ.1) (tE I n σ.1) := fun k => by unfold tNum; rw [if_neg (fun g => g h5)]
    refine q_iload_n dX8_numberHere_20 rfl ?_
    refine q_iload_n dX8_numberHere_21 rfl ?_
    refine q_S3 dX8_numberHere_22 ml_8_71 md_X8_in (m_in hvr hl hm) rfl (by first | decide | omega) (Nat.le_of_ble_eq_true rfl) (Nat.le_of_ble_eq_true rfl) (qk_e ?_)
    refine q_if_ne (tgt := 33) dX8_numberHere_25 rfl (by exact zb_R _) (fun h25 => ?_) (fun h25 => ?_)
    ·
      have hin := zbp h25
      refine q_aload_n dX8_numberHere_33 rfl ?_
      refine q_geti (j := 29) dX8_numberHere_34 fl_8_182 rfl rfl rfl ?_
      rw [a5]
      refine q_if_eq (tgt := 44) dX8_numberHere_37 rfl (by (first | (unfold zR; omega) | (unfold zLR; omega) | omega | (simp only [zR, qup] at *; omega) | (simp [zR, qup]; omega) | (simp [zR, qup]; done))) (fun h37 => ?_) (fun h37 => absurd h37 (by exact fun g => g rfl))
      refine q_aload_n dX8_numberHere_44 rfl ?_
      refine q_geti (j := 28) dX8_numberHere_45 fl_8_179 rfl rfl rfl ?_
      rw [a10 h5]
      refine q_ireturn dX8_numberHere_48 ?_
      exact ⟨_, rfl, Or.inr ⟨h, h5, rfl, hin, fun k => by rw [htn, if_neg (by omega)]⟩⟩
    ·
      refine q_aload_n dX8_numberHere_28 rfl ?_
      refine q_iconst dX8_numberHere_29 ?_
      refine q_V1 dX8_numberHere_30 ml_8_188 md_X8_fails (m_failsP h (by decide) (by (first | (unfold zR; omega) | (unfold zLR; omega) | omega | (simp only [zR, qup] at *; omega) | (simp [zR, qup]; omega) | (simp [zR, qup]; done)))) rfl rfl rfl (by first | decide | omega) (Nat.le_of_ble_eq_true rfl) (Nat.le_of_ble_eq_true rfl) (qk_h (fun N30 hq30 => ?_))
      have hin := zb_0.1 h25
      refine q_aload_n dX8_numberHere_33 rfl ?_
      refine q_geti (j := 29) dX8_numberHere_34 fl_8_182 rfl rfl rfl ?_
      rw [hq30.2.2.1]
      refine q_if_eq (tgt := 44) dX8_numberHere_37 rfl (by (first | (unfold zR; omega) | (unfold zLR; omega) | omega | (simp only [zR, qup] at *; omega) | (simp [zR, qup]; omega) | (simp [zR, qup]; done))) (fun h37 => absurd h37 (by show ¬ (2 : Int) = 0; decide)) (fun h37 => ?_)
      refine q_iload_n dX8_numberHere_40 rfl ?_
      refine q_goto (tgt := 48) dX8_numberHere_41 rfl ?_
      refine q_ireturn dX8_numberHere_48 ?_
      exact ⟨_, rfl, Or.inl ⟨_, hq30, rfl, fun k => by rw [htn, if_pos (by omega)]; rfl⟩⟩
  ·
    refine q_aload_n dX8_numberHere_8 rfl ?_
    refine q_iconst dX8_numberHere_9 ?_
    refine q_V1 dX8_numberHere_10 ml_8_188 md_X8_fails (m_failsP h (by decide) (by (first | (unfold zR; omega) | (unfold zLR; omega) | omega | (simp only [zR, qup] at *; omega) | (simp [zR, qup]; omega) | (simp [zR, qup]; done)))) rfl rfl rfl (by first | decide | omega) (Nat.le_of_ble_eq_true rfl) (Nat.le_of_ble_eq_true rfl) (qk_h (fun N10 hq10 => ?_))
    refine q_goto (tgt := 33) dX8_numberHere_13 rfl ?_
    refine q_aload_n dX8_numberHere_33 rfl ?_
    refine q_geti (j := 29) dX8_numberHere_34 fl_8_182 rfl rfl rfl ?_
    rw [hq10.2.2.1]
    refine q_if_eq (tgt := 44) dX8_numberHere_37 rfl (by (first | (unfold zR; omega) | (unfold zLR; omega) | omega | (simp only [zR, qup] at *; omega) | (simp [zR, qup]; omega) | (simp [zR, qup]; done))) (fun h37 => absurd h37 (by show ¬ (1 : Int) = 0; decide)) (fun h37 => ?_)
    refine q_iload_n dX8_numberHere_40 rfl ?_
    refine q_goto (tgt := 48) dX8_numberHere_41 rfl ?_
    refine q_ireturn dX8_numberHere_48 ?_
    exact ⟨least, rfl, Or.inl ⟨_, hq10, rfl, fun k => by unfold tNum; rw [if_pos h5]; rfl⟩⟩
set_option maxHeartbeats 1500000 in
theorem m_takesF (h : FS M0 Lq e M) (hl : zR least) (hm : zR most) : qCt mX8_takes 0 3 [.ref 37, .int (zI least), .int (zI most)] M (qpg (fun z M' => z = least ∧ FS M0 Lq e M')) := by
  refine q_intro (own := 8) (L := [some (.ref 37), some (.int (zI least)), some (.int (zI most)), none]) md_X8_takes rfl rfl rfl (Nat.le_of_ble_eq_true rfl) (fun X => ?_)
  refine q_aload_n dX8_takes_0 rfl ?_
  refine q_iload_n dX8_takes_1 rfl ?_
  refine q_iload_n dX8_takes_2 rfl ?_
  refine q_V2 dX8_takes_3 ml_8_202 md_X8_numberHere (m_numberHereF h hl hm) rfl rfl rfl (by first | decide | omega) (Nat.le_of_ble_eq_true rfl) (Nat.le_of_ble_eq_true rfl) (qk_g (fun z3 N3 hq3 => ?_))
  refine q_istore_n dX8_takes_6 (Nat.le_of_ble_eq_true rfl) rfl ?_
  refine q_aload_n dX8_takes_7 rfl ?_
  refine q_V0 dX8_takes_8 ml_8_205 md_X8_goesOn (m_goesOnF hq3.2) rfl rfl rfl (by first | decide | omega) (Nat.le_of_ble_eq_true rfl) (Nat.le_of_ble_eq_true rfl) (qk_h (fun N8 hq8 => ?_))
  refine q_iload_n dX8_takes_11 rfl ?_
  refine q_ireturn dX8_takes_12 ?_
  exact ⟨_, rfl, hq3.1, hq8⟩
set_option maxHeartbeats 1500000 in
theorem m_takesP (h : PS M0 I n Lq σ M) (hl : zR least) (hm : zR most) : qCt mX8_takes 0 3 [.ref 37, .int (zI least), .int (zI most)] M (qpg (fun z M' => (∃ e, FS M0 Lq e M' ∧ z = least ∧ ∀ k, tNum I n least most σ.1 k = .inl e) ∨ (PS M0 I n Lq (tE I n σ.1, σ.2) M' ∧ (least ≤ z ∧ z ≤ most) ∧ ∀ k, tNum I n least most σ.1 k = k z (tE I n σ.1)))) := by
  refine q_intro (own := 8) (L := [some (.ref 37), some (.int (zI least)), some (.int (zI most)), none]) md_X8_takes rfl rfl rfl (Nat.le_of_ble_eq_true rfl) (fun X => ?_)
  refine q_aload_n dX8_takes_0 rfl ?_
  refine q_iload_n dX8_takes_1 rfl ?_
  refine q_iload_n dX8_takes_2 rfl ?_
  refine q_V2 dX8_takes_3 ml_8_202 md_X8_numberHere (m_numberHereP h hl hm) rfl rfl rfl (by first | decide | omega) (Nat.le_of_ble_eq_true rfl) (Nat.le_of_ble_eq_true rfl) (qk_g (fun z3 N3 hq3 => ?_))
  refine q_istore_n dX8_takes_6 (Nat.le_of_ble_eq_true rfl) rfl ?_
  rcases hq3 with ⟨e, g1, g2, g3⟩ | ⟨g1, g2, g3, g4, g5⟩
  · skip
    refine q_aload_n dX8_takes_7 rfl ?_
    refine q_V0 dX8_takes_8 ml_8_205 md_X8_goesOn (m_goesOnF g1) rfl rfl rfl (by first | decide | omega) (Nat.le_of_ble_eq_true rfl) (Nat.le_of_ble_eq_true rfl) (qk_h (fun N8 hq8 => ?_))
    refine q_iload_n dX8_takes_11 rfl ?_
    refine q_ireturn dX8_takes_12 ?_
    exact ⟨_, rfl, Or.inl ⟨e, hq8, g2, g3⟩⟩
  · skip
    refine q_aload_n dX8_takes_7 rfl ?_
    refine q_V0 dX8_takes_8 ml_8_205 md_X8_goesOn (m_goesOnP g1) rfl rfl rfl (by first | decide | omega) (Nat.le_of_ble_eq_true rfl) (Nat.le_of_ble_eq_true rfl) (qk_h (fun N8 hq8 => ?_))
    refine q_iload_n dX8_takes_11 rfl ?_
    refine q_ireturn dX8_takes_12 ?_
    exact ⟨_, rfl, Or.inr ⟨hq8, g4, g5⟩⟩
/-- what taking a map, a number does to the state -/
def tmR (I : Int → Int) (n : Int) (r r' : qρ) (z : Int) : Prop := match r with
  | .inl e => r' = .inl e ∧ z = 0
  | .inr σ => (∃ e, r' = .inl e ∧ z = 0 ∧ ∀ k, tMap I n σ.2.2.1 σ.2.1 σ.1 k = .inl e) ∨ (r' = .inr (tE I n σ.1, σ.2) ∧ (0 ≤ z ∧ z < σ.2.1) ∧ ∀ k, tMap I n σ.2.2.1 σ.2.1 σ.1 k = k z (tE I n σ.1))
def tnR (I : Int → Int) (n least most : Int) (r r' : qρ) (z : Int) : Prop := match r with
  | .inl e => r' = .inl e ∧ z = least
  | .inr σ => (∃ e, r' = .inl e ∧ z = least ∧ ∀ k, tNum I n least most σ.1 k = .inl e) ∨ (r' = .inr (tE I n σ.1, σ.2) ∧ (least ≤ z ∧ z ≤ most) ∧ ∀ k, tNum I n least most σ.1 k = k z (tE I n σ.1))
theorem m_takesMapX {r : qρ} (h : XS M0 I n Lq r M) : qCt mX8_takesMap 0 3 [.ref 37] M (qpg (fun z M' => ∃ r', XS M0 I n Lq r' M' ∧ tmR I n r r' z)) := by
  cases r with
  | inl e => exact qCt_mono (m_takesMapF h) (fun v M' w => by
      obtain ⟨z, hv, h1, h2⟩ := w
      exact ⟨z, hv, .inl e, h2, rfl, h1⟩) (fun _ _ w => w)
  | inr σ => exact qCt_mono (m_takesMapP h) (fun v M' w => by
      obtain ⟨z, hv, ⟨e, h1, h2, h3⟩ | ⟨h1, h2, h3⟩⟩ := w
      · exact ⟨z, hv, .inl e, h1, Or.inl ⟨e, rfl, h2, h3⟩⟩
      · exact ⟨z, hv, .inr _, h1, Or.inr ⟨rfl, h2, h3⟩⟩) (fun _ _ w => w)
theorem m_takesX {r : qρ} (h : XS M0 I n Lq r M) (hl : zR least) (hm : zR most) : qCt mX8_takes 0 3 [.ref 37, .int (zI least), .int (zI most)] M (qpg (fun z M' => ∃ r', XS M0 I n Lq r' M' ∧ tnR I n least most r r' z)) := by
  cases r with
  | inl e => exact qCt_mono (m_takesF h hl hm) (fun v M' w => by
      obtain ⟨z, hv, h1, h2⟩ := w
      exact ⟨z, hv, .inl e, h2, rfl, h1⟩) (fun _ _ w => w)
  | inr σ => exact qCt_mono (m_takesP h hl hm) (fun v M' w => by
      obtain ⟨z, hv, ⟨e, h1, h2, h3⟩ | ⟨h1, h2, h3⟩⟩ := w
      · exact ⟨z, hv, .inl e, h1, Or.inl ⟨e, rfl, h2, h3⟩⟩
      · exact ⟨z, hv, .inr _, h1, Or.inr ⟨rfl, h2, h3⟩⟩) (fun _ _ w => w)
end MPS


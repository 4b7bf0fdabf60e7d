/-! The model: its tokens. -/
def mlx (M : qM) (a f s u : Int) : qM := qup (qup (qup (qup M 37 25 a) 37 26 f) 37 27 s) 37 28 u
/-- the bytes I lie in the model's buffer -/
def inM (M : qM) (I : Int → Int) (n : Int) : Prop := 0 ≤ n ∧ n ≤ 700 ∧ ∀ i, 0 ≤ i → i < n → M 48 i = I i ∧ 0 ≤ I i ∧ I i < 256
section MLX
variable {M : qM} {I : Int → Int} {a f s u v n p c : Int}
theorem mlx_25 : mlx M a f s u 37 25 = a := by simp [mlx, qup]
theorem mlx_26 : mlx M a f s u 37 26 = f := by simp [mlx, qup]
theorem mlx_27 : mlx M a f s u 37 27 = s := by simp [mlx, qup]
theorem mlx_28 : mlx M a f s u 37 28 = u := by simp [mlx, qup]
theorem mlx_o {o : Nat} (h : o ≠ 37) : mlx M a f s u o = M o := by
  funext j
  unfold mlx
  rw [qup_o _ _ _ _ h, qup_o _ _ _ _ h, qup_o _ _ _ _ h, qup_o _ _ _ _ h]
theorem mlx_37 {k : Int} (h : k ≠ 25) (h2 : k ≠ 26) (h3 : k ≠ 27) (h4 : k ≠ 28) : mlx M a f s u 37 k = M 37 k := by
  unfold mlx
  rw [qup_k _ _ _ h4, qup_k _ _ _ h3, qup_k _ _ _ h2, qup_k _ _ _ h]
theorem mlx_ext {W : qM} (h1 : W 37 25 = a) (h2 : W 37 26 = f) (h3 : W 37 27 = s) (h4 : W 37 28 = u) (h5 : ∀ k, k ≠ 25 → k ≠ 26 → k ≠ 27 → k ≠ 28 → W 37 k = M 37 k) (h6 : ∀ o, o ≠ 37 → W o = M o) : W = mlx M a f s u := by
  funext o j
  by_cases g : o = 37
  · subst g
    by_cases g1 : j = 25
    · subst g1; rw [mlx_25]; exact h1
    · by_cases g2 : j = 26
      · subst g2; rw [mlx_26]; exact h2
      · by_cases g3 : j = 27
        · subst g3; rw [mlx_27]; exact h3
        · by_cases g4 : j = 28
          · subst g4; rw [mlx_28]; exact h4
          · rw [mlx_37 g1 g2 g3 g4]; exact h5 j g1 g2 g3 g4
  · rw [mlx_o g, h6 o g]
theorem mlx_id (M : qM) : M = mlx M (M 37 25) (M 37 26) (M 37 27) (M 37 28) := mlx_ext rfl rfl rfl rfl (fun _ _ _ _ _ => rfl) (fun _ _ => rfl)
theorem mlx_u25 : qup (mlx M a f s u) 37 25 v = mlx M v f s u := mlx_ext (qup_s _ _ _ _) (by rw [qup_k _ _ _ (by decide), mlx_26]) (by rw [qup_k _ _ _ (by decide), mlx_27]) (by rw [qup_k _ _ _ (by decide), mlx_28]) (fun k h1 h2 h3 h4 => by rw [qup_k _ _ _ h1, mlx_37 h1 h2 h3 h4]) (fun o h => by funext j; rw [qup_o _ _ _ _ h, mlx_o h])
theorem mlx_u26 : qup (mlx M a f s u) 37 26 v = mlx M a v s u := mlx_ext (by rw [qup_k _ _ _ (by decide), mlx_25]) (qup_s _ _ _ _) (by rw [qup_k _ _ _ (by decide), mlx_27]) (by rw [qup_k _ _ _ (by decide), mlx_28]) (fun k h1 h2 h3 h4 => by rw [qup_k _ _ _ h2, mlx_37 h1 h2 h3 h4]) (fun o h => by funext j; rw [qup_o _ _ _ _ h, mlx_o h])
theorem mlx_u27 : qup (mlx M a f s u) 37 27 v = mlx M a f v u := mlx_ext (by rw [qup_k _ _ _ (by decide), mlx_25]) (by rw [qup_k _ _ _ (by decide), mlx_26]) (qup_s _ _ _ _) (by rw [qup_k _ _ _ (by decide), mlx_28]) (fun k h1 h2 h3 h4 => by rw [qup_k _ _ _ h3, mlx_37 h1 h2 h3 h4]) (fun o h => by funext j; rw [qup_o _ _ _ _ h, mlx_o h])
theorem mlx_u28 : qup (mlx M a f s u) 37 28 v = mlx M a f s v := mlx_ext (by rw [qup_k _ _ _ (by decide), mlx_25]) (by rw [qup_k _ _ _ (by decide), mlx_26]) (by rw [qup_k _ _ _ (by decide), mlx_27]) (qup_s _ _ _ _) (fun k h1 h2 h3 h4 => by rw [qup_k _ _ _ h4, mlx_37 h1 h2 h3 h4]) (fun o h => by funext j; rw [qup_o _ _ _ _ h, mlx_o h])
theorem inM_lx (h : inM M I n) : inM (mlx M a f s u) I n := ⟨h.1, h.2.1, fun i i0 i1 => by rw [mlx_o (by decide)]; exact h.2.2 i i0 i1⟩
set_option maxHeartbeats 1500000 in
theorem m_isLetter (hc : zR c) : qCt mX8_isLetter 0 0 [.int (zI c)] M (qpe (zb (isLt c = true)) M) := by
  refine q_intro (own := 8) (L := [some (.int (zI c))]) md_X8_isLetter rfl rfl rfl (Nat.le_of_ble_eq_true rfl) (fun X => ?_)
  refine q_iload_n dX8_isLetter_0 rfl ?_
  refine q_bipush dX8_isLetter_1 rfl ?_
  refine q_icmp_lt (tgt := 16) dX8_isLetter_3 rfl (by exact hc) (by (first | (unfold zR; omega) | (unfold zLR; omega) | omega | (simp only [zR, qup] at *; omega) | (simp [zR, qup]; omega) | (simp [zR, qup]; done))) (fun h3 => ?_) (fun h3 => ?_)
  ·
    refine q_iconst dX8_isLetter_16 ?_
    refine q_zreturn (by first | exact Or.inl rfl | exact Or.inr rfl) dX8_isLetter_17 ?_
    exact ⟨by rw [zb_f (fun q => by have := isLt_i.mp q; omega)], rfl⟩
  ·
    refine q_iload_n dX8_isLetter_6 rfl ?_
    refine q_bipush dX8_isLetter_7 rfl ?_
    refine q_icmp_gt (tgt := 16) dX8_isLetter_9 rfl (by exact hc) (by (first | (unfold zR; omega) | (unfold zLR; omega) | omega | (simp only [zR, qup] at *; omega) | (simp [zR, qup]; omega) | (simp [zR, qup]; done))) (fun h9 => ?_) (fun h9 => ?_)
    ·
      refine q_iconst dX8_isLetter_16 ?_
      refine q_zreturn (by first | exact Or.inl rfl | exact Or.inr rfl) dX8_isLetter_17 ?_
      exact ⟨by rw [zb_f (fun q => by have := isLt_i.mp q; omega)], rfl⟩
    ·
      refine q_iconst dX8_isLetter_12 ?_
      refine q_goto (tgt := 17) dX8_isLetter_13 rfl ?_
      refine q_zreturn (by first | exact Or.inl rfl | exact Or.inr rfl) dX8_isLetter_17 ?_
      exact ⟨by rw [zb_t (isLt_i.mpr ⟨h3, h9⟩)], rfl⟩
set_option maxHeartbeats 1500000 in
theorem m_isDigit (hc : zR c) : qCt mX8_isDigit 0 0 [.int (zI c)] M (qpe (zb (isDg c = true)) M) := by
  refine q_intro (own := 8) (L := [some (.int (zI c))]) md_X8_isDigit rfl rfl rfl (Nat.le_of_ble_eq_true rfl) (fun X => ?_)
  refine q_iload_n dX8_isDigit_0 rfl ?_
  refine q_bipush dX8_isDigit_1 rfl ?_
  refine q_icmp_lt (tgt := 16) dX8_isDigit_3 rfl (by exact hc) (by (first | (unfold zR; omega) | (unfold zLR; omega) | omega | (simp only [zR, qup] at *; omega) | (simp [zR, qup]; omega) | (simp [zR, qup]; done))) (fun h3 => ?_) (fun h3 => ?_)
  ·
    refine q_iconst dX8_isDigit_16 ?_
    refine q_zreturn (by first | exact Or.inl rfl | exact Or.inr rfl) dX8_isDigit_17 ?_
    exact ⟨by rw [zb_f (fun q => by have := isDg_i.mp q; omega)], rfl⟩
  ·
    refine q_iload_n dX8_isDigit_6 rfl ?_
    refine q_bipush dX8_isDigit_7 rfl ?_
    refine q_icmp_gt (tgt := 16) dX8_isDigit_9 rfl (by exact hc) (by (first | (unfold zR; omega) | (unfold zLR; omega) | omega | (simp only [zR, qup] at *; omega) | (simp [zR, qup]; omega) | (simp [zR, qup]; done))) (fun h9 => ?_) (fun h9 => ?_)
    ·
      refine q_iconst dX8_isDigit_16 ?_
      refine q_zreturn (by first | exact Or.inl rfl | exact Or.inr rfl) dX8_isDigit_17 ?_
      exact ⟨by rw [zb_f (fun q => by have := isDg_i.mp q; omega)], rfl⟩
    ·
      refine q_iconst dX8_isDigit_12 ?_
      refine q_goto (tgt := 17) dX8_isDigit_13 rfl ?_
      refine q_zreturn (by first | exact Or.inl rfl | exact Or.inr rfl) dX8_isDigit_17 ?_
      exact ⟨by rw [zb_t (isDg_i.mpr ⟨h3, h9⟩)], rfl⟩
/-- what is seen at a place -/
def seenF (I : Int → Int) (n p : Int) : Int := if p < n then I p else -1
theorem seen_in (h : inM M I n) (hp : 0 ≤ p) : -1 ≤ seenF I n p ∧ seenF I n p < 256 := by
  unfold seenF
  by_cases g : p < n
  · rw [if_pos g]; have := (h.2.2 p hp g).2; omega
  · rw [if_neg g]; omega
set_option maxHeartbeats 1500000 in
theorem m_seen (hB : inM M I n) (h24 : M 37 24 = n) (hp : 0 ≤ p ∧ p < 2147483648) : qCt mX8_seen 0 0 [.ref 37, .int (zI p)] M (qpe (seenF I n p) M) := by
  have h0 := hB.1
  have h1 := hB.2.1
  refine q_intro (own := 8) (L := [some (.ref 37), some (.int (zI p))]) md_X8_seen rfl rfl rfl (Nat.le_of_ble_eq_true rfl) (fun X => ?_)
  refine q_iload_n dX8_seen_0 rfl ?_
  refine q_aload_n dX8_seen_1 rfl ?_
  refine q_geti (j := 24) dX8_seen_2 fl_8_158 rfl rfl rfl ?_
  rw [h24]
  refine q_icmp_ge (tgt := 17) dX8_seen_5 rfl (by (first | (unfold zR; omega) | (unfold zLR; omega) | omega | (simp only [zR, qup] at *; omega) | (simp [zR, qup]; omega) | (simp [zR, qup]; done))) (by (first | (unfold zR; omega) | (unfold zLR; omega) | omega | (simp only [zR, qup] at *; omega) | (simp [zR, qup]; omega) | (simp [zR, qup]; done))) (fun h5 => ?_) (fun h5 => ?_)
  ·
    refine q_iconst dX8_seen_17 ?_
    refine q_ireturn dX8_seen_18 ?_
    exact ⟨by unfold seenF; rw [if_neg (by omega)], rfl⟩
  ·
    refine q_aload_n dX8_seen_8 rfl ?_
    refine q_getr dX8_seen_9 fl_8_41 rfl rfl ?_
    refine q_iload_n dX8_seen_12 rfl ?_
    refine q_iald dX8_seen_13 rfl (by (first | (unfold zR; omega) | (unfold zLR; omega) | omega | (simp only [zR, qup] at *; omega) | (simp [zR, qup]; omega) | (simp [zR, qup]; done))) (Nat.le_of_ble_eq_true rfl) ?_
    rw [(hB.2.2 p hp.1 h5).1]
    refine q_goto (tgt := 18) dX8_seen_14 rfl ?_
    refine q_ireturn dX8_seen_18 ?_
    exact ⟨by unfold seenF; rw [if_pos h5], rfl⟩
/-- what token leaves -/
def tkM (M : qM) (I : Int → Int) (n p : Int) : qM → Prop := fun M' => ∃ u, (tK I n p = 2 → zR u ∧ u = tV I n p) ∧ M' = mlx M (tE I n p) (tS I n p) (tK I n p) u
theorem p10_in (j : Nat) (h : j ≤ 4) : (10 : Int) ^ j ≤ 10000 := by
  have e : j = 0 ∨ j = 1 ∨ j = 2 ∨ j = 3 ∨ j = 4 := by omega
  rcases e with rfl | rfl | rfl | rfl | rfl <;> decide
theorem ncb_in {I : Int → Int} {s : Int} : ∀ j : Nat, j ≤ 4 → (∀ k : Nat, k < j → 48 ≤ I (s + k) ∧ I (s + k) ≤ 57) → 0 ≤ nc I s j ∧ nc I s j < 10 ^ j := by
  intro j
  induction j with
  | zero => intro _ _; exact ⟨Int.le_refl 0, by show (0 : Int) < 1; decide⟩
  | succ j ih =>
    intro hj h
    have h1 := ih (by omega) (fun k hk => h k (by omega))
    have h2 := h j (by omega)
    rw [nc, Int.pow_succ]
    omega
set_option maxHeartbeats 3000000 in
theorem tok_26 {X : qX} {t0 s0 v0 : Int} (hB : inM M I n) (h24 : M 37 24 = n) (ha : tS I n p = a) (ha2 : 0 ≤ a ∧ a ≤ n) : QW X (8, cX8_token, 2, none, 0, 1) (qph (tkM M I n p)) 0 26 [some (.ref 37), none] [] (mlx M a t0 s0 v0) := by
  have hn := hB.1
  have hn2 := hB.2.1
  have hBL : ∀ {a f s u : Int}, inM (mlx M a f s u) I n := fun {a f s u} => inM_lx hB
  have hL24 : ∀ {a f s u : Int}, mlx M a f s u 37 24 = n := fun {a f s u} => by rw [mlx_37 (by decide) (by decide) (by decide) (by decide)]; exact h24
  have ia : ∀ j, 0 ≤ j → j < n → 0 ≤ I j ∧ I j < 256 := fun j j0 j1 => (hB.2.2 j j0 j1).2
  have hsa := seen_in (p := a) hB ha2.1
  refine q_aload_n dX8_token_26 rfl ?_
  refine q_aload_n dX8_token_27 rfl ?_
  refine q_geti (j := 25) dX8_token_28 fl_8_161 rfl rfl rfl ?_
  rw [mlx_25]
  refine q_puti (j := 26) dX8_token_31 fl_8_167 rfl rfl rfl rfl rfl ?_
  rw [mlx_u26]
  refine q_aload_n dX8_token_34 rfl ?_
  refine q_aload_n dX8_token_35 rfl ?_
  refine q_geti (j := 25) dX8_token_36 fl_8_161 rfl rfl rfl ?_
  rw [mlx_25]
  refine q_V1 dX8_token_39 ml_8_164 md_X8_seen (m_seen hBL hL24 ⟨ha2.1, by omega⟩) rfl rfl rfl (by first | decide | omega) (Nat.le_of_ble_eq_true rfl) (Nat.le_of_ble_eq_true rfl) (qk_e ?_)
  refine q_istore_n dX8_token_42 (Nat.le_of_ble_eq_true rfl) rfl ?_
  refine q_iload_n dX8_token_43 rfl ?_
  refine q_iconst dX8_token_44 ?_
  refine q_icmp_ne (tgt := 56) dX8_token_45 rfl (by (first | (unfold zR; omega) | (unfold zLR; omega) | omega | (simp only [zR, qup] at *; omega) | (simp [zR, qup]; omega) | (simp [zR, qup]; done))) (by (first | (unfold zR; omega) | (unfold zLR; omega) | omega | (simp only [zR, qup] at *; omega) | (simp [zR, qup]; omega) | (simp [zR, qup]; done))) (fun h45 => ?_) (fun h45 => ?_)
  ·
    have e0 : a < n := Classical.byContradiction fun q => by have h := h45; unfold seenF at h; rw [if_neg q] at h; exact h rfl
    have e1 : ¬ n ≤ tS I n p := by omega
    have hia := ia a ha2.1 e0
    rw [show seenF I n a = I a from if_pos e0]
    refine q_iload_n dX8_token_56 rfl ?_
    refine q_S1 dX8_token_57 ml_8_173 md_X8_isLetter (m_isLetter (by (first | (unfold zR; omega) | (unfold zLR; omega) | omega | (simp only [zR, qup] at *; omega) | (simp [zR, qup]; omega) | (simp [zR, qup]; done)))) rfl (by first | decide | omega) (Nat.le_of_ble_eq_true rfl) (Nat.le_of_ble_eq_true rfl) (qk_e ?_)
    refine q_if_eq (tgt := 116) dX8_token_60 rfl (by exact zb_R _) (fun h60 => ?_) (fun h60 => ?_)
    rotate_left
    ·
      have hL : isLt (I (tS I n p)) = true := by rw [ha]; exact zb_1.mp (by have := zb_01 (isLt (I a) = true); omega)
      have eE : tE I n p = skp isLt I a (n - a).toNat := by unfold tE; rw [if_neg e1, if_pos hL, ha]
      have eK : tK I n p = if tE I n p - a ≤ 6 then 1 else 4 := by unfold tK; rw [if_neg e1, if_pos hL, ha]
      refine q_lp (fun j : Nat => (n - a).toNat + 1 - j) (fun j => a + j ≤ n ∧ skp isLt I (a + j) (n - (a + j)).toNat = tE I n p) (fun _ => [some (.ref 37), some (.int (zI (I a)))]) (fun j => mlx M (a + j) a s0 v0) 0 rfl (by rw [show a + ((0 : Nat) : Int) = a by omega]) ⟨by omega, by rw [show a + ((0 : Nat) : Int) = a by omega, eE]⟩ (fun j hj ih => ?_)
      obtain ⟨hj1, hj2⟩ := hj
      have hsj := seen_in (p := a + (j : Int)) hB (by omega)
      refine q_aload_n dX8_token_63 rfl ?_
      refine q_aload_n dX8_token_64 rfl ?_
      refine q_geti (j := 25) dX8_token_65 fl_8_161 rfl rfl rfl ?_
      rw [mlx_25]
      refine q_V1 dX8_token_68 ml_8_164 md_X8_seen (m_seen hBL hL24 ⟨by omega, by omega⟩) rfl rfl rfl (by first | decide | omega) (Nat.le_of_ble_eq_true rfl) (Nat.le_of_ble_eq_true rfl) (qk_e ?_)
      refine q_S1 dX8_token_71 ml_8_173 md_X8_isLetter (m_isLetter (by (first | (unfold zR; omega) | (unfold zLR; omega) | omega | (simp only [zR, qup] at *; omega) | (simp [zR, qup]; omega) | (simp [zR, qup]; done)))) rfl (by first | decide | omega) (Nat.le_of_ble_eq_true rfl) (Nat.le_of_ble_eq_true rfl) (qk_e ?_)
      refine q_if_eq (tgt := 90) dX8_token_74 rfl (by exact zb_R _) (fun h74 => ?_) (fun h74 => ?_)
      rotate_left
      ·
        refine q_aload_n dX8_token_77 rfl ?_
        refine q_dup dX8_token_78 rfl ?_
        refine q_geti (j := 25) dX8_token_79 fl_8_161 rfl rfl rfl ?_
        rw [mlx_25]
        refine q_iconst dX8_token_82 ?_
        refine q_iadd dX8_token_83 ?_
        refine q_puti (j := 25) dX8_token_84 fl_8_161 rfl rfl rfl rfl rfl ?_
        rw [mlx_u25]
        refine q_goto (tgt := 63) dX8_token_87 rfl ?_
        have g : isLt (seenF I n (a + j)) = true := zb_1.mp (by have := zb_01 (isLt (seenF I n (a + j)) = true); omega)
        have g2 : a + (j : Int) < n := Classical.byContradiction fun q => by unfold seenF at g; rw [if_neg q] at g; exact absurd g (by decide)
        rw [show seenF I n (a + j) = I (a + j) from if_pos g2] at g
        refine ih (j + 1) _ _ ⟨by omega, ?_⟩ (by omega) rfl ?_
        · rw [← hj2, skp_go g2 g, show a + ((j + 1 : Nat) : Int) = a + j + 1 by omega]
        · rw [show a + ((j + 1 : Nat) : Int) = a + j + 1 by omega]
      have ee : tE I n p = a + j := by
        rw [← hj2]
        by_cases g2 : a + (j : Int) < n
        · have g := zb_0.mp h74
          rw [show seenF I n (a + j) = I (a + j) from if_pos g2] at g
          exact skp_st g2 g
        · exact skp_end (by omega)
      refine q_aload_n dX8_token_90 rfl ?_
      refine q_aload_n dX8_token_91 rfl ?_
      refine q_geti (j := 25) dX8_token_92 fl_8_161 rfl rfl rfl ?_
      rw [mlx_25]
      refine q_aload_n dX8_token_95 rfl ?_
      refine q_geti (j := 26) dX8_token_96 fl_8_167 rfl rfl rfl ?_
      rw [mlx_26]
      refine q_isub dX8_token_99 ?_
      refine q_bipush dX8_token_100 rfl ?_
      refine q_icmp_le (tgt := 109) dX8_token_102 rfl (by (first | (unfold zR; omega) | (unfold zLR; omega) | omega | (simp only [zR, qup] at *; omega) | (simp [zR, qup]; omega) | (simp [zR, qup]; done))) (by (first | (unfold zR; omega) | (unfold zLR; omega) | omega | (simp only [zR, qup] at *; omega) | (simp [zR, qup]; omega) | (simp [zR, qup]; done))) (fun h102 => ?_) (fun h102 => ?_)
      ·
        refine q_iconst dX8_token_109 ?_
        refine q_puti (j := 27) dX8_token_110 fl_8_170 rfl rfl rfl rfl rfl ?_
        rw [mlx_u27]
        refine q_goto (tgt := 245) dX8_token_113 rfl ?_
        refine q_return dX8_token_245 ?_
        exact ⟨rfl, v0, fun q => by rw [eK, if_pos (by omega)] at q; omega, by rw [eK, ee, ha, if_pos (by omega)]⟩
      ·
        refine q_iconst dX8_token_105 ?_
        refine q_goto (tgt := 110) dX8_token_106 rfl ?_
        refine q_puti (j := 27) dX8_token_110 fl_8_170 rfl rfl rfl rfl rfl ?_
        rw [mlx_u27]
        refine q_goto (tgt := 245) dX8_token_113 rfl ?_
        refine q_return dX8_token_245 ?_
        exact ⟨rfl, v0, fun q => by rw [eK, if_neg (by omega)] at q; omega, by rw [eK, ee, ha, if_neg (by omega)]⟩
    have hL : ¬ isLt (I (tS I n p)) = true := by rw [ha]; exact zb_0.mp h60
    refine q_iload_n dX8_token_116 rfl ?_
    refine q_S1 dX8_token_117 ml_8_176 md_X8_isDigit (m_isDigit (by (first | (unfold zR; omega) | (unfold zLR; omega) | omega | (simp only [zR, qup] at *; omega) | (simp [zR, qup]; omega) | (simp [zR, qup]; done)))) rfl (by first | decide | omega) (Nat.le_of_ble_eq_true rfl) (Nat.le_of_ble_eq_true rfl) (qk_e ?_)
    refine q_if_eq (tgt := 220) dX8_token_120 rfl (by exact zb_R _) (fun h120 => ?_) (fun h120 => ?_)
    rotate_left
    ·
      refine q_aload_n dX8_token_123 rfl ?_
      refine q_iconst dX8_token_124 ?_
      refine q_puti (j := 28) dX8_token_125 fl_8_179 rfl rfl rfl rfl rfl ?_
      have hD : isDg (I (tS I n p)) = true := by rw [ha]; exact zb_1.mp (by have := zb_01 (isDg (I a) = true); omega)
      have eE : tE I n p = skp isDg I a (n - a).toNat := by unfold tE; rw [if_neg e1, if_neg hL, if_pos hD, ha]
      have eK : tK I n p = if tE I n p - a ≤ 4 then 2 else 4 := by unfold tK; rw [if_neg e1, if_neg hL, if_pos hD, ha]
      have eV : tV I n p = nc I a (tE I n p - a).toNat := by unfold tV; rw [if_neg e1, if_neg hL, if_pos hD, ha]
      rw [mlx_u28]
      refine q_lp (fun j : Nat => (n - a).toNat + 1 - j) (fun j => a + j ≤ n ∧ skp isDg I (a + j) (n - (a + j)).toNat = tE I n p ∧ ∀ k : Nat, k < j → 48 ≤ I (a + k) ∧ I (a + k) ≤ 57) (fun _ => [some (.ref 37), some (.int (zI (I a)))]) (fun j => mlx M (a + j) a s0 (if j ≤ 4 then nc I a j else 0)) 0 rfl (by rw [show a + ((0 : Nat) : Int) = a by omega]; rfl) ⟨by omega, by rw [show a + ((0 : Nat) : Int) = a by omega, eE], fun k hk => absurd hk (Nat.not_lt_zero k)⟩ (fun j hj ih => ?_)
      obtain ⟨hj1, hj2, hj3⟩ := hj
      have hsj := seen_in (p := a + (j : Int)) hB (by omega)
      refine q_aload_n dX8_token_128 rfl ?_
      refine q_aload_n dX8_token_129 rfl ?_
      refine q_geti (j := 25) dX8_token_130 fl_8_161 rfl rfl rfl ?_
      rw [mlx_25]
      refine q_V1 dX8_token_133 ml_8_164 md_X8_seen (m_seen hBL hL24 ⟨by omega, by omega⟩) rfl rfl rfl (by first | decide | omega) (Nat.le_of_ble_eq_true rfl) (Nat.le_of_ble_eq_true rfl) (qk_e ?_)
      refine q_S1 dX8_token_136 ml_8_176 md_X8_isDigit (m_isDigit (by (first | (unfold zR; omega) | (unfold zLR; omega) | omega | (simp only [zR, qup] at *; omega) | (simp [zR, qup]; omega) | (simp [zR, qup]; done)))) rfl (by first | decide | omega) (Nat.le_of_ble_eq_true rfl) (Nat.le_of_ble_eq_true rfl) (qk_e ?_)
      refine q_if_eq (tgt := 195) dX8_token_139 rfl (by exact zb_R _) (fun h139 => ?_) (fun h139 => ?_)
      rotate_left
      ·
        have g : isDg (seenF I n (a + j)) = true := zb_1.mp (by have := zb_01 (isDg (seenF I n (a + j)) = true); omega)
        have g2 : a + (j : Int) < n := Classical.byContradiction fun q => by unfold seenF at g; rw [if_neg q] at g; exact absurd g (by decide)
        have g3 : seenF I n (a + j) = I (a + j) := if_pos g2
        rw [g3] at g
        have g4 := isDg_i.mp g
        have hj4 : ∀ k : Nat, k < j + 1 → 48 ≤ I (a + k) ∧ I (a + k) ≤ 57 := fun k hk => by
          by_cases e : k = j
          · subst e; exact g4
          · exact hj3 k (by omega)
        refine q_aload_n dX8_token_142 rfl ?_
        refine q_aload_n dX8_token_143 rfl ?_
        refine q_geti (j := 25) dX8_token_144 fl_8_161 rfl rfl rfl ?_
        rw [mlx_25]
        refine q_aload_n dX8_token_147 rfl ?_
        refine q_geti (j := 26) dX8_token_148 fl_8_167 rfl rfl rfl ?_
        rw [mlx_26]
        refine q_isub dX8_token_151 ?_
        refine q_iconst dX8_token_152 ?_
        refine q_icmp_ge (tgt := 178) dX8_token_153 rfl (by (first | (unfold zR; omega) | (unfold zLR; omega) | omega | (simp only [zR, qup] at *; omega) | (simp [zR, qup]; omega) | (simp [zR, qup]; done))) (by (first | (unfold zR; omega) | (unfold zLR; omega) | omega | (simp only [zR, qup] at *; omega) | (simp [zR, qup]; omega) | (simp [zR, qup]; done))) (fun h153 => ?_) (fun h153 => ?_)
        ·
          refine q_iconst dX8_token_178 ?_
          refine q_puti (j := 28) dX8_token_179 fl_8_179 rfl rfl rfl rfl rfl ?_
          rw [mlx_u28]
          refine q_aload_n dX8_token_182 rfl ?_
          refine q_dup dX8_token_183 rfl ?_
          refine q_geti (j := 25) dX8_token_184 fl_8_161 rfl rfl rfl ?_
          rw [mlx_25]
          refine q_iconst dX8_token_187 ?_
          refine q_iadd dX8_token_188 ?_
          refine q_puti (j := 25) dX8_token_189 fl_8_161 rfl rfl rfl rfl rfl ?_
          rw [mlx_u25]
          refine q_goto (tgt := 128) dX8_token_192 rfl ?_
          refine ih (j + 1) _ _ ⟨by omega, ?_, hj4⟩ (by omega) rfl ?_
          · rw [← hj2, skp_go g2 g, show a + ((j + 1 : Nat) : Int) = a + j + 1 by omega]
          · rw [show a + ((j + 1 : Nat) : Int) = a + j + 1 by omega, if_neg (by omega)]
        ·
          refine q_bipush dX8_token_156 rfl ?_
          refine q_aload_n dX8_token_158 rfl ?_
          refine q_geti (j := 28) dX8_token_159 fl_8_179 rfl rfl rfl ?_
          rw [mlx_28]
          refine q_imul dX8_token_162 ?_
          refine q_aload_n dX8_token_163 rfl ?_
          refine q_aload_n dX8_token_164 rfl ?_
          refine q_geti (j := 25) dX8_token_165 fl_8_161 rfl rfl rfl ?_
          rw [mlx_25]
          refine q_V1 dX8_token_168 ml_8_164 md_X8_seen (m_seen hBL hL24 ⟨by omega, by omega⟩) rfl rfl rfl (by first | decide | omega) (Nat.le_of_ble_eq_true rfl) (Nat.le_of_ble_eq_true rfl) (qk_e ?_)
          refine q_iadd dX8_token_171 ?_
          refine q_bipush dX8_token_172 rfl ?_
          refine q_isub dX8_token_174 ?_
          refine q_goto (tgt := 179) dX8_token_175 rfl ?_
          refine q_puti (j := 28) dX8_token_179 fl_8_179 rfl rfl rfl rfl rfl ?_
          rw [mlx_u28, g3]
          refine q_aload_n dX8_token_182 rfl ?_
          refine q_dup dX8_token_183 rfl ?_
          refine q_geti (j := 25) dX8_token_184 fl_8_161 rfl rfl rfl ?_
          rw [mlx_25]
          refine q_iconst dX8_token_187 ?_
          refine q_iadd dX8_token_188 ?_
          refine q_puti (j := 25) dX8_token_189 fl_8_161 rfl rfl rfl rfl rfl ?_
          rw [mlx_u25]
          refine q_goto (tgt := 128) dX8_token_192 rfl ?_
          refine ih (j + 1) _ _ ⟨by omega, ?_, hj4⟩ (by omega) rfl ?_
          · rw [← hj2, skp_go g2 g, show a + ((j + 1 : Nat) : Int) = a + j + 1 by omega]
          · rw [show a + ((j + 1 : Nat) : Int) = a + j + 1 by omega, if_pos (by omega), if_pos (by omega)]; rfl
      have ee : tE I n p = a + j := by
        rw [← hj2]
        by_cases g2 : a + (j : Int) < n
        · have g := zb_0.mp h139
          rw [show seenF I n (a + j) = I (a + j) from if_pos g2] at g
          exact skp_st g2 g
        · exact skp_end (by omega)
      have hur : zR (if j ≤ 4 then nc I a j else 0) := by
        by_cases e : j ≤ 4
        · rw [if_pos e]
          have h1 := ncb_in j e hj3
          have h2 := p10_in j e
          unfold zR
          omega
        · rw [if_neg e]; unfold zR; omega
      refine q_aload_n dX8_token_195 rfl ?_
      refine q_aload_n dX8_token_196 rfl ?_
      refine q_geti (j := 25) dX8_token_197 fl_8_161 rfl rfl rfl ?_
      rw [mlx_25]
      refine q_aload_n dX8_token_200 rfl ?_
      refine q_geti (j := 26) dX8_token_201 fl_8_167 rfl rfl rfl ?_
      rw [mlx_26]
      refine q_isub dX8_token_204 ?_
      refine q_iconst dX8_token_205 ?_
      refine q_icmp_le (tgt := 213) dX8_token_206 rfl (by (first | (unfold zR; omega) | (unfold zLR; omega) | omega | (simp only [zR, qup] at *; omega) | (simp [zR, qup]; omega) | (simp [zR, qup]; done))) (by (first | (unfold zR; omega) | (unfold zLR; omega) | omega | (simp only [zR, qup] at *; omega) | (simp [zR, qup]; omega) | (simp [zR, qup]; done))) (fun h206 => ?_) (fun h206 => ?_)
      ·
        refine q_iconst dX8_token_213 ?_
        refine q_puti (j := 27) dX8_token_214 fl_8_170 rfl rfl rfl rfl rfl ?_
        rw [mlx_u27]
        refine q_goto (tgt := 245) dX8_token_217 rfl ?_
        refine q_return dX8_token_245 ?_
        exact ⟨rfl, _, fun q => ⟨hur, by rw [eV, ee, if_pos (by omega), show (a + (j : Int) - a).toNat = j by omega]⟩, by rw [eK, ee, ha, if_pos (by omega : a + (j : Int) - a ≤ 4)]⟩
      ·
        refine q_iconst dX8_token_209 ?_
        refine q_goto (tgt := 214) dX8_token_210 rfl ?_
        refine q_puti (j := 27) dX8_token_214 fl_8_170 rfl rfl rfl rfl rfl ?_
        rw [mlx_u27]
        refine q_goto (tgt := 245) dX8_token_217 rfl ?_
        refine q_return dX8_token_245 ?_
        exact ⟨rfl, _, fun q => by rw [eK, if_neg (by omega)] at q; omega, by rw [eK, ee, ha, if_neg (by omega : ¬ a + (j : Int) - a ≤ 4)]⟩
    have hD : ¬ isDg (I (tS I n p)) = true := by rw [ha]; exact zb_0.mp h120
    have eE : tE I n p = a + 1 := by unfold tE; rw [if_neg e1, if_neg hL, if_neg hD, ha]
    have eK : tK I n p = if I a = 59 then 3 else 4 := by unfold tK; rw [if_neg e1, if_neg hL, if_neg hD, ha]
    refine q_aload_n dX8_token_220 rfl ?_
    refine q_iload_n dX8_token_221 rfl ?_
    refine q_bipush dX8_token_222 rfl ?_
    refine q_icmp_ne (tgt := 231) dX8_token_224 rfl (by (first | (unfold zR; omega) | (unfold zLR; omega) | omega | (simp only [zR, qup] at *; omega) | (simp [zR, qup]; omega) | (simp [zR, qup]; done))) (by (first | (unfold zR; omega) | (unfold zLR; omega) | omega | (simp only [zR, qup] at *; omega) | (simp [zR, qup]; omega) | (simp [zR, qup]; done))) (fun h224 => ?_) (fun h224 => ?_)
    ·
      refine q_iconst dX8_token_231 ?_
      refine q_puti (j := 27) dX8_token_232 fl_8_170 rfl rfl rfl rfl rfl ?_
      rw [mlx_u27]
      refine q_aload_n dX8_token_235 rfl ?_
      refine q_dup dX8_token_236 rfl ?_
      refine q_geti (j := 25) dX8_token_237 fl_8_161 rfl rfl rfl ?_
      rw [mlx_25]
      refine q_iconst dX8_token_240 ?_
      refine q_iadd dX8_token_241 ?_
      refine q_puti (j := 25) dX8_token_242 fl_8_161 rfl rfl rfl rfl rfl ?_
      rw [mlx_u25]
      refine q_return dX8_token_245 ?_
      exact ⟨rfl, v0, fun q => by rw [eK, if_neg h224] at q; omega, by rw [eK, eE, ha, if_neg h224]⟩
    ·
      refine q_iconst dX8_token_227 ?_
      refine q_goto (tgt := 232) dX8_token_228 rfl ?_
      refine q_puti (j := 27) dX8_token_232 fl_8_170 rfl rfl rfl rfl rfl ?_
      rw [mlx_u27]
      refine q_aload_n dX8_token_235 rfl ?_
      refine q_dup dX8_token_236 rfl ?_
      refine q_geti (j := 25) dX8_token_237 fl_8_161 rfl rfl rfl ?_
      rw [mlx_25]
      refine q_iconst dX8_token_240 ?_
      refine q_iadd dX8_token_241 ?_
      refine q_puti (j := 25) dX8_token_242 fl_8_161 rfl rfl rfl rfl rfl ?_
      rw [mlx_u25]
      refine q_return dX8_token_245 ?_
      exact ⟨rfl, v0, fun q => by rw [eK, if_pos h224] at q; omega, by rw [eK, eE, ha, if_pos h224]⟩
  ·
    have e0 : n ≤ tS I n p := by rw [ha]; exact Classical.byContradiction fun q => by have h := h45; unfold seenF at h; rw [if_pos (by omega)] at h; have := ia a ha2.1 (by omega); omega
    refine q_aload_n dX8_token_48 rfl ?_
    refine q_iconst dX8_token_49 ?_
    refine q_puti (j := 27) dX8_token_50 fl_8_170 rfl rfl rfl rfl rfl ?_
    rw [mlx_u27]
    refine q_goto (tgt := 245) dX8_token_53 rfl ?_
    refine q_return dX8_token_245 ?_
    exact ⟨rfl, v0, fun q => by rw [tK_0.2 e0] at q; omega, by rw [tK_0.2 e0, show tE I n p = a by unfold tE; rw [if_pos e0, ha], ha]⟩
set_option maxHeartbeats 1500000 in
theorem m_token (hB : inM M I n) (h24 : M 37 24 = n) (hp : M 37 25 = p) (hp2 : 0 ≤ p ∧ p ≤ n) : qCt mX8_token 0 1 [.ref 37] M (qph (tkM M I n p)) := by
  have hn := hB.1
  have hn2 := hB.2.1
  have hBL : ∀ {a f s u : Int}, inM (mlx M a f s u) I n := fun {a f s u} => inM_lx hB
  have hL24 : ∀ {a f s u : Int}, mlx M a f s u 37 24 = n := fun {a f s u} => by rw [mlx_37 (by decide) (by decide) (by decide) (by decide)]; exact h24
  refine q_intro (own := 8) (L := [some (.ref 37), none]) md_X8_token rfl rfl rfl (Nat.le_of_ble_eq_true rfl) (fun X => ?_)
  refine q_lp (fun a : Int => (n + 1 - a).toNat) (fun a => 0 ≤ a ∧ a ≤ n ∧ tS I n a = tS I n p) (fun _ => [some (.ref 37), none]) (fun a => mlx M a (M 37 26) (M 37 27) (M 37 28)) p rfl (by rw [← hp]; exact mlx_id M) ⟨hp2.1, hp2.2, rfl⟩ (fun a ha ih => ?_)
  obtain ⟨ha0, ha1, ha2⟩ := ha
  have hsa := seen_in (p := a) hB ha0
  refine q_aload_n dX8_token_0 rfl ?_
  refine q_aload_n dX8_token_1 rfl ?_
  refine q_geti (j := 25) dX8_token_2 fl_8_161 rfl rfl rfl ?_
  rw [mlx_25]
  refine q_V1 dX8_token_5 ml_8_164 md_X8_seen (m_seen hBL hL24 ⟨ha0, by omega⟩) rfl rfl rfl (by first | decide | omega) (Nat.le_of_ble_eq_true rfl) (Nat.le_of_ble_eq_true rfl) (qk_e ?_)
  refine q_bipush dX8_token_8 rfl ?_
  refine q_icmp_ne (tgt := 26) dX8_token_10 rfl (by (first | (unfold zR; omega) | (unfold zLR; omega) | omega | (simp only [zR, qup] at *; omega) | (simp [zR, qup]; omega) | (simp [zR, qup]; done))) (by (first | (unfold zR; omega) | (unfold zLR; omega) | omega | (simp only [zR, qup] at *; omega) | (simp [zR, qup]; omega) | (simp [zR, qup]; done))) (fun h10 => ?_) (fun h10 => ?_)
  ·
    refine tok_26 hB h24 ?_ ⟨ha0, ha1⟩
    rw [← ha2]
    by_cases g2 : a < n
    · rw [show seenF I n a = I a from if_pos g2] at h10
      exact skp_st (P := isBl) g2 (fun q => h10 (isBl_i.mp q))
    · exact skp_end (by omega)
  ·
    refine q_aload_n dX8_token_13 rfl ?_
    refine q_dup dX8_token_14 rfl ?_
    refine q_geti (j := 25) dX8_token_15 fl_8_161 rfl rfl rfl ?_
    rw [mlx_25]
    refine q_iconst dX8_token_18 ?_
    refine q_iadd dX8_token_19 ?_
    refine q_puti (j := 25) dX8_token_20 fl_8_161 rfl rfl rfl rfl rfl ?_
    rw [mlx_u25]
    refine q_goto (tgt := 0) dX8_token_23 rfl ?_
    have g2 : a < n := Classical.byContradiction fun q => by unfold seenF at h10; rw [if_neg q] at h10; omega
    rw [show seenF I n a = I a from if_pos g2] at h10
    exact ih (a + 1) _ _ ⟨by omega, by omega, by rw [← ha2]; exact (skp_go (P := isBl) g2 (isBl_i.mpr h10)).symm⟩ (by omega) rfl rfl
end MLX


/-! The model: reads. -/
theorem tMap_inr {I : Int → Int} {n m p : Int} {N : Int → Int} {k : Int → Int → qρ} {σ' : qσ} (h : tMap I n N m p k = .inr σ') : ∃ a, k a (tE I n p) = .inr σ' := by
  unfold tMap at h
  by_cases g : tK I n p ≠ 1
  · rw [if_pos g] at h; exact absurd h (by unfold flS; exact fun w => by cases w)
  · rw [if_neg g] at h
    by_cases g2 : mn N (tV I n p) m.toNat = -1
    · rw [if_pos g2] at h; exact absurd h (by unfold flS; exact fun w => by cases w)
    · rw [if_neg g2] at h; exact ⟨_, h⟩
theorem tNum_inr {I : Int → Int} {n a b p : Int} {k : Int → Int → qρ} {σ' : qσ} (h : tNum I n a b p k = .inr σ') : ∃ a, k a (tE I n p) = .inr σ' := by
  unfold tNum at h
  by_cases g : tK I n p ≠ 2
  · rw [if_pos g] at h; exact absurd h (by unfold flS; exact fun w => by cases w)
  · rw [if_neg g] at h
    by_cases g2 : tV I n p < a ∨ b < tV I n p
    · rw [if_pos g2] at h; exact absurd h (by unfold flS; exact fun w => by cases w)
    · rw [if_neg g2] at h; exact ⟨_, h⟩
theorem tE_ge {I : Int → Int} {n p : Int} (hp : 0 ≤ p ∧ p ≤ n) : p ≤ tE I n p ∧ 0 ≤ tE I n p ∧ tE I n p ≤ n := by
  have h1 := tE_in (I := I) hp.2
  have h2 := tS_in (I := I) hp.2
  omega
theorem np_ge {I : Int → Int} {n p2 : Int} (h : 0 ≤ p2 ∧ p2 ≤ n) : ∀ i : Nat, p2 ≤ np I n p2 i ∧ 0 ≤ np I n p2 i ∧ np I n p2 i ≤ n := by
  intro i
  induction i with
  | zero => exact ⟨Int.le_refl _, h.1, h.2⟩
  | succ i ih => have := tE_ge (I := I) ⟨ih.2.1, ih.2.2⟩; rw [np]; omega
theorem trF_inr {I : Int → Int} {n p2 a : Int} {L i : Nat} {σ σ' : qσ} (h : trF I n L a p2 σ i = .inr σ') : σ'.1 = np I n p2 i := by
  unfold trF at h
  by_cases g : tK I n (np I n p2 i) ≠ 3 ∧ tK I n (np I n p2 i) ≠ 0
  · rw [if_pos g] at h; exact absurd h (by unfold flS; exact fun w => by cases w)
  · rw [if_neg g] at h
    by_cases g2 : (oj (srcS I n p2) L i).1 = -1
    · rw [if_pos g2] at h; cases h; rfl
    · rw [if_neg g2] at h; exact absurd h (by unfold flS; exact fun w => by cases w)
theorem trS_inr {I : Int → Int} {n p2 a : Int} {L : Nat} {σ σ' : qσ} : ∀ k i : Nat, trS I n L a p2 σ k i = .inr σ' → ∃ j : Nat, σ'.1 = np I n p2 j := by
  intro k
  induction k with
  | zero => intro i h; exact ⟨i, trF_inr h⟩
  | succ k ih =>
    intro i h
    rw [trS] at h
    by_cases g : tK I n (np I n p2 i) = 2
    · rw [if_pos g] at h
      by_cases g2 : 255 < tV I n (np I n p2 i)
      · rw [if_pos g2] at h; exact absurd h (by unfold flS; exact fun w => by cases w)
      · rw [if_neg g2] at h
        by_cases g3 : (oj (srcS I n p2) L ((i : Int) + 1)).1 ≠ -1 ∧ (oj (srcS I n p2) L ((i : Int) + 1)).1 < (i : Int) + 1
        · rw [if_pos g3] at h; exact absurd h (by unfold flS; exact fun w => by cases w)
        · rw [if_neg g3] at h; exact ih _ h
    · rw [if_neg g] at h; exact ⟨i, trF_inr h⟩
theorem line_pos {I : Int → Int} {n : Int} {L : Nat} {σ σ' : qσ} (hp : 0 ≤ σ.1 ∧ σ.1 ≤ n) (h : lineS I n L σ = .inr σ') : tE I n σ.1 ≤ σ'.1 ∧ σ'.1 ≤ n := by
  have h1 := tE_ge (I := I) hp
  have h2 := tE_ge (I := I) ⟨h1.2.1, h1.2.2⟩
  have h3 := tE_ge (I := I) ⟨h2.2.1, h2.2.2⟩
  have h4 := tE_ge (I := I) ⟨h3.2.1, h3.2.2⟩
  have hrg : ∀ b, lnRng I n L b σ = .inr σ' → tE I n σ.1 ≤ σ'.1 ∧ σ'.1 ≤ n := fun b h => by
    obtain ⟨a, q⟩ := tMap_inr h
    obtain ⟨f, q⟩ := tNum_inr q
    obtain ⟨t, q⟩ := tNum_inr q
    cases q
    dsimp only
    omega
  unfold lineS at h
  by_cases g1 : isW I n σ.1 1
  · rw [rif_t g1] at h
    unfold lnMap at h
    by_cases g : 6 ≤ σ.2.1
    · rw [if_pos g] at h; exact absurd h (by unfold flS; exact fun w => by cases w)
    · rw [if_neg g] at h
      by_cases g : tK I n (tE I n σ.1) ≠ 1
      · rw [if_pos g] at h; exact absurd h (by unfold flS; exact fun w => by cases w)
      · rw [if_neg g] at h
        by_cases g : mn σ.2.2.1 (tV I n (tE I n σ.1)) σ.2.1.toNat ≠ -1
        · rw [if_pos g] at h; exact absurd h (by unfold flS; exact fun w => by cases w)
        · rw [if_neg g] at h
          cases h
          dsimp only
          omega
  · rw [rif_f g1] at h
    by_cases g1 : isW I n σ.1 2
    · rw [rif_t g1] at h; exact hrg _ h
    · rw [rif_f g1] at h
      by_cases g1 : isW I n σ.1 3
      · rw [rif_t g1] at h; exact hrg _ h
      · rw [rif_f g1] at h
        by_cases g1 : isW I n σ.1 4
        · rw [rif_t g1] at h; exact hrg _ h
        · rw [rif_f g1] at h
          by_cases g1 : isW I n σ.1 5
          · rw [rif_t g1] at h
            obtain ⟨a, q⟩ := tMap_inr h
            obtain ⟨b, q⟩ := tMap_inr q
            cases q
            dsimp only
            omega
          · rw [rif_f g1] at h
            by_cases g1 : isW I n σ.1 6
            · rw [rif_t g1] at h
              obtain ⟨a, q⟩ := tMap_inr h
              by_cases g : tK I n (tE I n (tE I n σ.1)) ≠ 2
              · rw [if_pos g] at q; exact absurd q (by unfold flS; exact fun w => by cases w)
              · rw [if_neg g] at q
                obtain ⟨j, q⟩ := trS_inr _ _ q
                have := np_ge (I := I) ⟨h2.2.1, h2.2.2⟩ j
                rw [q]
                omega
            · rw [rif_f g1] at h; exact absurd h (by unfold flS; exact fun w => by cases w)
section MRS
variable {M M0 : qM} {I : Int → Int} {n Lq : Int} {L : Nat} {σ : qσ} {e : Int × Int} {R : qρ}
/-- what reads leaves, R being what the text is -/
def rsP (M0 : qM) (I : Int → Int) (n : Int) (R : qρ) (M : qM) : Prop := (∃ e Lq, R = .inl e ∧ FS M0 Lq e M) ∨ ∃ (σ : qσ) (L : Nat), R = .inr σ ∧ (1 ≤ L ∧ L ≤ 4) ∧ (L : Int) = tV I n (tE I n 0) ∧ PS M0 I n (L : Int) σ M
set_option maxHeartbeats 3000000 in
theorem rs_63 {X : qX} {v : Int} {k0 : Nat} (hL : 1 ≤ L ∧ L ≤ 4) (h : ((L : Int) = tV I n (tE I n 0) ∧ ∃ σ, PS M0 I n (L : Int) σ M ∧ n ≤ (k0 : Int) + σ.1 ∧ R = linesS I n L k0 σ) ∨ ∃ e, FS M0 (L : Int) e M ∧ R = .inl e) : QW X (8, cX8_reads, 2, none, 0, 13) (qph (rsP M0 I n R)) 0 63 [some (.ref 37), some (.int (zI v))] [] M := by
  refine q_lp (α := Nat × qM) (fun x => x.1) (fun x => (∃ σ k, PS M0 I n (L : Int) σ x.2 ∧ n ≤ ((k : Nat) : Int) + σ.1 ∧ R = linesS I n L k σ ∧ (n - σ.1).toNat + 1 ≤ x.1 ∧ (L : Int) = tV I n (tE I n 0)) ∨ (∃ e, FS M0 (L : Int) e x.2 ∧ R = .inl e) ∨ ∃ σ, R = .inl (1, tS I n σ.1) ∧ PS M0 I n (L : Int) σ x.2 ∧ tK I n σ.1 ≠ 3 ∧ tK I n σ.1 ≠ 0) (fun _ => [some (.ref 37), some (.int (zI v))]) (fun x => x.2) (n.toNat + 1, M) rfl rfl (by
      rcases h with ⟨hLv, σ, h1, h2, h3⟩ | h
      · exact Or.inl ⟨σ, k0, h1, h2, h3, by dsimp only; have := h1.2.2.2.2.2.1; omega, hLv⟩
      · exact Or.inr (Or.inl h)) (fun x hx ih => ?_)
  obtain ⟨c, W⟩ := x
  dsimp only at hx ih ⊢
  rcases hx with ⟨σ, k, hP, hk, hR, hc, hLv⟩ | ⟨e, hF, hR⟩ | ⟨σ, hR, hP, hk3, hk0⟩
  · obtain ⟨b1, b2, b3, b4, b5, b6, b7, b8, b9, b10, b11, b12⟩ := id hP
    have hkk := tK_in I n σ.1
    have hE := tE_in (I := I) b6.2
    have hS := tS_in (I := I) b6.2
    refine q_aload_n dX8_reads_63 rfl ?_
    refine q_geti (j := 29) dX8_reads_64 fl_8_182 rfl rfl rfl ?_
    rw [b5]
    refine q_if_ne (tgt := 89) dX8_reads_67 rfl (by (first | (unfold zR; omega) | (unfold zLR; omega) | omega | (simp only [zR, qup] at *; omega) | (simp [zR, qup]; omega) | (simp [zR, qup]; done))) (fun h67 => absurd h67 (by exact fun g => g rfl)) (fun h67 => ?_)
    refine q_aload_n dX8_reads_70 rfl ?_
    refine q_geti (j := 27) dX8_reads_71 fl_8_170 rfl rfl rfl ?_
    refine q_iconst dX8_reads_74 ?_
    rw [b9]
    refine q_icmp_ne (tgt := 89) dX8_reads_75 rfl (by (first | (unfold zR; omega) | (unfold zLR; omega) | omega | (simp only [zR, qup] at *; omega) | (simp [zR, qup]; omega) | (simp [zR, qup]; done))) (by (first | (unfold zR; omega) | (unfold zLR; omega) | omega | (simp only [zR, qup] at *; omega) | (simp [zR, qup]; omega) | (simp [zR, qup]; done))) (fun h75 => ?_) (fun h75 => ?_)
    ·
      skip
      refine q_aload_n dX8_reads_89 rfl ?_
      refine q_aload_n dX8_reads_90 rfl ?_
      refine q_geti (j := 27) dX8_reads_91 fl_8_170 rfl rfl rfl ?_
      rw [b9]
      refine q_if_eq (tgt := 101) dX8_reads_94 rfl (by (first | (unfold zR; omega) | (unfold zLR; omega) | omega | (simp only [zR, qup] at *; omega) | (simp [zR, qup]; omega) | (simp [zR, qup]; done))) (fun h94 => ?_) (fun h94 => ?_)
      ·
        refine q_iconst dX8_reads_101 ?_
        refine q_iconst dX8_reads_102 ?_
        have hR2 : R = .inr σ := by
          rw [hR]
          cases k with
          | zero => rw [linesS, if_pos h94]
          | succ k => rw [linesS, if_pos h94]
        refine q_V2 dX8_reads_103 ml_8_215 md_X8_failsIf m_failsIf0 rfl rfl rfl (by first | decide | omega) (Nat.le_of_ble_eq_true rfl) (Nat.le_of_ble_eq_true rfl) (qk_v ?_)
        refine q_return dX8_reads_106 ?_
        exact ⟨rfl, Or.inr ⟨σ, L, hR2, hL, hLv, hP⟩⟩
      ·
        refine q_iconst dX8_reads_97 ?_
        refine q_goto (tgt := 102) dX8_reads_98 rfl ?_
        refine q_iconst dX8_reads_102 ?_
        have hR2 : R = flS I n 1 σ.1 := by
          rw [hR]
          cases k with
          | zero => rw [linesS, if_neg h94]
          | succ k => rw [linesS, if_neg h94, if_pos h75]
        refine q_V2 dX8_reads_103 ml_8_215 md_X8_failsIf (m_failsIf1 hP (by decide) (by (first | (unfold zR; omega) | (unfold zLR; omega) | omega | (simp only [zR, qup] at *; omega) | (simp [zR, qup]; omega) | (simp [zR, qup]; done)))) rfl rfl rfl (by first | decide | omega) (Nat.le_of_ble_eq_true rfl) (Nat.le_of_ble_eq_true rfl) (qk_h (fun N103 hq103 => ?_))
        refine q_return dX8_reads_106 ?_
        exact ⟨rfl, Or.inl ⟨_, _, hR2, hq103⟩⟩
    ·
      refine q_aload_n dX8_reads_78 rfl ?_
      refine q_V0 dX8_reads_79 ml_8_191 md_X8_token (m_token (p := tE I n σ.1) b2 b3 b7 (by omega)) rfl rfl rfl (by first | decide | omega) (Nat.le_of_ble_eq_true rfl) (Nat.le_of_ble_eq_true rfl) (qk_h (fun N79 hq79 => ?_))
      obtain ⟨u, hu, rfl⟩ := hq79
      refine q_aload_n dX8_reads_82 rfl ?_
      refine q_V0 dX8_reads_83 ml_8_274 md_X8_line (m_line hL.2 (PS_tok hP hu)) rfl rfl rfl (by first | decide | omega) (Nat.le_of_ble_eq_true rfl) (Nat.le_of_ble_eq_true rfl) (qk_h (fun N83 hq83 => ?_))
      refine q_goto (tgt := 63) dX8_reads_86 rfl ?_
      have hlt : tS I n σ.1 < n := Classical.byContradiction fun q => by have := (tK_0 (I := I) (n := n) (p := σ.1)).2 (by omega); omega
      have hE2 := tE_ge (I := I) (n := n) (p := tE I n σ.1) (by omega)
      obtain ⟨k', rfl⟩ : ∃ k', k = k' + 1 := ⟨k - 1, by omega⟩
      rw [linesS, if_neg (by omega), if_neg (by omega)] at hR
      rcases hq83 with hX | ⟨σ2, hr, hP3, g3, g0⟩
      · cases hr : lineS I n L (tE I n σ.1, σ.2) with
        | inl e =>
          rw [hr] at hX hR
          exact ih (0, N83) _ _ (Or.inr (Or.inl ⟨e, hX, hR⟩)) (by dsimp only; omega) rfl rfl
        | inr σ2 =>
          rw [hr] at hX hR
          have hp := line_pos (σ := (tE I n σ.1, σ.2)) ⟨by dsimp only; omega, by dsimp only; omega⟩ hr
          dsimp only at hp
          exact ih ((n - σ2.1).toNat + 1, N83) _ _ (Or.inl ⟨σ2, k', hX, by omega, hR, Nat.le_refl _, hLv⟩) (by dsimp only; omega) rfl rfl
      · rw [hr] at hR
        exact ih (0, N83) _ _ (Or.inr (Or.inr ⟨σ2, hR, hP3, g3, g0⟩)) (by dsimp only; omega) rfl rfl
  · obtain ⟨a1, a2, a3, a4, a5, a6, a7, a8⟩ := id hF
    refine q_aload_n dX8_reads_63 rfl ?_
    refine q_geti (j := 29) dX8_reads_64 fl_8_182 rfl rfl rfl ?_
    rw [a3]
    refine q_if_ne (tgt := 89) dX8_reads_67 rfl (by (first | (unfold zR; omega) | (unfold zLR; omega) | omega | (simp only [zR, qup] at *; omega) | (simp [zR, qup]; omega) | (simp [zR, qup]; done))) (fun h67 => ?_) (fun h67 => absurd h67 (by exact a4))
    refine q_aload_n dX8_reads_89 rfl ?_
    refine q_aload_n dX8_reads_90 rfl ?_
    refine q_geti (j := 27) dX8_reads_91 fl_8_170 rfl rfl rfl ?_
    refine q_if_eq (tgt := 101) dX8_reads_94 rfl (by (first | (unfold zR; omega) | (unfold zLR; omega) | omega | (simp only [zR, qup] at *; omega) | (simp [zR, qup]; omega) | (simp [zR, qup]; done))) (fun h94 => ?_) (fun h94 => ?_)
    ·
      refine q_iconst dX8_reads_101 ?_
      refine q_iconst dX8_reads_102 ?_
      refine q_V2 dX8_reads_103 ml_8_215 md_X8_failsIf (m_failsIfF hF (by first | exact Or.inl rfl | exact Or.inr rfl)) rfl rfl rfl (by first | decide | omega) (Nat.le_of_ble_eq_true rfl) (Nat.le_of_ble_eq_true rfl) (qk_h (fun N103 hq103 => ?_))
      refine q_return dX8_reads_106 ?_
      exact ⟨rfl, Or.inl ⟨e, _, hR, hq103⟩⟩
    ·
      refine q_iconst dX8_reads_97 ?_
      refine q_goto (tgt := 102) dX8_reads_98 rfl ?_
      refine q_iconst dX8_reads_102 ?_
      refine q_V2 dX8_reads_103 ml_8_215 md_X8_failsIf (m_failsIfF hF (by first | exact Or.inl rfl | exact Or.inr rfl)) rfl rfl rfl (by first | decide | omega) (Nat.le_of_ble_eq_true rfl) (Nat.le_of_ble_eq_true rfl) (qk_h (fun N103 hq103 => ?_))
      refine q_return dX8_reads_106 ?_
      exact ⟨rfl, Or.inl ⟨e, _, hR, hq103⟩⟩
  · obtain ⟨b1, b2, b3, b4, b5, b6, b7, b8, b9, b10, b11, b12⟩ := id hP
    have hkk := tK_in I n σ.1
    refine q_aload_n dX8_reads_63 rfl ?_
    refine q_geti (j := 29) dX8_reads_64 fl_8_182 rfl rfl rfl ?_
    rw [b5]
    refine q_if_ne (tgt := 89) dX8_reads_67 rfl (by (first | (unfold zR; omega) | (unfold zLR; omega) | omega | (simp only [zR, qup] at *; omega) | (simp [zR, qup]; omega) | (simp [zR, qup]; done))) (fun h67 => absurd h67 (by exact fun g => g rfl)) (fun h67 => ?_)
    refine q_aload_n dX8_reads_70 rfl ?_
    refine q_geti (j := 27) dX8_reads_71 fl_8_170 rfl rfl rfl ?_
    refine q_iconst dX8_reads_74 ?_
    rw [b9]
    refine q_icmp_ne (tgt := 89) dX8_reads_75 rfl (by (first | (unfold zR; omega) | (unfold zLR; omega) | omega | (simp only [zR, qup] at *; omega) | (simp [zR, qup]; omega) | (simp [zR, qup]; done))) (by (first | (unfold zR; omega) | (unfold zLR; omega) | omega | (simp only [zR, qup] at *; omega) | (simp [zR, qup]; omega) | (simp [zR, qup]; done))) (fun h75 => ?_) (fun h75 => absurd h75 (by exact hk3))
    refine q_aload_n dX8_reads_89 rfl ?_
    refine q_aload_n dX8_reads_90 rfl ?_
    refine q_geti (j := 27) dX8_reads_91 fl_8_170 rfl rfl rfl ?_
    rw [b9]
    refine q_if_eq (tgt := 101) dX8_reads_94 rfl (by (first | (unfold zR; omega) | (unfold zLR; omega) | omega | (simp only [zR, qup] at *; omega) | (simp [zR, qup]; omega) | (simp [zR, qup]; done))) (fun h94 => absurd h94 (by exact hk0)) (fun h94 => ?_)
    refine q_iconst dX8_reads_97 ?_
    refine q_goto (tgt := 102) dX8_reads_98 rfl ?_
    refine q_iconst dX8_reads_102 ?_
    refine q_V2 dX8_reads_103 ml_8_215 md_X8_failsIf (m_failsIf1 hP (by decide) (by (first | (unfold zR; omega) | (unfold zLR; omega) | omega | (simp only [zR, qup] at *; omega) | (simp [zR, qup]; omega) | (simp [zR, qup]; done)))) rfl rfl rfl (by first | decide | omega) (Nat.le_of_ble_eq_true rfl) (Nat.le_of_ble_eq_true rfl) (qk_h (fun N103 hq103 => ?_))
    refine q_return dX8_reads_106 ?_
    exact ⟨rfl, Or.inl ⟨_, _, hR, hq103⟩⟩
theorem FS_9 {v : Int} (h : FS M0 Lq e M) : FS M0 v e (qup M 37 9 v) := by
  obtain ⟨a1, a2, a3, a4, a5, a6, a7, a8, a9⟩ := h
  refine ⟨MS_up a1 (by omega), qup_s _ _ _ _, by rw [qup_k _ _ _ (by decide)]; exact a3, a4, a5, by rw [qup_k _ _ _ (by decide)]; exact a6, by rw [qup_k _ _ _ (by decide)]; exact a7, ?_, ?_⟩
  · rw [qup_k (k := 9) (k' := 27) _ _ _ (by decide), qup_k (k := 9) (k' := 28) _ _ _ (by decide)]; exact a8
  · rw [qup_k _ _ _ (by decide)]; exact a9
theorem PS_9 {v : Int} (h : PS M0 I n Lq σ M) (hm : σ.2.1 = 0) : PS M0 I n v σ (qup M 37 9 v) := by
  obtain ⟨a1, a2, a3, a4, a5, a6, a7, a8, a9, a10, a11, a12, a13, a14, a15, a16, a17⟩ := h
  have e37 : ∀ j : Int, j ≠ 9 → qup M 37 9 v 37 j = M 37 j := fun j hj => qup_k _ _ _ hj
  refine ⟨MS_up a1 (by omega), ⟨a2.1, a2.2.1, fun i i0 i1 => by rw [qup_o _ _ _ _ (by decide)]; exact a2.2.2 i i0 i1⟩, by rw [e37 _ (by decide)]; exact a3, qup_s _ _ _ _, by rw [e37 _ (by decide)]; exact a5, a6, by rw [e37 _ (by decide)]; exact a7, by rw [e37 _ (by decide)]; exact a8, by rw [e37 _ (by decide)]; exact a9, fun h => by rw [e37 _ (by decide)]; exact a10 h, fun h => by rw [e37 _ (by decide)]; exact a11 h, by rw [e37 _ (by decide)]; exact a12, a13, fun k k0 k1 => by omega, fun i i0 i1 => by omega, fun k i k0 k1 => by omega, fun k i k0 k1 => by omega⟩
theorem tNum_v {a b p z : Int} (h : ∀ k, tNum I n a b p k = k z (tE I n p)) : z = tV I n p := by
  have h1 := h (fun a _ => .inl (a, 0))
  have h2 := h (fun _ _ => .inr (0, 0, fun _ => 0, fun _ _ => 0))
  unfold tNum at h1 h2
  by_cases g : tK I n p ≠ 2
  · rw [if_pos g] at h2; exact absurd h2 (by unfold flS; exact fun w => by cases w)
  · rw [if_neg g] at h1 h2
    by_cases g2 : tV I n p < a ∨ b < tV I n p
    · rw [if_pos g2] at h2; exact absurd h2 (by unfold flS; exact fun w => by cases w)
    · rw [if_neg g2] at h1
      injection h1 with h1
      injection h1 with h1 _
      exact h1.symm
set_option maxHeartbeats 1500000 in
theorem m_reads (hB : inM M I n) : qCt mX8_reads 0 13 [.ref 37, .int (zI n)] M (qph (rsP M I n (parseS I n))) := by
  have hn := hB.1
  have hE := tE_ge (I := I) (n := n) (p := 0) ⟨Int.le_refl 0, hn⟩
  refine q_intro (own := 8) (L := [some (.ref 37), some (.int (zI n))]) md_X8_reads rfl rfl rfl (Nat.le_of_ble_eq_true rfl) (fun X => ?_)
  refine q_aload_n dX8_reads_0 rfl ?_
  refine q_iload_n dX8_reads_1 rfl ?_
  refine q_puti (j := 24) dX8_reads_2 fl_8_158 rfl rfl rfl rfl rfl ?_
  refine q_aload_n dX8_reads_5 rfl ?_
  refine q_iconst dX8_reads_6 ?_
  refine q_puti (j := 25) dX8_reads_7 fl_8_161 rfl rfl rfl rfl rfl ?_
  refine q_aload_n dX8_reads_10 rfl ?_
  refine q_iconst dX8_reads_11 ?_
  refine q_puti (j := 29) dX8_reads_12 fl_8_182 rfl rfl rfl rfl rfl ?_
  refine q_aload_n dX8_reads_15 rfl ?_
  refine q_iconst dX8_reads_16 ?_
  refine q_puti (j := 30) dX8_reads_17 fl_8_185 rfl rfl rfl rfl rfl ?_
  refine q_aload_n dX8_reads_20 rfl ?_
  refine q_iconst dX8_reads_21 ?_
  refine q_puti (j := 31) dX8_reads_22 fl_8_208 rfl rfl rfl rfl rfl ?_
  have w37 : ∀ j : Int, j ≠ 24 → j ≠ 25 → j ≠ 29 → j ≠ 30 → j ≠ 31 → qup (qup (qup (qup (qup M 37 24 n) 37 25 0) 37 29 0) 37 30 (-1)) 37 31 0 37 j = M 37 j := fun j h1 h2 h3 h4 h5 => by rw [qup_k _ _ _ h5, qup_k _ _ _ h4, qup_k _ _ _ h3, qup_k _ _ _ h2, qup_k _ _ _ h1]
  have w24 : qup (qup (qup (qup (qup M 37 24 n) 37 25 0) 37 29 0) 37 30 (-1)) 37 31 0 37 24 = n := by rw [qup_k _ _ _ (by decide), qup_k _ _ _ (by decide), qup_k _ _ _ (by decide), qup_k _ _ _ (by decide), qup_s]
  have w25 : qup (qup (qup (qup (qup M 37 24 n) 37 25 0) 37 29 0) 37 30 (-1)) 37 31 0 37 25 = 0 := by rw [qup_k _ _ _ (by decide), qup_k _ _ _ (by decide), qup_k _ _ _ (by decide), qup_s]
  have w29 : qup (qup (qup (qup (qup M 37 24 n) 37 25 0) 37 29 0) 37 30 (-1)) 37 31 0 37 29 = 0 := by rw [qup_k _ _ _ (by decide), qup_k _ _ _ (by decide), qup_s]
  have w31 : qup (qup (qup (qup (qup M 37 24 n) 37 25 0) 37 29 0) 37 30 (-1)) 37 31 0 37 31 = 0 := qup_s _ _ _ _
  have wo : ∀ u : Nat, u ≠ 37 → qup (qup (qup (qup (qup M 37 24 n) 37 25 0) 37 29 0) 37 30 (-1)) 37 31 0 u = M u := fun u hu => by funext j; rw [qup_o _ _ _ _ hu, qup_o _ _ _ _ hu, qup_o _ _ _ _ hu, qup_o _ _ _ _ hu, qup_o _ _ _ _ hu]
  have wMS : MS M (qup (qup (qup (qup (qup M 37 24 n) 37 25 0) 37 29 0) 37 30 (-1)) 37 31 0) := MS_up (MS_up (MS_up (MS_up (MS_up (MS_rf M) (by omega)) (by omega)) (by omega)) (by omega)) (by omega)
  generalize qup (qup (qup (qup (qup M 37 24 n) 37 25 0) 37 29 0) 37 30 (-1)) 37 31 0 = W at w37 w24 w25 w29 w31 wo wMS
  have hBW : inM W I n := ⟨hB.1, hB.2.1, fun i i0 i1 => by rw [wo 48 (by decide)]; exact hB.2.2 i i0 i1⟩
  refine q_aload_n dX8_reads_25 rfl ?_
  refine q_V0 dX8_reads_26 ml_8_191 md_X8_token (m_token (p := 0) hBW w24 w25 ⟨Int.le_refl 0, hn⟩) rfl rfl rfl (by first | decide | omega) (Nat.le_of_ble_eq_true rfl) (Nat.le_of_ble_eq_true rfl) (qk_h (fun N26 hq26 => ?_))
  obtain ⟨u, hu, rfl⟩ := hq26
  have hP0 : PS M I n (M 37 9) (0, 0, fun _ => 0, fun _ _ => 0) (mlx W (tE I n 0) (tS I n 0) (tK I n 0) u) := by
    refine ⟨MS_tr wMS (mlx_MS _ _ _ _ _), inM_lx hBW, ?_, ?_, ?_, ⟨Int.le_refl 0, hn⟩, mlx_25, mlx_26, mlx_27, fun h => by rw [mlx_28]; exact (hu h).2, fun h => by rw [mlx_28]; exact (hu h).1, ?_, ⟨Int.le_refl 0, by decide⟩, fun k k0 k1 => absurd k1 (by dsimp only; omega), fun i i0 i1 => absurd i1 (by dsimp only; omega), fun k i k0 k1 => absurd k1 (by dsimp only; omega), fun k i k0 k1 => absurd k1 (by dsimp only; omega)⟩
    · rw [mlx_37 (by decide) (by decide) (by decide) (by decide)]; exact w24
    · rw [mlx_37 (by decide) (by decide) (by decide) (by decide)]; exact w37 9 (by decide) (by decide) (by decide) (by decide) (by decide)
    · rw [mlx_37 (by decide) (by decide) (by decide) (by decide)]; exact w29
    · rw [mlx_37 (by decide) (by decide) (by decide) (by decide)]; exact w31
  refine q_aload_n dX8_reads_29 rfl ?_
  refine q_aload_n dX8_reads_30 rfl ?_
  refine q_ldcwS (o := 100) (tx := "level") dX8_reads_31 (by decide +kernel) ?_
  refine q_V1 dX8_reads_34 ml_8_248 md_X8_isWord (m_isWord (i := 0) (by omega) hP0) rfl rfl rfl (by first | decide | omega) (Nat.le_of_ble_eq_true rfl) (Nat.le_of_ble_eq_true rfl) (qk_e ?_)
  refine q_if_ne (tgt := 44) dX8_reads_37 rfl (by exact zb_R _) (fun h37 => ?_) (fun h37 => ?_)
  ·
    refine q_iconst dX8_reads_44 ?_
    refine q_iconst dX8_reads_45 ?_
    have hw := zbp h37
    have hps : parseS I n = tNum I n 1 4 (tE I n 0) (fun L p2 => linesS I n L.toNat n.toNat (p2, 0, fun _ => 0, fun _ _ => 0)) := by unfold parseS; rw [rif_t hw]
    refine q_V2 dX8_reads_46 ml_8_215 md_X8_failsIf m_failsIf0 rfl rfl rfl (by first | decide | omega) (Nat.le_of_ble_eq_true rfl) (Nat.le_of_ble_eq_true rfl) (qk_v ?_)
    refine q_aload_n dX8_reads_49 rfl ?_
    refine q_V0 dX8_reads_50 ml_8_205 md_X8_goesOn (m_goesOnP hP0) rfl rfl rfl (by first | decide | omega) (Nat.le_of_ble_eq_true rfl) (Nat.le_of_ble_eq_true rfl) (qk_h (fun N50 hq50 => ?_))
    refine q_aload_n dX8_reads_53 rfl ?_
    refine q_aload_n dX8_reads_54 rfl ?_
    refine q_iconst dX8_reads_55 ?_
    refine q_iconst dX8_reads_56 ?_
    refine q_V2 dX8_reads_57 ml_8_228 md_X8_takes (m_takesP hq50 (least := 1) (most := 4) (by (first | (unfold zR; omega) | (unfold zLR; omega) | omega | (simp only [zR, qup] at *; omega) | (simp [zR, qup]; omega) | (simp [zR, qup]; done))) (by (first | (unfold zR; omega) | (unfold zLR; omega) | omega | (simp only [zR, qup] at *; omega) | (simp [zR, qup]; omega) | (simp [zR, qup]; done)))) rfl rfl rfl (by first | decide | omega) (Nat.le_of_ble_eq_true rfl) (Nat.le_of_ble_eq_true rfl) (qk_g (fun z57 N57 hq57 => ?_))
    refine q_puti (j := 9) dX8_reads_60 fl_8_83 rfl rfl rfl rfl rfl ?_
    dsimp only at hq57
    rcases hq57 with ⟨e, g1, rfl, g3⟩ | ⟨g1, g2, g3⟩
    · refine q_wk [some (.ref 37), some (.int (zI n))] (by simp only [wkB]; (repeat (first | exact rfl | exact trivial | refine ⟨rfl, ?_⟩))) ?_
      exact rs_63 (L := 1) (k0 := 0) ⟨by decide, by decide⟩ (Or.inr ⟨e, FS_9 g1, by rw [hps]; exact g3 _⟩)
    · have hzv := tNum_v g3
      obtain ⟨Lz, rfl⟩ := Int.eq_ofNat_of_zero_le (show 0 ≤ z57 by omega)
      refine q_wk [some (.ref 37), some (.int (zI n))] (by simp only [wkB]; (repeat (first | exact rfl | exact trivial | refine ⟨rfl, ?_⟩))) ?_
      refine rs_63 (L := Lz) (k0 := n.toNat) ⟨by omega, by omega⟩ (Or.inl ⟨hzv, _, PS_9 g1 rfl, by dsimp only; have := tE_ge (I := I) (n := n) (p := tE I n 0) (by omega); omega, ?_⟩)
      rw [hps, g3, Int.toNat_natCast]
  ·
    refine q_iconst dX8_reads_40 ?_
    refine q_goto (tgt := 45) dX8_reads_41 rfl ?_
    refine q_iconst dX8_reads_45 ?_
    have hw := zb_0.1 h37
    have hps : parseS I n = .inl (1, tS I n 0) := by unfold parseS; rw [rif_f hw]; rfl
    refine q_V2 dX8_reads_46 ml_8_215 md_X8_failsIf (m_failsIf1 hP0 (by decide) (by (first | (unfold zR; omega) | (unfold zLR; omega) | omega | (simp only [zR, qup] at *; omega) | (simp [zR, qup]; omega) | (simp [zR, qup]; done)))) rfl rfl rfl (by first | decide | omega) (Nat.le_of_ble_eq_true rfl) (Nat.le_of_ble_eq_true rfl) (qk_h (fun N46 hq46 => ?_))
    refine q_aload_n dX8_reads_49 rfl ?_
    refine q_V0 dX8_reads_50 ml_8_205 md_X8_goesOn (m_goesOnF hq46) rfl rfl rfl (by first | decide | omega) (Nat.le_of_ble_eq_true rfl) (Nat.le_of_ble_eq_true rfl) (qk_h (fun N50 hq50 => ?_))
    refine q_aload_n dX8_reads_53 rfl ?_
    refine q_aload_n dX8_reads_54 rfl ?_
    refine q_iconst dX8_reads_55 ?_
    refine q_iconst dX8_reads_56 ?_
    refine q_V2 dX8_reads_57 ml_8_228 md_X8_takes (m_takesF hq50 (least := 1) (most := 4) (by (first | (unfold zR; omega) | (unfold zLR; omega) | omega | (simp only [zR, qup] at *; omega) | (simp [zR, qup]; omega) | (simp [zR, qup]; done))) (by (first | (unfold zR; omega) | (unfold zLR; omega) | omega | (simp only [zR, qup] at *; omega) | (simp [zR, qup]; omega) | (simp [zR, qup]; done)))) rfl rfl rfl (by first | decide | omega) (Nat.le_of_ble_eq_true rfl) (Nat.le_of_ble_eq_true rfl) (qk_g (fun z57 N57 hq57 => ?_))
    refine q_puti (j := 9) dX8_reads_60 fl_8_83 rfl rfl rfl rfl rfl ?_
    obtain ⟨rfl, g1⟩ := hq57
    refine q_wk [some (.ref 37), some (.int (zI n))] (by simp only [wkB]; (repeat (first | exact rfl | exact trivial | refine ⟨rfl, ?_⟩))) ?_
    exact rs_63 (L := 1) (k0 := 0) ⟨by decide, by decide⟩ (Or.inr ⟨_, FS_9 g1, hps⟩)
end MRS


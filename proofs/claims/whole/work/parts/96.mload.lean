/-! The model: load. -/
def lnW (M : qM) (n : Int) : qM := fun o j => if o = 38 ∧ 0 ≤ j ∧ j < n then M 49 j else M o j
def lsW (M : qM) (m n : Int) : qM := fun o j => if o = 39 ∧ 0 ≤ j ∧ j < n then (if j < 256 * m then M 50 j else 0) else M o j
theorem lnW_o {M : qM} {n : Int} {o : Nat} (h : o ≠ 38) : lnW M n o = M o := by
  funext j
  unfold lnW
  rw [if_neg (fun w => h w.1)]
theorem lsW_o {M : qM} {m n : Int} {o : Nat} (h : o ≠ 39) : lsW M m n o = M o := by
  funext j
  unfold lsW
  rw [if_neg (fun w => h w.1)]
/-- the model behind a text that is right -/
def ldM (M : qM) (σ : qσ) (L : Nat) (M' : qM) : Prop := MI M' ∧ M' 37 0 = 0 ∧ M' 37 1 = 1 ∧ M' 37 2 = (L : Int) ∧ M' 37 3 = σ.2.1 ∧ M' 37 7 = 0 ∧ M' 37 21 = 0 ∧ M' 37 22 = 0 ∧ M' 37 23 = -1 ∧ M' 37 35 = M 37 35 ∧ M' 41 0 = 0 ∧ M' 41 1 = 0 ∧ (∀ k, 0 ≤ k → k < σ.2.1 → nmR (fun j => M' 38 (6 * k + j)) (σ.2.2.1 k)) ∧ (∀ k i, 0 ≤ k → k < σ.2.1 → 0 ≤ i → i < p4 L → scl M' k i = σ.2.2.2 k i) ∧ (M' 48 = M 48 ∧ M' 51 = M 51) ∧ ∀ o, (o < 37 ∨ 51 < o) → M' o = M o
/-- what load leaves -/
def ldQ (M : qM) (n : Int) : Int → qM → Prop := fun z M' => (¬ (0 ≤ n ∧ n ≤ M 37 21) ∧ MS (qup M 37 0 1) M') ∨ ((0 ≤ n ∧ n ≤ M 37 21) ∧ ∃ e : Int × Int, e.1 ≠ 0 ∧ parseS (M 48) n = .inl e ∧ MS (qup (qup (qup (qup M 37 21 0) 37 22 e.1) 37 23 e.2) 37 0 2) M') ∨ ((0 ≤ n ∧ n ≤ M 37 21) ∧ ∃ (σ : qσ) (L : Nat), parseS (M 48) n = .inr σ ∧ (1 ≤ L ∧ L ≤ 4) ∧ (L : Int) = tV (M 48) n (tE (M 48) n 0) ∧ z = σ.2.1 ∧ ldM M σ L M')
section MLD
variable {M : qM} {n : Int}
set_option maxHeartbeats 3000000 in
theorem o_load (hM : MI M) (hn : zR n) : qCt mX8_load 0 14 [.ref 37, .int (zI n)] M (qpg (ldQ M n)) := by
  obtain ⟨a1, a2, a3, a4, a5, a6, a7, a8, a9, a10, a11, a12, a13, a14⟩ := id hM
  have z01 := zb_01 (0 ≤ n ∧ n ≤ M 37 21)
  refine q_intro (own := 8) (L := [some (.ref 37), some (.int (zI n)), none]) md_X8_load rfl rfl rfl (Nat.le_of_ble_eq_true rfl) (fun X => ?_)
  refine q_aload_n dX8_load_0 rfl ?_
  refine q_iconst dX8_load_1 ?_
  refine q_puti (j := 0) dX8_load_2 fl_8_57 rfl rfl rfl rfl rfl ?_
  refine q_aload_n dX8_load_5 rfl ?_
  refine q_iload_n dX8_load_6 rfl ?_
  refine q_iconst dX8_load_7 ?_
  refine q_aload_n dX8_load_8 rfl ?_
  refine q_geti (j := 21) dX8_load_9 fl_8_152 rfl rfl rfl ?_
  rw [qup_k _ _ _ (by decide)]
  refine q_S3 dX8_load_12 ml_8_71 md_X8_in (m_in hn (by (first | (unfold zR; omega) | (unfold zLR; omega) | omega | (simp only [zR, qup] at *; omega) | (simp [zR, qup]; omega) | (simp [zR, qup]; done))) (by (first | (unfold zR; omega) | (unfold zLR; omega) | omega | (simp only [zR, qup] at *; omega) | (simp [zR, qup]; omega) | (simp [zR, qup]; done)))) rfl (by first | decide | omega) (Nat.le_of_ble_eq_true rfl) (Nat.le_of_ble_eq_true rfl) (qk_e ?_)
  refine q_if_ne (tgt := 22) dX8_load_15 rfl (by exact zb_R _) (fun h15 => ?_) (fun h15 => ?_)
  ·
    refine q_iconst dX8_load_22 ?_
    refine q_iconst dX8_load_23 ?_
    have hgb : (if (0 : Int) = 1 then (1 : Int) else 0) = (if 0 ≤ n ∧ n ≤ M 37 21 then 0 else 1) := (if_pos (zb_1.1 (by omega))).symm
    refine q_V2 dX8_load_24 ml_8_64 md_X8_refuse (m_refH (by omega) (by (first | (unfold zR; omega) | (unfold zLR; omega) | omega | (simp only [zR, qup] at *; omega) | (simp [zR, qup]; omega) | (simp [zR, qup]; done))) (by (first | (unfold zR; omega) | (unfold zLR; omega) | omega | (simp only [zR, qup] at *; omega) | (simp [zR, qup]; omega) | (simp [zR, qup]; done))) hgb) rfl rfl rfl (by first | decide | omega) (Nat.le_of_ble_eq_true rfl) (Nat.le_of_ble_eq_true rfl) (qk_e ?_)
    refine q_if_eq (tgt := 32) dX8_load_27 rfl (by exact zb_R _) (fun h27 => ?_) (fun h27 => ?_)
    ·
      have hgz := zbz h27
      have hin : 0 ≤ n ∧ n ≤ M 37 21 := Classical.byContradiction fun q => by rw [gor_0 rfl, if_neg q] at hgz; omega
      rw [hgz]
      have w37 : ∀ j : Int, j ≠ 0 → j ≠ 21 → qup (qup M 37 0 0) 37 21 0 37 j = M 37 j := fun j h1 h2 => by rw [qup_k _ _ _ h2, qup_k _ _ _ h1]
      have w0 : qup (qup M 37 0 0) 37 21 0 37 0 = 0 := by rw [qup_k _ _ _ (by decide), qup_s]
      have w21 : qup (qup M 37 0 0) 37 21 0 37 21 = 0 := qup_s _ _ _ _
      have wo : ∀ u : Nat, u ≠ 37 → qup (qup M 37 0 0) 37 21 0 u = M u := fun u hu => by funext j; rw [qup_o _ _ _ _ hu, qup_o _ _ _ _ hu]
      have hB : inM (qup (qup M 37 0 0) 37 21 0) (M 48) n := ⟨hin.1, by omega, fun i i0 i1 => ⟨by rw [wo 48 (by decide)], a10 i i0 (by omega)⟩⟩
      refine q_aload_n dX8_load_32 rfl ?_
      refine q_iconst dX8_load_33 ?_
      refine q_puti (j := 21) dX8_load_34 fl_8_152 rfl rfl rfl rfl rfl ?_
      generalize hWq : qup (qup M 37 0 0) 37 21 0 = W at w37 w0 w21 wo hB
      refine q_aload_n dX8_load_37 rfl ?_
      refine q_iload_n dX8_load_38 rfl ?_
      refine q_V1 dX8_load_39 ml_8_277 md_X8_reads (m_reads hB) rfl rfl rfl (by first | decide | omega) (Nat.le_of_ble_eq_true rfl) (Nat.le_of_ble_eq_true rfl) (qk_h (fun N39 hq39 => ?_))
      rcases hq39 with ⟨e, Lq, hR, hF⟩ | ⟨σ, L, hR, hL, hLv, hP⟩
      · obtain ⟨f1, f2, f3, f4, f5, f6, f7⟩ := id hF
        have g0 : N39 37 0 = 0 := by rw [f1.2 0 (by omega)]; exact w0
        have x0 : ∀ v1 v2, qup (qup N39 37 22 v1) 37 23 v2 37 0 = 0 := fun v1 v2 => by rw [qup_k _ _ _ (by decide), qup_k _ _ _ (by decide)]; exact g0
        have x29 : ∀ v1 v2, qup (qup N39 37 22 v1) 37 23 v2 37 29 = e.1 := fun v1 v2 => by rw [qup_k _ _ _ (by decide), qup_k _ _ _ (by decide)]; exact f3
        have y29 : ∀ v1, qup N39 37 22 v1 37 29 = e.1 := fun v1 => by rw [qup_k _ _ _ (by decide)]; exact f3
        have y30 : ∀ v1, qup N39 37 22 v1 37 30 = e.2 := fun v1 => by rw [qup_k _ _ _ (by decide)]; exact f6
        refine q_aload_n dX8_load_42 rfl ?_
        refine q_aload_n dX8_load_43 rfl ?_
        refine q_geti (j := 29) dX8_load_44 fl_8_182 rfl rfl rfl ?_
        rw [f3]
        refine q_puti (j := 22) dX8_load_47 fl_8_155 rfl rfl rfl rfl rfl ?_
        refine q_aload_n dX8_load_50 rfl ?_
        refine q_aload_n dX8_load_51 rfl ?_
        refine q_geti (j := 29) dX8_load_52 fl_8_182 rfl rfl rfl ?_
        rw [y29]
        refine q_if_ne (tgt := 62) dX8_load_55 rfl (by (first | (unfold zR; omega) | (unfold zLR; omega) | omega | (simp only [zR, qup] at *; omega) | (simp [zR, qup]; omega) | (simp [zR, qup]; done))) (fun h55 => ?_) (fun h55 => absurd h55 (by exact f4))
        refine q_aload_n dX8_load_62 rfl ?_
        refine q_geti (j := 30) dX8_load_63 fl_8_185 rfl rfl rfl ?_
        rw [y30]
        refine q_puti (j := 23) dX8_load_66 fl_8_44 rfl rfl rfl rfl rfl ?_
        refine q_aload_n dX8_load_69 rfl ?_
        refine q_aload_n dX8_load_70 rfl ?_
        refine q_geti (j := 29) dX8_load_71 fl_8_182 rfl rfl rfl ?_
        rw [x29]
        refine q_if_eq (tgt := 81) dX8_load_74 rfl (by (first | (unfold zR; omega) | (unfold zLR; omega) | omega | (simp only [zR, qup] at *; omega) | (simp [zR, qup]; omega) | (simp [zR, qup]; done))) (fun h74 => absurd h74 (by exact f4)) (fun h74 => ?_)
        refine q_iconst dX8_load_77 ?_
        refine q_goto (tgt := 82) dX8_load_78 rfl ?_
        refine q_iconst dX8_load_82 ?_
        refine q_V2 dX8_load_83 ml_8_64 md_X8_refuse (m_refuse (Or.inr rfl) (by rw [x0]; (first | (unfold zR; omega) | (unfold zLR; omega) | omega | (simp only [zR, qup] at *; omega) | (simp [zR, qup]; omega) | (simp [zR, qup]; done))) (by (first | (unfold zR; omega) | (unfold zLR; omega) | omega | (simp only [zR, qup] at *; omega) | (simp [zR, qup]; omega) | (simp [zR, qup]; done)))) rfl rfl rfl (by first | decide | omega) (Nat.le_of_ble_eq_true rfl) (Nat.le_of_ble_eq_true rfl) (qk_e ?_)
        rw [show rfW (qup (qup N39 37 22 e.1) 37 23 e.2) 1 2 = qup (qup (qup N39 37 22 e.1) 37 23 e.2) 37 0 2 from if_pos ⟨x0 _ _, rfl⟩, qup_s]
        refine q_if_eq (tgt := 91) dX8_load_86 rfl (by exact zb_R _) (fun h86 => ?_) (fun h86 => ?_)
        ·
          exact absurd (zbz h86) (by decide)
        ·
          refine q_iconst dX8_load_89 ?_
          refine q_ireturn dX8_load_90 ?_
          refine ⟨0, rfl, Or.inr (Or.inl ⟨hin, e, f4, hR, ?_⟩)⟩
          refine ⟨fun u h1 h2 h3 h4 h5 h6 h7 h8 h9 => ?_, fun j hj => ?_⟩
          · funext i
            rw [qup_o _ _ _ _ h1, qup_o _ _ _ _ h1, qup_o _ _ _ _ h1, f1.1 u h1 h2 h3 h4 h5 h6 h7 h8 h9, wo u h1, qup_o _ _ _ _ h1, qup_o _ _ _ _ h1, qup_o _ _ _ _ h1, qup_o _ _ _ _ h1]
          · by_cases e0 : j = 0
            · subst e0; rw [qup_s, qup_s]
            · rw [qup_k _ _ _ e0, qup_k _ _ _ e0]
              by_cases e1 : j = 23
              · subst e1; rw [qup_s, qup_s]
              · rw [qup_k _ _ _ e1, qup_k _ _ _ e1]
                by_cases e2 : j = 22
                · subst e2; rw [qup_s, qup_s]
                · rw [qup_k _ _ _ e2, qup_k _ _ _ e2, f1.2 j hj]
                  by_cases e3 : j = 21
                  · subst e3; rw [qup_s]; exact w21
                  · rw [qup_k _ _ _ e3]; exact w37 j e0 e3
      · obtain ⟨b1, b2, b3, b4, b5, b6, b7, b8, b9, b10, b11, b12, b13, b14, b15, b16, b17⟩ := id hP
        have g37 : ∀ j, (j = 0 ∨ j = 1 ∨ j = 2 ∨ j = 3 ∨ j = 7 ∨ j = 21 ∨ j = 22 ∨ j = 23 ∨ j = 35) → N39 37 j = W 37 j := b1.2
        have x37 : ∀ v1 v2 j, j ≠ 22 → j ≠ 23 → qup (qup N39 37 22 v1) 37 23 v2 37 j = N39 37 j := fun v1 v2 j h1 h2 => by rw [qup_k _ _ _ h2, qup_k _ _ _ h1]
        have y29 : ∀ v1, qup N39 37 22 v1 37 29 = 0 := fun v1 => by rw [qup_k _ _ _ (by decide)]; exact b5
        have x0 : ∀ v1 v2, qup (qup N39 37 22 v1) 37 23 v2 37 0 = 0 := fun v1 v2 => by rw [x37 _ _ _ (by decide) (by decide), g37 0 (by omega)]; exact w0
        refine q_aload_n dX8_load_42 rfl ?_
        refine q_aload_n dX8_load_43 rfl ?_
        refine q_geti (j := 29) dX8_load_44 fl_8_182 rfl rfl rfl ?_
        rw [b5]
        refine q_puti (j := 22) dX8_load_47 fl_8_155 rfl rfl rfl rfl rfl ?_
        refine q_aload_n dX8_load_50 rfl ?_
        refine q_aload_n dX8_load_51 rfl ?_
        refine q_geti (j := 29) dX8_load_52 fl_8_182 rfl rfl rfl ?_
        rw [y29]
        refine q_if_ne (tgt := 62) dX8_load_55 rfl (by (first | (unfold zR; omega) | (unfold zLR; omega) | omega | (simp only [zR, qup] at *; omega) | (simp [zR, qup]; omega) | (simp [zR, qup]; done))) (fun h55 => absurd h55 (by exact fun g => g rfl)) (fun h55 => ?_)
        refine q_iconst dX8_load_58 ?_
        refine q_goto (tgt := 66) dX8_load_59 rfl ?_
        refine q_puti (j := 23) dX8_load_66 fl_8_44 rfl rfl rfl rfl rfl ?_
        refine q_aload_n dX8_load_69 rfl ?_
        refine q_aload_n dX8_load_70 rfl ?_
        refine q_geti (j := 29) dX8_load_71 fl_8_182 rfl rfl rfl ?_
        rw [x37 _ _ _ (by decide) (by decide), b5]
        refine q_if_eq (tgt := 81) dX8_load_74 rfl (by (first | (unfold zR; omega) | (unfold zLR; omega) | omega | (simp only [zR, qup] at *; omega) | (simp [zR, qup]; omega) | (simp [zR, qup]; done))) (fun h74 => ?_) (fun h74 => absurd h74 (by exact fun g => g rfl))
        refine q_iconst dX8_load_81 ?_
        refine q_iconst dX8_load_82 ?_
        refine q_V2 dX8_load_83 ml_8_64 md_X8_refuse (m_refuse (Or.inl rfl) (by rw [x0]; (first | (unfold zR; omega) | (unfold zLR; omega) | omega | (simp only [zR, qup] at *; omega) | (simp [zR, qup]; omega) | (simp [zR, qup]; done))) (by (first | (unfold zR; omega) | (unfold zLR; omega) | omega | (simp only [zR, qup] at *; omega) | (simp [zR, qup]; omega) | (simp [zR, qup]; done)))) rfl rfl rfl (by first | decide | omega) (Nat.le_of_ble_eq_true rfl) (Nat.le_of_ble_eq_true rfl) (qk_e ?_)
        rw [show rfW (qup (qup N39 37 22 0) 37 23 (-1)) 0 2 = qup (qup N39 37 22 0) 37 23 (-1) from if_neg (by omega), x0]
        refine q_if_eq (tgt := 91) dX8_load_86 rfl (by exact zb_R _) (fun h86 => ?_) (fun h86 => ?_)
        ·
          refine q_aload_n dX8_load_91 rfl ?_
          refine q_iconst dX8_load_92 ?_
          refine q_putz (j := 1) dX8_load_93 fl_8_60 rfl rfl rfl rfl (by (first | (unfold zR; omega) | (unfold zLR; omega) | omega | (simp only [zR, qup] at *; omega) | (simp [zR, qup]; omega) | (simp [zR, qup]; done))) rfl ?_
          refine q_aload_n dX8_load_96 rfl ?_
          refine q_aload_n dX8_load_97 rfl ?_
          refine q_geti (j := 9) dX8_load_98 fl_8_83 rfl rfl rfl ?_
          rw [qup_k _ _ _ (by decide), x37 _ _ _ (by decide) (by decide), b4]
          refine q_puti (j := 2) dX8_load_101 fl_8_114 rfl rfl rfl rfl rfl ?_
          refine q_aload_n dX8_load_104 rfl ?_
          refine q_aload_n dX8_load_105 rfl ?_
          refine q_geti (j := 31) dX8_load_106 fl_8_208 rfl rfl rfl ?_
          rw [qup_k _ _ _ (by decide), qup_k _ _ _ (by decide), x37 _ _ _ (by decide) (by decide), b12]
          refine q_puti (j := 3) dX8_load_109 fl_8_68 rfl rfl rfl rfl rfl ?_
          refine q_iconst dX8_load_112 ?_
          refine q_istore_n dX8_load_113 (Nat.le_of_ble_eq_true rfl) rfl ?_
          have v37 : ∀ j : Int, j ≠ 1 → j ≠ 2 → j ≠ 3 → j ≠ 22 → j ≠ 23 → qup (qup (qup (qup (qup N39 37 22 0) 37 23 (-1)) 37 1 1) 37 2 (L : Int)) 37 3 σ.2.1 37 j = N39 37 j := fun j h1 h2 h3 h4 h5 => by rw [qup_k _ _ _ h3, qup_k _ _ _ h2, qup_k _ _ _ h1, x37 _ _ _ h4 h5]
          have v1 : qup (qup (qup (qup (qup N39 37 22 0) 37 23 (-1)) 37 1 1) 37 2 (L : Int)) 37 3 σ.2.1 37 1 = 1 := by rw [qup_k _ _ _ (by decide), qup_k _ _ _ (by decide), qup_s]
          have v2 : qup (qup (qup (qup (qup N39 37 22 0) 37 23 (-1)) 37 1 1) 37 2 (L : Int)) 37 3 σ.2.1 37 2 = L := by rw [qup_k _ _ _ (by decide), qup_s]
          have v3 : qup (qup (qup (qup (qup N39 37 22 0) 37 23 (-1)) 37 1 1) 37 2 (L : Int)) 37 3 σ.2.1 37 3 = σ.2.1 := qup_s _ _ _ _
          have v22 : qup (qup (qup (qup (qup N39 37 22 0) 37 23 (-1)) 37 1 1) 37 2 (L : Int)) 37 3 σ.2.1 37 22 = 0 := by rw [qup_k _ _ _ (by decide), qup_k _ _ _ (by decide), qup_k _ _ _ (by decide), qup_k _ _ _ (by decide), qup_s]
          have v23 : qup (qup (qup (qup (qup N39 37 22 0) 37 23 (-1)) 37 1 1) 37 2 (L : Int)) 37 3 σ.2.1 37 23 = -1 := by rw [qup_k _ _ _ (by decide), qup_k _ _ _ (by decide), qup_k _ _ _ (by decide), qup_s]
          have vo : ∀ u : Nat, u ≠ 37 → qup (qup (qup (qup (qup N39 37 22 0) 37 23 (-1)) 37 1 1) 37 2 (L : Int)) 37 3 σ.2.1 u = N39 u := fun u hu => by funext j; rw [qup_o _ _ _ _ hu, qup_o _ _ _ _ hu, qup_o _ _ _ _ hu, qup_o _ _ _ _ hu, qup_o _ _ _ _ hu]
          generalize qup (qup (qup (qup (qup N39 37 22 0) 37 23 (-1)) 37 1 1) 37 2 (L : Int)) 37 3 σ.2.1 = V at v37 v1 v2 v3 v22 v23 vo
          refine q_lp (fun i : Int => (36 - i).toNat) (fun i => 0 ≤ i ∧ i ≤ 36) (fun i => [some (.ref 37), some (.int (zI n)), some (.int (zI i))]) (fun i => lnW V i) 0 rfl (by funext u j; unfold lnW; rw [if_neg (by omega)]) ⟨by omega, by omega⟩ (fun i hi ih => ?_)
          refine q_iload_n dX8_load_114 rfl ?_
          refine q_bipush dX8_load_115 rfl ?_
          refine q_icmp_ge (tgt := 138) dX8_load_117 rfl (by (first | (unfold zR; omega) | (unfold zLR; omega) | omega | (simp only [zR, qup] at *; omega) | (simp [zR, qup]; omega) | (simp [zR, qup]; done))) (by (first | (unfold zR; omega) | (unfold zLR; omega) | omega | (simp only [zR, qup] at *; omega) | (simp [zR, qup]; omega) | (simp [zR, qup]; done))) (fun h117 => ?_) (fun h117 => ?_)
          rotate_left
          ·
            refine q_aload_n dX8_load_120 rfl ?_
            refine q_getr dX8_load_121 fl_8_7 rfl rfl ?_
            refine q_iload_n dX8_load_124 rfl ?_
            refine q_aload_n dX8_load_125 rfl ?_
            refine q_getr dX8_load_126 fl_8_48 rfl rfl ?_
            refine q_iload_n dX8_load_129 rfl ?_
            refine q_iald dX8_load_130 rfl (by (first | (unfold zR; omega) | (unfold zLR; omega) | omega | (simp only [zR, qup] at *; omega) | (simp [zR, qup]; omega) | (simp [zR, qup]; done))) (Nat.le_of_ble_eq_true rfl) ?_
            rw [lnW_o (by decide)]
            refine q_iast dX8_load_131 rfl (by (first | (unfold zR; omega) | (unfold zLR; omega) | omega | (simp only [zR, qup] at *; omega) | (simp [zR, qup]; omega) | (simp [zR, qup]; done))) (Nat.le_of_ble_eq_true rfl) ?_
            refine q_iinc dX8_load_132 rfl (Nat.le_of_ble_eq_true rfl) rfl ?_
            refine q_goto (tgt := 114) dX8_load_135 rfl ?_
            exact ih (i + 1) _ _ ⟨by omega, by omega⟩ (by omega) rfl (by
              funext u j
              by_cases g : u = 38
              · subst g
                by_cases g2 : j = i
                · subst g2; rw [qup_s]; unfold lnW; rw [if_pos ⟨rfl, by omega, by omega⟩]
                · rw [qup_k _ _ _ g2]; unfold lnW
                  by_cases g3 : 0 ≤ j ∧ j < i
                  · rw [if_pos ⟨rfl, g3⟩, if_pos ⟨rfl, g3.1, by omega⟩]
                  · rw [if_neg (fun w => g3 w.2), if_neg (by omega)]
              · rw [qup_o _ _ _ _ g, lnW_o g, lnW_o g])
          refine q_iconst dX8_load_138 ?_
          refine q_istore_n dX8_load_139 (Nat.le_of_ble_eq_true rfl) rfl ?_
          have hi36 : i = 36 := by omega
          subst hi36
          refine q_lp (fun i : Int => (1536 - i).toNat) (fun i => 0 ≤ i ∧ i ≤ 1536) (fun i => [some (.ref 37), some (.int (zI n)), some (.int (zI i))]) (fun i => lsW (lnW V 36) σ.2.1 i) 0 rfl (by funext u j; unfold lsW; rw [if_neg (by omega)]) ⟨by omega, by omega⟩ (fun i hi ih2 => ?_)
          have hnx : ∀ v, v = (if i < 256 * σ.2.1 then N39 50 i else 0) → qup (lsW (lnW V 36) σ.2.1 i) 39 i v = lsW (lnW V 36) σ.2.1 (i + 1) := fun v hv => by
            funext u j
            by_cases g : u = 39
            · subst g
              by_cases g2 : j = i
              · subst g2
                rw [qup_s]
                unfold lsW
                rw [if_pos (show (39 : Nat) = 39 ∧ 0 ≤ j ∧ j < j + 1 from ⟨rfl, hi.1, by omega⟩), hv, lnW_o (by decide), vo 50 (by decide)]
              · rw [qup_k _ _ _ g2]
                unfold lsW
                by_cases g3 : 0 ≤ j ∧ j < i
                · rw [if_pos (show (39 : Nat) = 39 ∧ 0 ≤ j ∧ j < i from ⟨rfl, g3⟩), if_pos (show (39 : Nat) = 39 ∧ 0 ≤ j ∧ j < i + 1 from ⟨rfl, g3.1, by omega⟩)]
                · rw [if_neg (fun w => g3 w.2), if_neg (by omega)]
            · rw [qup_o _ _ _ _ g, lsW_o g, lsW_o g]
          refine q_iload_n dX8_load_140 rfl ?_
          refine q_sipush dX8_load_141 rfl ?_
          refine q_icmp_ge (tgt := 181) dX8_load_144 rfl (by (first | (unfold zR; omega) | (unfold zLR; omega) | omega | (simp only [zR, qup] at *; omega) | (simp [zR, qup]; omega) | (simp [zR, qup]; done))) (by (first | (unfold zR; omega) | (unfold zLR; omega) | omega | (simp only [zR, qup] at *; omega) | (simp [zR, qup]; omega) | (simp [zR, qup]; done))) (fun h144 => ?_) (fun h144 => ?_)
          rotate_left
          ·
            refine q_aload_n dX8_load_147 rfl ?_
            refine q_getr dX8_load_148 fl_8_13 rfl rfl ?_
            refine q_iload_n dX8_load_151 rfl ?_
            refine q_iload_n dX8_load_152 rfl ?_
            refine q_sipush dX8_load_153 rfl ?_
            refine q_aload_n dX8_load_156 rfl ?_
            refine q_geti (j := 3) dX8_load_157 fl_8_68 rfl rfl rfl ?_
            rw [lsW_o (by decide), lnW_o (by decide), v3]
            refine q_imul dX8_load_160 ?_
            refine q_icmp_ge (tgt := 173) dX8_load_161 rfl (by (first | (unfold zR; omega) | (unfold zLR; omega) | omega | (simp only [zR, qup] at *; omega) | (simp [zR, qup]; omega) | (simp [zR, qup]; done))) (by (first | (unfold zR; omega) | (unfold zLR; omega) | omega | (simp only [zR, qup] at *; omega) | (simp [zR, qup]; omega) | (simp [zR, qup]; done))) (fun h161 => ?_) (fun h161 => ?_)
            ·
              refine q_iconst dX8_load_173 ?_
              refine q_iast dX8_load_174 rfl (by (first | (unfold zR; omega) | (unfold zLR; omega) | omega | (simp only [zR, qup] at *; omega) | (simp [zR, qup]; omega) | (simp [zR, qup]; done))) (Nat.le_of_ble_eq_true rfl) ?_
              rw [hnx 0 (if_neg (by omega)).symm]
              refine q_iinc dX8_load_175 rfl (Nat.le_of_ble_eq_true rfl) rfl ?_
              refine q_goto (tgt := 140) dX8_load_178 rfl ?_
              exact ih2 (i + 1) _ _ ⟨by omega, by omega⟩ (by omega) rfl rfl
            ·
              refine q_aload_n dX8_load_164 rfl ?_
              refine q_getr dX8_load_165 fl_8_51 rfl rfl ?_
              refine q_iload_n dX8_load_168 rfl ?_
              refine q_iald dX8_load_169 rfl (by (first | (unfold zR; omega) | (unfold zLR; omega) | omega | (simp only [zR, qup] at *; omega) | (simp [zR, qup]; omega) | (simp [zR, qup]; done))) (Nat.le_of_ble_eq_true rfl) ?_
              rw [lsW_o (by decide), lnW_o (by decide), vo 50 (by decide)]
              refine q_goto (tgt := 174) dX8_load_170 rfl ?_
              refine q_iast dX8_load_174 rfl (by (first | (unfold zR; omega) | (unfold zLR; omega) | omega | (simp only [zR, qup] at *; omega) | (simp [zR, qup]; omega) | (simp [zR, qup]; done))) (Nat.le_of_ble_eq_true rfl) ?_
              rw [hnx _ (if_pos h161).symm]
              refine q_iinc dX8_load_175 rfl (Nat.le_of_ble_eq_true rfl) rfl ?_
              refine q_goto (tgt := 140) dX8_load_178 rfl ?_
              exact ih2 (i + 1) _ _ ⟨by omega, by omega⟩ (by omega) rfl rfl
          have hi15 : i = 1536 := by omega
          subst hi15
          refine q_aload_n dX8_load_181 rfl ?_
          refine q_iconst dX8_load_182 ?_
          refine q_puti (j := 7) dX8_load_183 fl_8_280 rfl rfl rfl rfl rfl ?_
          refine q_aload_n dX8_load_186 rfl ?_
          refine q_getr dX8_load_187 fl_8_19 rfl rfl ?_
          refine q_iconst dX8_load_190 ?_
          refine q_iconst dX8_load_191 ?_
          refine q_zast dX8_load_192 rfl (by (first | (unfold zR; omega) | (unfold zLR; omega) | omega | (simp only [zR, qup] at *; omega) | (simp [zR, qup]; omega) | (simp [zR, qup]; done))) (Nat.le_of_ble_eq_true rfl) (by exact Or.inl rfl) ?_
          refine q_aload_n dX8_load_193 rfl ?_
          refine q_getr dX8_load_194 fl_8_19 rfl rfl ?_
          refine q_iconst dX8_load_197 ?_
          refine q_iconst dX8_load_198 ?_
          refine q_zast dX8_load_199 rfl (by (first | (unfold zR; omega) | (unfold zLR; omega) | omega | (simp only [zR, qup] at *; omega) | (simp [zR, qup]; omega) | (simp [zR, qup]; done))) (Nat.le_of_ble_eq_true rfl) (by exact Or.inl rfl) ?_
          refine q_aload_n dX8_load_200 rfl ?_
          refine q_geti (j := 3) dX8_load_201 fl_8_68 rfl rfl rfl ?_
          have F37 : ∀ j : Int, j ≠ 7 → qup (qup (qup (lsW (lnW V 36) σ.2.1 1536) 37 7 0) 41 0 0) 41 1 0 37 j = V 37 j := fun j hj => by rw [qup_o _ _ _ _ (by decide), qup_o _ _ _ _ (by decide), qup_k _ _ _ hj, lsW_o (by decide), lnW_o (by decide)]
          have F7 : qup (qup (qup (lsW (lnW V 36) σ.2.1 1536) 37 7 0) 41 0 0) 41 1 0 37 7 = 0 := by rw [qup_o _ _ _ _ (by decide), qup_o _ _ _ _ (by decide), qup_s]
          have F38 : ∀ j : Int, 0 ≤ j → j < 36 → qup (qup (qup (lsW (lnW V 36) σ.2.1 1536) 37 7 0) 41 0 0) 41 1 0 38 j = N39 49 j := fun j h0 h1 => by
            rw [qup_o _ _ _ _ (by decide), qup_o _ _ _ _ (by decide), qup_o _ _ _ _ (by decide), lsW_o (by decide)]
            unfold lnW
            rw [if_pos ⟨rfl, h0, h1⟩, vo 49 (by decide)]
          have F39 : ∀ j : Int, 0 ≤ j → j < 1536 → qup (qup (qup (lsW (lnW V 36) σ.2.1 1536) 37 7 0) 41 0 0) 41 1 0 39 j = if j < 256 * σ.2.1 then N39 50 j else 0 := fun j h0 h1 => by
            rw [qup_o _ _ _ _ (by decide), qup_o _ _ _ _ (by decide), qup_o _ _ _ _ (by decide)]
            unfold lsW
            rw [if_pos ⟨rfl, h0, h1⟩, lnW_o (by decide), vo 50 (by decide)]
          have F41a : qup (qup (qup (lsW (lnW V 36) σ.2.1 1536) 37 7 0) 41 0 0) 41 1 0 41 0 = 0 := by rw [qup_k _ _ _ (by decide), qup_s]
          have F41b : qup (qup (qup (lsW (lnW V 36) σ.2.1 1536) 37 7 0) 41 0 0) 41 1 0 41 1 = 0 := qup_s _ _ _ _
          have Fo : ∀ u : Nat, u ≠ 37 → u ≠ 38 → u ≠ 39 → u ≠ 41 → qup (qup (qup (lsW (lnW V 36) σ.2.1 1536) 37 7 0) 41 0 0) 41 1 0 u = N39 u := fun u h1 h2 h3 h4 => by funext j; rw [qup_o _ _ _ _ h4, qup_o _ _ _ _ h4, qup_o _ _ _ _ h1, lsW_o h3, lnW_o h2, vo u h1]
          generalize qup (qup (qup (lsW (lnW V 36) σ.2.1 1536) 37 7 0) 41 0 0) 41 1 0 = Fq at F37 F7 F38 F39 F41a F41b Fo
          have hM3 : Fq 37 3 = σ.2.1 := by rw [F37 3 (by decide), v3]
          have hM2 : Fq 37 2 = (L : Int) := by rw [F37 2 (by decide), v2]
          have hM1 : Fq 37 1 = 1 := by rw [F37 1 (by decide), v1]
          have hkeep : ∀ j : Int, (j = 0 ∨ j = 21 ∨ j = 35) → Fq 37 j = W 37 j := fun j hj => by rw [F37 j (by omega), v37 j (by omega) (by omega) (by omega) (by omega) (by omega), g37 j (by omega)]
          have hM21 : Fq 37 21 = 0 := by rw [hkeep 21 (by omega)]; exact w21
          have hM35 : Fq 37 35 = M 37 35 := by rw [hkeep 35 (by omega)]; exact w37 35 (by decide) (by decide)
          have hoo : ∀ u : Nat, u ≠ 37 → u ≠ 38 → u ≠ 39 → u ≠ 41 → u ≠ 42 → u ≠ 43 → u ≠ 44 → u ≠ 45 → u ≠ 46 → u ≠ 47 → u ≠ 49 → u ≠ 50 → Fq u = M u := fun u h1 h2 h3 h4 h5 h6 h7 h8 h9 h10 h11 h12 => by rw [Fo u h1 h2 h3 h4, b1.1 u h1 h5 h6 h7 h8 h9 h10 h11 h12, wo u h1]
          have hp4 := p4_in (L : Int)
          have hMI : MI Fq := by
            unfold MI
            rw [hM1, hM2, hM3, F7, hM21, hM35, hoo 40 (by decide) (by decide) (by decide) (by decide) (by decide) (by decide) (by decide) (by decide) (by decide) (by decide) (by decide) (by decide)]
            refine ⟨Or.inr rfl, by omega, fun _ => by omega, b13, fun j h0 h1 => ?_, a6, by omega, fun s s0 s1 => ?_, by omega, fun j h0 h1 => by omega, a11, fun k j k0 k1 j0 j1 => ?_, fun j h0 h1 => ?_, fun st k j s0 s1 hs => ?_⟩
            · rw [F39 j h0 h1]
              by_cases g : j < 256 * σ.2.1
              · rw [if_pos g]; exact b15 j h0 g
              · rw [if_neg g]; omega
            · have e : s = 0 ∨ s = 1 := by omega
              rcases e with rfl | rfl
              · exact Or.inl F41a
              · exact Or.inl F41b
            · rw [F39 _ (by omega) (by omega)]
              by_cases g : 256 * k + j < 256 * σ.2.1
              · rw [if_pos g]; exact b17 k j k0 (by omega) j0 j1
              · rw [if_neg g]
            · rw [F38 j h0 (by omega)]
              have h := nm_b (b14 (j / 6) (by omega) (by omega)) (j % 6) (by omega) (by omega)
              rw [show 6 * (j / 6) + j % 6 = j by omega] at h
              exact h
            · exfalso
              rcases hs with hs | ⟨hs, hs2⟩
              · omega
              · have e : st = 8 ∨ st = 9 := by omega
                rcases e with rfl | rfl
                · exact hs2 F41a
                · exact hs2 F41b
          refine q_ireturn dX8_load_204 ?_
          refine ⟨_, rfl, Or.inr (Or.inr ⟨hin, σ, L, hR, hL, hLv, hM3, hMI, by rw [hkeep 0 (by omega)]; exact w0, hM1, hM2, hM3, F7, hM21, by rw [F37 22 (by decide)]; exact v22, by rw [F37 23 (by decide)]; exact v23, hM35, F41a, F41b, fun k k0 k1 => ?_, fun k i k0 k1 i0 i1 => ?_, ⟨hoo 48 (by decide) (by decide) (by decide) (by decide) (by decide) (by decide) (by decide) (by decide) (by decide) (by decide) (by decide) (by decide), hoo 51 (by decide) (by decide) (by decide) (by decide) (by decide) (by decide) (by decide) (by decide) (by decide) (by decide) (by decide) (by decide)⟩, fun u hu => hoo u (by omega) (by omega) (by omega) (by omega) (by omega) (by omega) (by omega) (by omega) (by omega) (by omega) (by omega) (by omega)⟩)⟩
          · obtain ⟨J, len, q1, q2, q3, q4, q5⟩ := b14 k k0 k1
            exact ⟨J, len, q1, q2, q3, q4, fun j j0 j1 => by dsimp only; rw [F38 _ (by omega) (by omega)]; exact q5 j j0 j1⟩
          · show Fq 39 (256 * k + i) = _
            rw [F39 _ (by omega) (by omega), if_pos (by omega)]
            exact b16 k i k0 k1 i0 i1
        ·
          refine q_iconst dX8_load_89 ?_
          refine q_ireturn dX8_load_90 ?_
          exact absurd rfl (zbn h86)
    ·
      refine q_iconst dX8_load_30 ?_
      refine q_ireturn dX8_load_31 ?_
      have hbad : ¬ (0 ≤ n ∧ n ≤ M 37 21) := fun q => by
        have h := zbn h27
        rw [gor_0 rfl, if_pos q] at h
        exact h rfl
      exact ⟨0, rfl, Or.inl ⟨hbad, by rw [gor_0 rfl, if_neg hbad]; exact MS_rf _⟩⟩
  ·
    refine q_iconst dX8_load_18 ?_
    refine q_goto (tgt := 23) dX8_load_19 rfl ?_
    refine q_iconst dX8_load_23 ?_
    have hgb : (if (1 : Int) = 1 then (1 : Int) else 0) = (if 0 ≤ n ∧ n ≤ M 37 21 then 0 else 1) := (if_neg (zb_0.1 (by omega))).symm
    refine q_V2 dX8_load_24 ml_8_64 md_X8_refuse (m_refH (by omega) (by (first | (unfold zR; omega) | (unfold zLR; omega) | omega | (simp only [zR, qup] at *; omega) | (simp [zR, qup]; omega) | (simp [zR, qup]; done))) (by (first | (unfold zR; omega) | (unfold zLR; omega) | omega | (simp only [zR, qup] at *; omega) | (simp [zR, qup]; omega) | (simp [zR, qup]; done))) hgb) rfl rfl rfl (by first | decide | omega) (Nat.le_of_ble_eq_true rfl) (Nat.le_of_ble_eq_true rfl) (qk_e ?_)
    refine q_if_eq (tgt := 32) dX8_load_27 rfl (by exact zb_R _) (fun h27 => ?_) (fun h27 => ?_)
    ·
      have hgz := zbz h27
      have hin : 0 ≤ n ∧ n ≤ M 37 21 := Classical.byContradiction fun q => by rw [gor_0 rfl, if_neg q] at hgz; omega
      rw [hgz]
      have w37 : ∀ j : Int, j ≠ 0 → j ≠ 21 → qup (qup M 37 0 0) 37 21 0 37 j = M 37 j := fun j h1 h2 => by rw [qup_k _ _ _ h2, qup_k _ _ _ h1]
      have w0 : qup (qup M 37 0 0) 37 21 0 37 0 = 0 := by rw [qup_k _ _ _ (by decide), qup_s]
      have w21 : qup (qup M 37 0 0) 37 21 0 37 21 = 0 := qup_s _ _ _ _
      have wo : ∀ u : Nat, u ≠ 37 → qup (qup M 37 0 0) 37 21 0 u = M u := fun u hu => by funext j; rw [qup_o _ _ _ _ hu, qup_o _ _ _ _ hu]
      have hB : inM (qup (qup M 37 0 0) 37 21 0) (M 48) n := ⟨hin.1, by omega, fun i i0 i1 => ⟨by rw [wo 48 (by decide)], a10 i i0 (by omega)⟩⟩
      refine q_aload_n dX8_load_32 rfl ?_
      refine q_iconst dX8_load_33 ?_
      refine q_puti (j := 21) dX8_load_34 fl_8_152 rfl rfl rfl rfl rfl ?_
      generalize hWq : qup (qup M 37 0 0) 37 21 0 = W at w37 w0 w21 wo hB
      refine q_aload_n dX8_load_37 rfl ?_
      refine q_iload_n dX8_load_38 rfl ?_
      refine q_V1 dX8_load_39 ml_8_277 md_X8_reads (m_reads hB) rfl rfl rfl (by first | decide | omega) (Nat.le_of_ble_eq_true rfl) (Nat.le_of_ble_eq_true rfl) (qk_h (fun N39 hq39 => ?_))
      rcases hq39 with ⟨e, Lq, hR, hF⟩ | ⟨σ, L, hR, hL, hLv, hP⟩
      · obtain ⟨f1, f2, f3, f4, f5, f6, f7⟩ := id hF
        have g0 : N39 37 0 = 0 := by rw [f1.2 0 (by omega)]; exact w0
        have x0 : ∀ v1 v2, qup (qup N39 37 22 v1) 37 23 v2 37 0 = 0 := fun v1 v2 => by rw [qup_k _ _ _ (by decide), qup_k _ _ _ (by decide)]; exact g0
        have x29 : ∀ v1 v2, qup (qup N39 37 22 v1) 37 23 v2 37 29 = e.1 := fun v1 v2 => by rw [qup_k _ _ _ (by decide), qup_k _ _ _ (by decide)]; exact f3
        have y29 : ∀ v1, qup N39 37 22 v1 37 29 = e.1 := fun v1 => by rw [qup_k _ _ _ (by decide)]; exact f3
        have y30 : ∀ v1, qup N39 37 22 v1 37 30 = e.2 := fun v1 => by rw [qup_k _ _ _ (by decide)]; exact f6
        refine q_aload_n dX8_load_42 rfl ?_
        refine q_aload_n dX8_load_43 rfl ?_
        refine q_geti (j := 29) dX8_load_44 fl_8_182 rfl rfl rfl ?_
        rw [f3]
        refine q_puti (j := 22) dX8_load_47 fl_8_155 rfl rfl rfl rfl rfl ?_
        refine q_aload_n dX8_load_50 rfl ?_
        refine q_aload_n dX8_load_51 rfl ?_
        refine q_geti (j := 29) dX8_load_52 fl_8_182 rfl rfl rfl ?_
        rw [y29]
        refine q_if_ne (tgt := 62) dX8_load_55 rfl (by (first | (unfold zR; omega) | (unfold zLR; omega) | omega | (simp only [zR, qup] at *; omega) | (simp [zR, qup]; omega) | (simp [zR, qup]; done))) (fun h55 => ?_) (fun h55 => absurd h55 (by exact f4))
        refine q_aload_n dX8_load_62 rfl ?_
        refine q_geti (j := 30) dX8_load_63 fl_8_185 rfl rfl rfl ?_
        rw [y30]
        refine q_puti (j := 23) dX8_load_66 fl_8_44 rfl rfl rfl rfl rfl ?_
        refine q_aload_n dX8_load_69 rfl ?_
        refine q_aload_n dX8_load_70 rfl ?_
        refine q_geti (j := 29) dX8_load_71 fl_8_182 rfl rfl rfl ?_
        rw [x29]
        refine q_if_eq (tgt := 81) dX8_load_74 rfl (by (first | (unfold zR; omega) | (unfold zLR; omega) | omega | (simp only [zR, qup] at *; omega) | (simp [zR, qup]; omega) | (simp [zR, qup]; done))) (fun h74 => absurd h74 (by exact f4)) (fun h74 => ?_)
        refine q_iconst dX8_load_77 ?_
        refine q_goto (tgt := 82) dX8_load_78 rfl ?_
        refine q_iconst dX8_load_82 ?_
        refine q_V2 dX8_load_83 ml_8_64 md_X8_refuse (m_refuse (Or.inr rfl) (by rw [x0]; (first | (unfold zR; omega) | (unfold zLR; omega) | omega | (simp only [zR, qup] at *; omega) | (simp [zR, qup]; omega) | (simp [zR, qup]; done))) (by (first | (unfold zR; omega) | (unfold zLR; omega) | omega | (simp only [zR, qup] at *; omega) | (simp [zR, qup]; omega) | (simp [zR, qup]; done)))) rfl rfl rfl (by first | decide | omega) (Nat.le_of_ble_eq_true rfl) (Nat.le_of_ble_eq_true rfl) (qk_e ?_)
        rw [show rfW (qup (qup N39 37 22 e.1) 37 23 e.2) 1 2 = qup (qup (qup N39 37 22 e.1) 37 23 e.2) 37 0 2 from if_pos ⟨x0 _ _, rfl⟩, qup_s]
        refine q_if_eq (tgt := 91) dX8_load_86 rfl (by exact zb_R _) (fun h86 => ?_) (fun h86 => ?_)
        ·
          exact absurd (zbz h86) (by decide)
        ·
          refine q_iconst dX8_load_89 ?_
          refine q_ireturn dX8_load_90 ?_
          refine ⟨0, rfl, Or.inr (Or.inl ⟨hin, e, f4, hR, ?_⟩)⟩
          refine ⟨fun u h1 h2 h3 h4 h5 h6 h7 h8 h9 => ?_, fun j hj => ?_⟩
          · funext i
            rw [qup_o _ _ _ _ h1, qup_o _ _ _ _ h1, qup_o _ _ _ _ h1, f1.1 u h1 h2 h3 h4 h5 h6 h7 h8 h9, wo u h1, qup_o _ _ _ _ h1, qup_o _ _ _ _ h1, qup_o _ _ _ _ h1, qup_o _ _ _ _ h1]
          · by_cases e0 : j = 0
            · subst e0; rw [qup_s, qup_s]
            · rw [qup_k _ _ _ e0, qup_k _ _ _ e0]
              by_cases e1 : j = 23
              · subst e1; rw [qup_s, qup_s]
              · rw [qup_k _ _ _ e1, qup_k _ _ _ e1]
                by_cases e2 : j = 22
                · subst e2; rw [qup_s, qup_s]
                · rw [qup_k _ _ _ e2, qup_k _ _ _ e2, f1.2 j hj]
                  by_cases e3 : j = 21
                  · subst e3; rw [qup_s]; exact w21
                  · rw [qup_k _ _ _ e3]; exact w37 j e0 e3
      · obtain ⟨b1, b2, b3, b4, b5, b6, b7, b8, b9, b10, b11, b12, b13, b14, b15, b16, b17⟩ := id hP
        have g37 : ∀ j, (j = 0 ∨ j = 1 ∨ j = 2 ∨ j = 3 ∨ j = 7 ∨ j = 21 ∨ j = 22 ∨ j = 23 ∨ j = 35) → N39 37 j = W 37 j := b1.2
        have x37 : ∀ v1 v2 j, j ≠ 22 → j ≠ 23 → qup (qup N39 37 22 v1) 37 23 v2 37 j = N39 37 j := fun v1 v2 j h1 h2 => by rw [qup_k _ _ _ h2, qup_k _ _ _ h1]
        have y29 : ∀ v1, qup N39 37 22 v1 37 29 = 0 := fun v1 => by rw [qup_k _ _ _ (by decide)]; exact b5
        have x0 : ∀ v1 v2, qup (qup N39 37 22 v1) 37 23 v2 37 0 = 0 := fun v1 v2 => by rw [x37 _ _ _ (by decide) (by decide), g37 0 (by omega)]; exact w0
        refine q_aload_n dX8_load_42 rfl ?_
        refine q_aload_n dX8_load_43 rfl ?_
        refine q_geti (j := 29) dX8_load_44 fl_8_182 rfl rfl rfl ?_
        rw [b5]
        refine q_puti (j := 22) dX8_load_47 fl_8_155 rfl rfl rfl rfl rfl ?_
        refine q_aload_n dX8_load_50 rfl ?_
        refine q_aload_n dX8_load_51 rfl ?_
        refine q_geti (j := 29) dX8_load_52 fl_8_182 rfl rfl rfl ?_
        rw [y29]
        refine q_if_ne (tgt := 62) dX8_load_55 rfl (by (first | (unfold zR; omega) | (unfold zLR; omega) | omega | (simp only [zR, qup] at *; omega) | (simp [zR, qup]; omega) | (simp [zR, qup]; done))) (fun h55 => absurd h55 (by exact fun g => g rfl)) (fun h55 => ?_)
        refine q_iconst dX8_load_58 ?_
        refine q_goto (tgt := 66) dX8_load_59 rfl ?_
        refine q_puti (j := 23) dX8_load_66 fl_8_44 rfl rfl rfl rfl rfl ?_
        refine q_aload_n dX8_load_69 rfl ?_
        refine q_aload_n dX8_load_70 rfl ?_
        refine q_geti (j := 29) dX8_load_71 fl_8_182 rfl rfl rfl ?_
        rw [x37 _ _ _ (by decide) (by decide), b5]
        refine q_if_eq (tgt := 81) dX8_load_74 rfl (by (first | (unfold zR; omega) | (unfold zLR; omega) | omega | (simp only [zR, qup] at *; omega) | (simp [zR, qup]; omega) | (simp [zR, qup]; done))) (fun h74 => ?_) (fun h74 => absurd h74 (by exact fun g => g rfl))
        refine q_iconst dX8_load_81 ?_
        refine q_iconst dX8_load_82 ?_
        refine q_V2 dX8_load_83 ml_8_64 md_X8_refuse (m_refuse (Or.inl rfl) (by rw [x0]; (first | (unfold zR; omega) | (unfold zLR; omega) | omega | (simp only [zR, qup] at *; omega) | (simp [zR, qup]; omega) | (simp [zR, qup]; done))) (by (first | (unfold zR; omega) | (unfold zLR; omega) | omega | (simp only [zR, qup] at *; omega) | (simp [zR, qup]; omega) | (simp [zR, qup]; done)))) rfl rfl rfl (by first | decide | omega) (Nat.le_of_ble_eq_true rfl) (Nat.le_of_ble_eq_true rfl) (qk_e ?_)
        rw [show rfW (qup (qup N39 37 22 0) 37 23 (-1)) 0 2 = qup (qup N39 37 22 0) 37 23 (-1) from if_neg (by omega), x0]
        refine q_if_eq (tgt := 91) dX8_load_86 rfl (by exact zb_R _) (fun h86 => ?_) (fun h86 => ?_)
        ·
          refine q_aload_n dX8_load_91 rfl ?_
          refine q_iconst dX8_load_92 ?_
          refine q_putz (j := 1) dX8_load_93 fl_8_60 rfl rfl rfl rfl (by (first | (unfold zR; omega) | (unfold zLR; omega) | omega | (simp only [zR, qup] at *; omega) | (simp [zR, qup]; omega) | (simp [zR, qup]; done))) rfl ?_
          refine q_aload_n dX8_load_96 rfl ?_
          refine q_aload_n dX8_load_97 rfl ?_
          refine q_geti (j := 9) dX8_load_98 fl_8_83 rfl rfl rfl ?_
          rw [qup_k _ _ _ (by decide), x37 _ _ _ (by decide) (by decide), b4]
          refine q_puti (j := 2) dX8_load_101 fl_8_114 rfl rfl rfl rfl rfl ?_
          refine q_aload_n dX8_load_104 rfl ?_
          refine q_aload_n dX8_load_105 rfl ?_
          refine q_geti (j := 31) dX8_load_106 fl_8_208 rfl rfl rfl ?_
          rw [qup_k _ _ _ (by decide), qup_k _ _ _ (by decide), x37 _ _ _ (by decide) (by decide), b12]
          refine q_puti (j := 3) dX8_load_109 fl_8_68 rfl rfl rfl rfl rfl ?_
          refine q_iconst dX8_load_112 ?_
          refine q_istore_n dX8_load_113 (Nat.le_of_ble_eq_true rfl) rfl ?_
          have v37 : ∀ j : Int, j ≠ 1 → j ≠ 2 → j ≠ 3 → j ≠ 22 → j ≠ 23 → qup (qup (qup (qup (qup N39 37 22 0) 37 23 (-1)) 37 1 1) 37 2 (L : Int)) 37 3 σ.2.1 37 j = N39 37 j := fun j h1 h2 h3 h4 h5 => by rw [qup_k _ _ _ h3, qup_k _ _ _ h2, qup_k _ _ _ h1, x37 _ _ _ h4 h5]
          have v1 : qup (qup (qup (qup (qup N39 37 22 0) 37 23 (-1)) 37 1 1) 37 2 (L : Int)) 37 3 σ.2.1 37 1 = 1 := by rw [qup_k _ _ _ (by decide), qup_k _ _ _ (by decide), qup_s]
          have v2 : qup (qup (qup (qup (qup N39 37 22 0) 37 23 (-1)) 37 1 1) 37 2 (L : Int)) 37 3 σ.2.1 37 2 = L := by rw [qup_k _ _ _ (by decide), qup_s]
          have v3 : qup (qup (qup (qup (qup N39 37 22 0) 37 23 (-1)) 37 1 1) 37 2 (L : Int)) 37 3 σ.2.1 37 3 = σ.2.1 := qup_s _ _ _ _
          have v22 : qup (qup (qup (qup (qup N39 37 22 0) 37 23 (-1)) 37 1 1) 37 2 (L : Int)) 37 3 σ.2.1 37 22 = 0 := by rw [qup_k _ _ _ (by decide), qup_k _ _ _ (by decide), qup_k _ _ _ (by decide), qup_k _ _ _ (by decide), qup_s]
          have v23 : qup (qup (qup (qup (qup N39 37 22 0) 37 23 (-1)) 37 1 1) 37 2 (L : Int)) 37 3 σ.2.1 37 23 = -1 := by rw [qup_k _ _ _ (by decide), qup_k _ _ _ (by decide), qup_k _ _ _ (by decide), qup_s]
          have vo : ∀ u : Nat, u ≠ 37 → qup (qup (qup (qup (qup N39 37 22 0) 37 23 (-1)) 37 1 1) 37 2 (L : Int)) 37 3 σ.2.1 u = N39 u := fun u hu => by funext j; rw [qup_o _ _ _ _ hu, qup_o _ _ _ _ hu, qup_o _ _ _ _ hu, qup_o _ _ _ _ hu, qup_o _ _ _ _ hu]
          generalize qup (qup (qup (qup (qup N39 37 22 0) 37 23 (-1)) 37 1 1) 37 2 (L : Int)) 37 3 σ.2.1 = V at v37 v1 v2 v3 v22 v23 vo
          refine q_lp (fun i : Int => (36 - i).toNat) (fun i => 0 ≤ i ∧ i ≤ 36) (fun i => [some (.ref 37), some (.int (zI n)), some (.int (zI i))]) (fun i => lnW V i) 0 rfl (by funext u j; unfold lnW; rw [if_neg (by omega)]) ⟨by omega, by omega⟩ (fun i hi ih => ?_)
          refine q_iload_n dX8_load_114 rfl ?_
          refine q_bipush dX8_load_115 rfl ?_
          refine q_icmp_ge (tgt := 138) dX8_load_117 rfl (by (first | (unfold zR; omega) | (unfold zLR; omega) | omega | (simp only [zR, qup] at *; omega) | (simp [zR, qup]; omega) | (simp [zR, qup]; done))) (by (first | (unfold zR; omega) | (unfold zLR; omega) | omega | (simp only [zR, qup] at *; omega) | (simp [zR, qup]; omega) | (simp [zR, qup]; done))) (fun h117 => ?_) (fun h117 => ?_)
          rotate_left
          ·
            refine q_aload_n dX8_load_120 rfl ?_
            refine q_getr dX8_load_121 fl_8_7 rfl rfl ?_
            refine q_iload_n dX8_load_124 rfl ?_
            refine q_aload_n dX8_load_125 rfl ?_
            refine q_getr dX8_load_126 fl_8_48 rfl rfl ?_
            refine q_iload_n dX8_load_129 rfl ?_
            refine q_iald dX8_load_130 rfl (by (first | (unfold zR; omega) | (unfold zLR; omega) | omega | (simp only [zR, qup] at *; omega) | (simp [zR, qup]; omega) | (simp [zR, qup]; done))) (Nat.le_of_ble_eq_true rfl) ?_
            rw [lnW_o (by decide)]
            refine q_iast dX8_load_131 rfl (by (first | (unfold zR; omega) | (unfold zLR; omega) | omega | (simp only [zR, qup] at *; omega) | (simp [zR, qup]; omega) | (simp [zR, qup]; done))) (Nat.le_of_ble_eq_true rfl) ?_
            refine q_iinc dX8_load_132 rfl (Nat.le_of_ble_eq_true rfl) rfl ?_
            refine q_goto (tgt := 114) dX8_load_135 rfl ?_
            exact ih (i + 1) _ _ ⟨by omega, by omega⟩ (by omega) rfl (by
              funext u j
              by_cases g : u = 38
              · subst g
                by_cases g2 : j = i
                · subst g2; rw [qup_s]; unfold lnW; rw [if_pos ⟨rfl, by omega, by omega⟩]
                · rw [qup_k _ _ _ g2]; unfold lnW
                  by_cases g3 : 0 ≤ j ∧ j < i
                  · rw [if_pos ⟨rfl, g3⟩, if_pos ⟨rfl, g3.1, by omega⟩]
                  · rw [if_neg (fun w => g3 w.2), if_neg (by omega)]
              · rw [qup_o _ _ _ _ g, lnW_o g, lnW_o g])
          refine q_iconst dX8_load_138 ?_
          refine q_istore_n dX8_load_139 (Nat.le_of_ble_eq_true rfl) rfl ?_
          have hi36 : i = 36 := by omega
          subst hi36
          refine q_lp (fun i : Int => (1536 - i).toNat) (fun i => 0 ≤ i ∧ i ≤ 1536) (fun i => [some (.ref 37), some (.int (zI n)), some (.int (zI i))]) (fun i => lsW (lnW V 36) σ.2.1 i) 0 rfl (by funext u j; unfold lsW; rw [if_neg (by omega)]) ⟨by omega, by omega⟩ (fun i hi ih2 => ?_)
          have hnx : ∀ v, v = (if i < 256 * σ.2.1 then N39 50 i else 0) → qup (lsW (lnW V 36) σ.2.1 i) 39 i v = lsW (lnW V 36) σ.2.1 (i + 1) := fun v hv => by
            funext u j
            by_cases g : u = 39
            · subst g
              by_cases g2 : j = i
              · subst g2
                rw [qup_s]
                unfold lsW
                rw [if_pos (show (39 : Nat) = 39 ∧ 0 ≤ j ∧ j < j + 1 from ⟨rfl, hi.1, by omega⟩), hv, lnW_o (by decide), vo 50 (by decide)]
              · rw [qup_k _ _ _ g2]
                unfold lsW
                by_cases g3 : 0 ≤ j ∧ j < i
                · rw [if_pos (show (39 : Nat) = 39 ∧ 0 ≤ j ∧ j < i from ⟨rfl, g3⟩), if_pos (show (39 : Nat) = 39 ∧ 0 ≤ j ∧ j < i + 1 from ⟨rfl, g3.1, by omega⟩)]
                · rw [if_neg (fun w => g3 w.2), if_neg (by omega)]
            · rw [qup_o _ _ _ _ g, lsW_o g, lsW_o g]
          refine q_iload_n dX8_load_140 rfl ?_
          refine q_sipush dX8_load_141 rfl ?_
          refine q_icmp_ge (tgt := 181) dX8_load_144 rfl (by (first | (unfold zR; omega) | (unfold zLR; omega) | omega | (simp only [zR, qup] at *; omega) | (simp [zR, qup]; omega) | (simp [zR, qup]; done))) (by (first | (unfold zR; omega) | (unfold zLR; omega) | omega | (simp only [zR, qup] at *; omega) | (simp [zR, qup]; omega) | (simp [zR, qup]; done))) (fun h144 => ?_) (fun h144 => ?_)
          rotate_left
          ·
            refine q_aload_n dX8_load_147 rfl ?_
            refine q_getr dX8_load_148 fl_8_13 rfl rfl ?_
            refine q_iload_n dX8_load_151 rfl ?_
            refine q_iload_n dX8_load_152 rfl ?_
            refine q_sipush dX8_load_153 rfl ?_
            refine q_aload_n dX8_load_156 rfl ?_
            refine q_geti (j := 3) dX8_load_157 fl_8_68 rfl rfl rfl ?_
            rw [lsW_o (by decide), lnW_o (by decide), v3]
            refine q_imul dX8_load_160 ?_
            refine q_icmp_ge (tgt := 173) dX8_load_161 rfl (by (first | (unfold zR; omega) | (unfold zLR; omega) | omega | (simp only [zR, qup] at *; omega) | (simp [zR, qup]; omega) | (simp [zR, qup]; done))) (by (first | (unfold zR; omega) | (unfold zLR; omega) | omega | (simp only [zR, qup] at *; omega) | (simp [zR, qup]; omega) | (simp [zR, qup]; done))) (fun h161 => ?_) (fun h161 => ?_)
            ·
              refine q_iconst dX8_load_173 ?_
              refine q_iast dX8_load_174 rfl (by (first | (unfold zR; omega) | (unfold zLR; omega) | omega | (simp only [zR, qup] at *; omega) | (simp [zR, qup]; omega) | (simp [zR, qup]; done))) (Nat.le_of_ble_eq_true rfl) ?_
              rw [hnx 0 (if_neg (by omega)).symm]
              refine q_iinc dX8_load_175 rfl (Nat.le_of_ble_eq_true rfl) rfl ?_
              refine q_goto (tgt := 140) dX8_load_178 rfl ?_
              exact ih2 (i + 1) _ _ ⟨by omega, by omega⟩ (by omega) rfl rfl
            ·
              refine q_aload_n dX8_load_164 rfl ?_
              refine q_getr dX8_load_165 fl_8_51 rfl rfl ?_
              refine q_iload_n dX8_load_168 rfl ?_
              refine q_iald dX8_load_169 rfl (by (first | (unfold zR; omega) | (unfold zLR; omega) | omega | (simp only [zR, qup] at *; omega) | (simp [zR, qup]; omega) | (simp [zR, qup]; done))) (Nat.le_of_ble_eq_true rfl) ?_
              rw [lsW_o (by decide), lnW_o (by decide), vo 50 (by decide)]
              refine q_goto (tgt := 174) dX8_load_170 rfl ?_
              refine q_iast dX8_load_174 rfl (by (first | (unfold zR; omega) | (unfold zLR; omega) | omega | (simp only [zR, qup] at *; omega) | (simp [zR, qup]; omega) | (simp [zR, qup]; done))) (Nat.le_of_ble_eq_true rfl) ?_
              rw [hnx _ (if_pos h161).symm]
              refine q_iinc dX8_load_175 rfl (Nat.le_of_ble_eq_true rfl) rfl ?_
              refine q_goto (tgt := 140) dX8_load_178 rfl ?_
              exact ih2 (i + 1) _ _ ⟨by omega, by omega⟩ (by omega) rfl rfl
          have hi15 : i = 1536 := by omega
          subst hi15
          refine q_aload_n dX8_load_181 rfl ?_
          refine q_iconst dX8_load_182 ?_
          refine q_puti (j := 7) dX8_load_183 fl_8_280 rfl rfl rfl rfl rfl ?_
          refine q_aload_n dX8_load_186 rfl ?_
          refine q_getr dX8_load_187 fl_8_19 rfl rfl ?_
          refine q_iconst dX8_load_190 ?_
          refine q_iconst dX8_load_191 ?_
          refine q_zast dX8_load_192 rfl (by (first | (unfold zR; omega) | (unfold zLR; omega) | omega | (simp only [zR, qup] at *; omega) | (simp [zR, qup]; omega) | (simp [zR, qup]; done))) (Nat.le_of_ble_eq_true rfl) (by exact Or.inl rfl) ?_
          refine q_aload_n dX8_load_193 rfl ?_
          refine q_getr dX8_load_194 fl_8_19 rfl rfl ?_
          refine q_iconst dX8_load_197 ?_
          refine q_iconst dX8_load_198 ?_
          refine q_zast dX8_load_199 rfl (by (first | (unfold zR; omega) | (unfold zLR; omega) | omega | (simp only [zR, qup] at *; omega) | (simp [zR, qup]; omega) | (simp [zR, qup]; done))) (Nat.le_of_ble_eq_true rfl) (by exact Or.inl rfl) ?_
          refine q_aload_n dX8_load_200 rfl ?_
          refine q_geti (j := 3) dX8_load_201 fl_8_68 rfl rfl rfl ?_
          have F37 : ∀ j : Int, j ≠ 7 → qup (qup (qup (lsW (lnW V 36) σ.2.1 1536) 37 7 0) 41 0 0) 41 1 0 37 j = V 37 j := fun j hj => by rw [qup_o _ _ _ _ (by decide), qup_o _ _ _ _ (by decide), qup_k _ _ _ hj, lsW_o (by decide), lnW_o (by decide)]
          have F7 : qup (qup (qup (lsW (lnW V 36) σ.2.1 1536) 37 7 0) 41 0 0) 41 1 0 37 7 = 0 := by rw [qup_o _ _ _ _ (by decide), qup_o _ _ _ _ (by decide), qup_s]
          have F38 : ∀ j : Int, 0 ≤ j → j < 36 → qup (qup (qup (lsW (lnW V 36) σ.2.1 1536) 37 7 0) 41 0 0) 41 1 0 38 j = N39 49 j := fun j h0 h1 => by
            rw [qup_o _ _ _ _ (by decide), qup_o _ _ _ _ (by decide), qup_o _ _ _ _ (by decide), lsW_o (by decide)]
            unfold lnW
            rw [if_pos ⟨rfl, h0, h1⟩, vo 49 (by decide)]
          have F39 : ∀ j : Int, 0 ≤ j → j < 1536 → qup (qup (qup (lsW (lnW V 36) σ.2.1 1536) 37 7 0) 41 0 0) 41 1 0 39 j = if j < 256 * σ.2.1 then N39 50 j else 0 := fun j h0 h1 => by
            rw [qup_o _ _ _ _ (by decide), qup_o _ _ _ _ (by decide), qup_o _ _ _ _ (by decide)]
            unfold lsW
            rw [if_pos ⟨rfl, h0, h1⟩, lnW_o (by decide), vo 50 (by decide)]
          have F41a : qup (qup (qup (lsW (lnW V 36) σ.2.1 1536) 37 7 0) 41 0 0) 41 1 0 41 0 = 0 := by rw [qup_k _ _ _ (by decide), qup_s]
          have F41b : qup (qup (qup (lsW (lnW V 36) σ.2.1 1536) 37 7 0) 41 0 0) 41 1 0 41 1 = 0 := qup_s _ _ _ _
          have Fo : ∀ u : Nat, u ≠ 37 → u ≠ 38 → u ≠ 39 → u ≠ 41 → qup (qup (qup (lsW (lnW V 36) σ.2.1 1536) 37 7 0) 41 0 0) 41 1 0 u = N39 u := fun u h1 h2 h3 h4 => by funext j; rw [qup_o _ _ _ _ h4, qup_o _ _ _ _ h4, qup_o _ _ _ _ h1, lsW_o h3, lnW_o h2, vo u h1]
          generalize qup (qup (qup (lsW (lnW V 36) σ.2.1 1536) 37 7 0) 41 0 0) 41 1 0 = Fq at F37 F7 F38 F39 F41a F41b Fo
          have hM3 : Fq 37 3 = σ.2.1 := by rw [F37 3 (by decide), v3]
          have hM2 : Fq 37 2 = (L : Int) := by rw [F37 2 (by decide), v2]
          have hM1 : Fq 37 1 = 1 := by rw [F37 1 (by decide), v1]
          have hkeep : ∀ j : Int, (j = 0 ∨ j = 21 ∨ j = 35) → Fq 37 j = W 37 j := fun j hj => by rw [F37 j (by omega), v37 j (by omega) (by omega) (by omega) (by omega) (by omega), g37 j (by omega)]
          have hM21 : Fq 37 21 = 0 := by rw [hkeep 21 (by omega)]; exact w21
          have hM35 : Fq 37 35 = M 37 35 := by rw [hkeep 35 (by omega)]; exact w37 35 (by decide) (by decide)
          have hoo : ∀ u : Nat, u ≠ 37 → u ≠ 38 → u ≠ 39 → u ≠ 41 → u ≠ 42 → u ≠ 43 → u ≠ 44 → u ≠ 45 → u ≠ 46 → u ≠ 47 → u ≠ 49 → u ≠ 50 → Fq u = M u := fun u h1 h2 h3 h4 h5 h6 h7 h8 h9 h10 h11 h12 => by rw [Fo u h1 h2 h3 h4, b1.1 u h1 h5 h6 h7 h8 h9 h10 h11 h12, wo u h1]
          have hp4 := p4_in (L : Int)
          have hMI : MI Fq := by
            unfold MI
            rw [hM1, hM2, hM3, F7, hM21, hM35, hoo 40 (by decide) (by decide) (by decide) (by decide) (by decide) (by decide) (by decide) (by decide) (by decide) (by decide) (by decide) (by decide)]
            refine ⟨Or.inr rfl, by omega, fun _ => by omega, b13, fun j h0 h1 => ?_, a6, by omega, fun s s0 s1 => ?_, by omega, fun j h0 h1 => by omega, a11, fun k j k0 k1 j0 j1 => ?_, fun j h0 h1 => ?_, fun st k j s0 s1 hs => ?_⟩
            · rw [F39 j h0 h1]
              by_cases g : j < 256 * σ.2.1
              · rw [if_pos g]; exact b15 j h0 g
              · rw [if_neg g]; omega
            · have e : s = 0 ∨ s = 1 := by omega
              rcases e with rfl | rfl
              · exact Or.inl F41a
              · exact Or.inl F41b
            · rw [F39 _ (by omega) (by omega)]
              by_cases g : 256 * k + j < 256 * σ.2.1
              · rw [if_pos g]; exact b17 k j k0 (by omega) j0 j1
              · rw [if_neg g]
            · rw [F38 j h0 (by omega)]
              have h := nm_b (b14 (j / 6) (by omega) (by omega)) (j % 6) (by omega) (by omega)
              rw [show 6 * (j / 6) + j % 6 = j by omega] at h
              exact h
            · exfalso
              rcases hs with hs | ⟨hs, hs2⟩
              · omega
              · have e : st = 8 ∨ st = 9 := by omega
                rcases e with rfl | rfl
                · exact hs2 F41a
                · exact hs2 F41b
          refine q_ireturn dX8_load_204 ?_
          refine ⟨_, rfl, Or.inr (Or.inr ⟨hin, σ, L, hR, hL, hLv, hM3, hMI, by rw [hkeep 0 (by omega)]; exact w0, hM1, hM2, hM3, F7, hM21, by rw [F37 22 (by decide)]; exact v22, by rw [F37 23 (by decide)]; exact v23, hM35, F41a, F41b, fun k k0 k1 => ?_, fun k i k0 k1 i0 i1 => ?_, ⟨hoo 48 (by decide) (by decide) (by decide) (by decide) (by decide) (by decide) (by decide) (by decide) (by decide) (by decide) (by decide) (by decide), hoo 51 (by decide) (by decide) (by decide) (by decide) (by decide) (by decide) (by decide) (by decide) (by decide) (by decide) (by decide) (by decide)⟩, fun u hu => hoo u (by omega) (by omega) (by omega) (by omega) (by omega) (by omega) (by omega) (by omega) (by omega) (by omega) (by omega) (by omega)⟩)⟩
          · obtain ⟨J, len, q1, q2, q3, q4, q5⟩ := b14 k k0 k1
            exact ⟨J, len, q1, q2, q3, q4, fun j j0 j1 => by dsimp only; rw [F38 _ (by omega) (by omega)]; exact q5 j j0 j1⟩
          · show Fq 39 (256 * k + i) = _
            rw [F39 _ (by omega) (by omega), if_pos (by omega)]
            exact b16 k i k0 k1 i0 i1
        ·
          refine q_iconst dX8_load_89 ?_
          refine q_ireturn dX8_load_90 ?_
          exact absurd rfl (zbn h86)
    ·
      refine q_iconst dX8_load_30 ?_
      refine q_ireturn dX8_load_31 ?_
      have hbad : ¬ (0 ≤ n ∧ n ≤ M 37 21) := fun q => by
        have h := zbn h27
        rw [gor_0 rfl, if_pos q] at h
        exact h rfl
      exact ⟨0, rfl, Or.inl ⟨hbad, by rw [gor_0 rfl, if_neg hbad]; exact MS_rf _⟩⟩
end MLD


/-! The class: load, read. -/
theorem qk_Gp {X : qX} {J : qJ} {P : qP} {b pc : Nat} {L : List (Option Value)} {rest : List Value} {M : qM} {g : Int} (k : g = 0 → QW X J P b pc L rest M) (hx : g ≠ 0 → P.2 (exN g) M) : QK X J P b pc L rest (qpG g M) := ⟨fun v M' h => by
    obtain ⟨rfl, rfl, h⟩ := h
    exact k h, fun E M' h => by
    obtain ⟨rfl, rfl, h⟩ := h
    exact hx h⟩
def LdW (M : qM) (σ : qσ) (L : Nat) (M' : qM) : Prop := CI M' ∧ M' 0 9 = 1 ∧ M' 0 10 = (L : Int) ∧ M' 0 11 = σ.2.1 ∧ M' 0 12 = 0 ∧ M' 0 13 = -1 ∧ M' 1 1 = 0 ∧ M' 28 3 = 0 ∧ M' 36 0 = 0 ∧ M' 36 1 = 0 ∧ (∀ k, 0 ≤ k → k < σ.2.1 → M' 34 k = σ.2.2.1 k) ∧ (∀ k i, 0 ≤ k → k < σ.2.1 → 0 ≤ i → i < 256 → M' 4 (k * 256 + i) = σ.2.2.2 k i) ∧ (∀ o, (o = 2 ∨ 31 ≤ o) → o ≠ 34 → o ≠ 36 → M' o = M o)
def ldP (M : qM) (n : Int) : qP := (fun v M' => gBuf M n = 0 ∧ ∃ (σ : qσ) (L : Nat), parseS (M 2) n = .inr σ ∧ 1 ≤ L ∧ L ≤ 4 ∧ (L : Int) = tV (M 2) n (tE (M 2) n 0) ∧ v = some (.int (zI σ.2.1)) ∧ 0 ≤ σ.2.1 ∧ σ.2.1 ≤ 6 ∧ LdW M σ L M', fun E M' => (gBuf M n ≠ 0 ∧ E = qEIOE ∧ M' = M) ∨ (gBuf M n = 0 ∧ E = qEIAE ∧ ∃ c s, c ≠ 0 ∧ parseS (M 2) n = .inl (c, s) ∧ Scr (qup (qup (qup M 1 1 0) 0 12 c) 0 13 s) M'))
theorem gBuf_e {M : qM} {n : Int} (h : gBuf M n ≠ 0) : exN (gBuf M n) = qEIOE := by
  unfold gBuf at h ⊢
  by_cases q : 0 ≤ n ∧ n ≤ M 1 1
  · rw [if_pos q] at h; exact absurd rfl h
  · rw [if_neg q]; rfl
section GL
variable {M : qM} {L : Nat} {n : Int}
theorem ld_W {N : qM} {σ : qσ} (hC : CI M) (hP : PF M N) (hL : 1 ≤ L ∧ L ≤ 4) (hs : Sp N (M 2) n L σ) : LdW M σ L (adW (qup (qup (qup N 1 1 0) 0 12 (N 25 11)) 0 13 (N 25 12))) := by
  obtain ⟨s1, s2, s3, s4, s5, s6, s7, s8, s9, s10, s11, s12, s13⟩ := hs
  obtain ⟨a1, a2, a3, a4, a5, a6, a7, a8, a9, a10, a11, a12, a13, a14⟩ := hC
  obtain ⟨p1, p2, p3, p4'⟩ := hP
  have w0 : ∀ o, o ≠ 0 → o ≠ 1 → qup (qup (qup N 1 1 0) 0 12 (N 25 11)) 0 13 (N 25 12) o = N o := fun o h0 h1 => by
    funext j
    rw [qup_o _ _ _ _ h0, qup_o _ _ _ _ h0, qup_o _ _ _ _ h1]
  have w00 : qup (qup (qup N 1 1 0) 0 12 (N 25 11)) 0 13 (N 25 12) 0 12 = N 25 11 ∧ qup (qup (qup N 1 1 0) 0 12 (N 25 11)) 0 13 (N 25 12) 0 13 = N 25 12 ∧ qup (qup (qup N 1 1 0) 0 12 (N 25 11)) 0 13 (N 25 12) 1 1 = 0 := by simp [qup]
  generalize qup (qup (qup N 1 1 0) 0 12 (N 25 11)) 0 13 (N 25 12) = W at w0 w00
  obtain ⟨w12, w13, w11⟩ := w00
  have w25 := w0 25 (by decide) (by decide)
  have w27 := w0 27 (by decide) (by decide)
  have w4 := w0 4 (by decide) (by decide)
  have d9 : adW W 0 9 = 1 := by simp [adW]
  have d10 : adW W 0 10 = (L : Int) := by rw [← s3, ← w25]; simp [adW]
  have d11 : adW W 0 11 = σ.2.1 := by rw [← s4, ← w25]; simp [adW]
  have d12 : adW W 0 12 = 0 := by rw [show adW W 0 12 = W 0 12 by simp [adW], w12, s9]
  have d13 : adW W 0 13 = -1 := by rw [show adW W 0 13 = W 0 13 by simp [adW], w13, s10]
  have d1 : adW W 1 1 = 0 := by rw [show adW W 1 1 = W 1 1 by simp [adW], w11]
  have d28 : adW W 28 3 = 0 := by simp [adW]
  have d28b : adW W 28 2 = M 28 2 := by rw [show adW W 28 2 = W 28 2 by simp [adW], w0 28 (by decide) (by decide), p1 28 (by unfold pfr; decide)]
  have d36 : ∀ s, 0 ≤ s → s < 2 → adW W 36 s = 0 := fun s h0 h1 => by simp [adW, h0, h1]
  have d34 : ∀ k, 0 ≤ k → k < 6 → adW W 34 k = N 27 k := fun k h0 h1 => by rw [← w27]; simp [adW, h0, h1]
  have d4 : ∀ k, 0 ≤ k → k < 1536 → adW W 4 k = N 4 (k + 1536) := fun k h0 h1 => by rw [← w4]; simp [adW, h0, h1]
  have d4b : ∀ k, ¬ (0 ≤ k ∧ k < 1536) → adW W 4 k = N 4 k := fun k h => by rw [← w4]; simp only [adW]; rw [if_neg (by omega), if_neg (by omega), if_neg (by omega), if_neg (by omega), if_neg (fun q => h q.2), if_neg (by omega), if_neg (by omega)]
  have dO : ∀ o, o ≠ 0 → o ≠ 1 → o ≠ 4 → o ≠ 28 → o ≠ 34 → o ≠ 36 → adW W o = N o := fun o h0 h1 h4 h28 h34 h36 => by
    rw [← w0 o h0 h1]
    funext j
    simp [adW, h0, h4, h28, h34, h36]
  have dM : ∀ o, pfr o → o ≠ 0 → o ≠ 1 → o ≠ 4 → o ≠ 28 → o ≠ 34 → o ≠ 36 → adW W o = M o := fun o hp h0 h1 h4 h28 h34 h36 => (dO o h0 h1 h4 h28 h34 h36).trans (p1 o hp)
  refine ⟨?_, d9, d10, d11, d12, d13, d1, d28, d36 0 (by omega) (by omega), d36 1 (by omega) (by omega), fun k h0 h1 => by rw [d34 k h0 (by omega)]; exact (s11 k h0 h1).1, fun k i h0 h1 i0 i1 => by rw [d4 _ (by omega) (by omega), show k * 256 + i + 1536 = (6 + k) * 256 + i by omega]; exact s12 k i h0 h1 i0 i1, fun o ho h34 h36 => dM o (by unfold pfr; omega) (by omega) (by omega) (by omega) (by omega) h34 h36⟩
  unfold CI
  rw [dM 13 (by unfold pfr; decide) (by decide) (by decide) (by decide) (by decide) (by decide) (by decide), dO 18 (by decide) (by decide) (by decide) (by decide) (by decide) (by decide), d1, d9, d10, d11, d28, d28b, dM 30 (by unfold pfr; decide) (by decide) (by decide) (by decide) (by decide) (by decide) (by decide), dM 31 (by unfold pfr; decide) (by decide) (by decide) (by decide) (by decide) (by decide) (by decide)]
  refine ⟨fun i h0 h1 => ?_, a2, p4', ⟨by omega, by omega⟩, fun i h0 h1 => by omega, Or.inr rfl, fun _ => by omega, ⟨s5, s6⟩, a9, ⟨by omega, by omega⟩, a11, a12, fun k h0 h1 => by rw [d34 k h0 (by omega)]; exact (s11 k h0 h1).2, fun s h0 h1 => Or.inl (d36 s h0 h1), fun s h0 h1 _ => rfl⟩
  by_cases g : 0 ≤ i ∧ i < 1536
  · rw [d4 i g.1 g.2]; exact p3 _ (by omega) (by omega)
  · rw [d4b i g]; exact p3 i h0 h1
set_option maxHeartbeats 4000000 in
theorem k_load (hC : CI M) (hn : zR n) : qCt mX7_load 2 9 [.ref 0, .int (zI n)] M (ldP M n) := by
  have hlen := CI_len hC
  have hby := hC.2.2.2.2.1
  refine q_intro (own := 7) (L := [some (.ref 0), some (.int (zI n)), none]) md_X7_load rfl rfl rfl (Nat.le_of_ble_eq_true rfl) (fun X => ?_)
  refine q_aload_n dX7_load_0 rfl ?_
  refine q_iload_n dX7_load_1 rfl ?_
  refine q_V1 dX7_load_2 ml_7_85 md_X7_requireBuffered (c_requireBuffered hC hn) rfl rfl rfl (by first | decide | omega) (Nat.le_of_ble_eq_true rfl) (Nat.le_of_ble_eq_true rfl) (qk_Gp (fun hq2 => ?_) (fun hg => Or.inl ⟨hg, gBuf_e hg, rfl⟩))
  have hnb := gBuf_0.1 hq2
  have hB : inB M (M 2) n := ⟨hnb.1, hnb.2, hlen.2, fun i h0 h1 => ⟨rfl, hby i h0 (by omega)⟩⟩
  refine q_aload_n dX7_load_5 rfl ?_
  refine q_getr dX7_load_6 fl_7_46 rfl rfl ?_
  refine q_iload_n dX7_load_9 rfl ?_
  refine q_V1 dX7_load_10 ml_7_88 md_X3_parse (c_parse hB ⟨fun _ _ => rfl, fun _ _ => rfl, hC.1, hC.2.2.1⟩) rfl rfl rfl (by first | decide | omega) (Nat.le_of_ble_eq_true rfl) (Nat.le_of_ble_eq_true rfl) (qk_g (fun z10 N10 hq10 => ?_))
  obtain ⟨hPF, hpc⟩ := hq10
  have hz10 : zR z10 := by rcases hpc with ⟨h, -⟩ | ⟨h, -⟩ <;> (unfold zR; omega)
  refine q_istore_n dX7_load_13 (Nat.le_of_ble_eq_true rfl) rfl ?_
  refine q_aload_n dX7_load_14 rfl ?_
  refine q_getr dX7_load_15 fl_7_22 rfl rfl ?_
  refine q_V0 dX7_load_18 ml_7_91 md_X1_clear (c_bclear (o := 1) (r := 2) rfl) rfl rfl rfl (by first | decide | omega) (Nat.le_of_ble_eq_true rfl) (Nat.le_of_ble_eq_true rfl) (qk_v ?_)
  refine q_aload_n dX7_load_21 rfl ?_
  refine q_aload_n dX7_load_22 rfl ?_
  refine q_getr dX7_load_23 fl_7_46 rfl rfl ?_
  refine q_V0 dX7_load_26 ml_7_94 md_X3_errorCode c_perrorCode rfl rfl rfl (by first | decide | omega) (Nat.le_of_ble_eq_true rfl) (Nat.le_of_ble_eq_true rfl) (qk_e ?_)
  rw [show qup N10 1 1 0 25 11 = N10 25 11 from qup_o _ _ _ _ (by decide)]
  refine q_puti (j := 12) dX7_load_29 fl_7_97 rfl rfl rfl rfl rfl ?_
  refine q_aload_n dX7_load_32 rfl ?_
  refine q_aload_n dX7_load_33 rfl ?_
  refine q_getr dX7_load_34 fl_7_46 rfl rfl ?_
  refine q_V0 dX7_load_37 ml_7_99 md_X3_errorAt c_perrorAt rfl rfl rfl (by first | decide | omega) (Nat.le_of_ble_eq_true rfl) (Nat.le_of_ble_eq_true rfl) (qk_e ?_)
  rw [show qup (qup N10 1 1 0) 0 12 (N10 25 11) 25 12 = N10 25 12 by simp [qup]]
  refine q_puti (j := 13) dX7_load_40 fl_7_70 rfl rfl rfl rfl rfl ?_
  refine q_iload_n dX7_load_43 rfl ?_
  refine q_if_ne (tgt := 57) dX7_load_44 rfl (by (first | (unfold zR; omega) | (unfold zLR; omega) | omega | (simp only [zR, qup] at *; omega) | (simp [zR, qup]; omega) | (simp [zR, qup]; done))) (fun h44 => ?_) (fun h44 => ?_)
  ·
    obtain ⟨σ, L, hL1, hL4, hLt, hps, hSp⟩ : ∃ (σ : qσ) (L : Nat), 1 ≤ L ∧ L ≤ 4 ∧ (L : Int) = tV (M 2) n (tE (M 2) n 0) ∧ parseS (M 2) n = .inr σ ∧ Sp N10 (M 2) n L σ := by
      rcases hpc with ⟨h, -⟩ | ⟨-, h⟩
      · omega
      · exact h
    have hLd := ld_W hC hPF ⟨hL1, hL4⟩ hSp
    refine q_aload_n dX7_load_57 rfl ?_
    refine q_V0 dX7_load_58 ml_7_108 md_X7_adoptParsed c_adoptParsed rfl rfl rfl (by first | decide | omega) (Nat.le_of_ble_eq_true rfl) (Nat.le_of_ble_eq_true rfl) (qk_v ?_)
    refine q_aload_n dX7_load_61 rfl ?_
    refine q_geti (j := 11) dX7_load_62 fl_7_111 rfl rfl rfl ?_
    rw [hLd.2.2.2.1]
    refine q_ireturn dX7_load_65 ?_
    exact ⟨hq2, σ, L, hps, hL1, hL4, hLt, rfl, hSp.2.2.2.2.1, hSp.2.2.2.2.2.1, hLd⟩
  ·
    refine qt_X7_load_47 (Nat.le_of_ble_eq_true rfl) ?_
    rcases hpc with ⟨-, c, s, hc, hps, h11, h12⟩ | ⟨h, -⟩
    · exact Or.inr ⟨hq2, rfl, c, s, hc, hps, by rw [h11, h12]; exact Scr_up (Scr_up (Scr_up (PF_Scr hC hPF) (by unfold sfr; decide) 1 0) (by unfold sfr; decide) 12 c) (by unfold sfr; decide) 13 s⟩
    · omega
end GL


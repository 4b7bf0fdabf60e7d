/-! QuarterMaps$Parser: range lines, or lines. -/
theorem mgF_in {k x y : Int} (hx : 0 ≤ x ∧ x < 256) (hy : 0 ≤ y ∧ y < 256) : 0 ≤ mgF k x y ∧ mgF k x y < 256 := by
  unfold mgF
  have b01 := fun j => zbit_01 x j
  have c01 := fun j => zbit_01 y j
  by_cases h0 : k = 0
  · rw [if_pos h0, zor_byte hx hy]; exact ofBits_in (fun j _ _ => by rcases b01 j with h | h <;> rcases c01 j with g | g <;> rw [h, g] <;> omega)
  · rw [if_neg h0]
    by_cases h1 : k = 1
    · rw [if_pos h1, zand_byte hx hy]; exact ofBits_in (fun j _ _ => by rcases b01 j with h | h <;> rcases c01 j with g | g <;> rw [h, g] <;> omega)
    · rw [if_neg h1]
      by_cases h2 : k = 2
      · rw [if_pos h2, zandn_byte hx hy]; exact ofBits_in (fun j _ _ => by rcases b01 j with h | h <;> rcases c01 j with g | g <;> rw [h, g] <;> omega)
      · rw [if_neg h2, zxor_byte hx hy]; exact ofBits_in (fun j _ _ => by rcases b01 j with h | h <;> rcases c01 j with g | g <;> rw [h, g] <;> omega)
theorem mgF_0 : mgF 0 0 0 = 0 := by decide
theorem covF_c {c c' : Int → Int} {f t b k : Int} (h : c k = c' k) : covF c f t b k = covF c' f t b k := by unfold covF; rw [h]
theorem flpF_c {c c' : Int → Int} {f t k : Int} (h : c k = c' k) : flpF c f t k = flpF c' f t k := by unfold flpF; rw [h]
theorem rng_0 {c : Int → Int} {L : Nat} {f t i : Int} (ht : t ≤ 8 * p4 L - 1) (hi : p4 L ≤ i) (h : c i = 0) : flpF c f t i = 0 ∧ ∀ b, covF c f t b i = 0 := by
  have hn : ∀ j, 0 ≤ j → j < 8 → ¬ (f ≤ 8 * i + j ∧ 8 * i + j ≤ t) := fun j _ _ => by omega
  exact ⟨by rw [flpF_out (by omega) hn]; exact h, fun b => by rw [covF_out (by omega) hn]; exact h⟩
section LN2
variable {M0 M : qM} {I : Int → Int} {n : Int} {L : Nat} {σ : qσ}
set_option maxHeartbeats 4000000 in
theorem c_takeRangeLine {b : Int} (hB : inB M0 I n) (hF : PF M0 M) (hs : Sp M I n L σ) (hL : 1 ≤ L ∧ L ≤ 4) (hb : b = 0 ∨ b = 1 ∨ b = 2) : qCt mX3_takeRangeLine 0 3 [.ref 25, .int (zI b)] M (qpg (lnP M0 I n L (lnRng I n L b σ))) := by
  have hpL := p4_in (L : Int)
  have hp8 : 0 ≤ σ.1 ∧ σ.1 ≤ n := ⟨hs.2.2.2.2.2.2.1, hs.2.2.2.2.2.2.2.1⟩
  have hE := tE_in (I := I) hp8.2
  have hS := tS_in (I := I) hp8.2
  have hE2 := tE_in (I := I) (n := n) (p := tE I n σ.1) (by omega)
  have hS2 := tS_in (I := I) (n := n) (p := tE I n σ.1) (by omega)
  have hs2 := Sp_adv (p' := tE I n σ.1) hs (by omega)
  have hF2 := PF_25 (M' := adv M I n (tE I n σ.1)) hF adv_o
  have hm6 := hs.2.2.2.2.2.1
  refine q_intro (own := 3) (L := [some (.ref 25), some (.int (zI b)), none, none, none, none]) md_X3_takeRangeLine rfl rfl rfl (Nat.le_of_ble_eq_true rfl) (fun X => ?_)
  refine q_aload_n dX3_takeRangeLine_0 rfl ?_
  refine q_V0 dX3_takeRangeLine_1 ml_3_77 md_X3_advance (c_advance (PF_inB hF hB) hs.2.1 hs.1.1 (by omega)) rfl rfl rfl (by first | decide | omega) (Nat.le_of_ble_eq_true rfl) (Nat.le_of_ble_eq_true rfl) (qk_v ?_)
  refine q_mem (M' := adv M I n (tE I n σ.1)) rfl ?_
  refine q_aload_n dX3_takeRangeLine_4 rfl ?_
  refine q_V0 dX3_takeRangeLine_5 ml_3_124 md_X3_takeMap (c_takeMap (N := σ.2.2.1) (m := σ.2.1) (PF_inB hF2 hB) hs2.2.1 hs2.1 (by dsimp only; omega) hs2.2.2.2.1 ⟨hs2.2.2.2.2.1, hs2.2.2.2.2.2.1⟩ (Sp_N (σ := (tE I n σ.1, σ.2)) hs2)) rfl rfl rfl (by first | decide | omega) (Nat.le_of_ble_eq_true rfl) (Nat.le_of_ble_eq_true rfl) (qk_g (fun z5 N5 hq5 => ?_))
  have hz5 : -1 ≤ z5 ∧ z5 < 6 := by rcases hq5 with ⟨h, -⟩ | ⟨h, h', -⟩ <;> omega
  refine q_istore_n dX3_takeRangeLine_8 (Nat.le_of_ble_eq_true rfl) rfl ?_
  refine q_iload_n dX3_takeRangeLine_9 rfl ?_
  refine q_iconst dX3_takeRangeLine_10 ?_
  refine q_icmp_ne (tgt := 16) dX3_takeRangeLine_11 rfl (by (first | (unfold zR; omega) | (unfold zLR; omega) | omega | (simp only [zR, qup] at *; omega) | (simp [zR, qup]; omega) | (simp [zR, qup]; done))) (by (first | (unfold zR; omega) | (unfold zLR; omega) | omega | (simp only [zR, qup] at *; omega) | (simp [zR, qup]; omega) | (simp [zR, qup]; done))) (fun h11 => ?_) (fun h11 => ?_)
  rotate_left
  ·
    refine q_iconst dX3_takeRangeLine_14 ?_
    refine q_zreturn (by first | exact Or.inl rfl | exact Or.inr rfl) dX3_takeRangeLine_15 ?_
    rcases hq5 with ⟨-, c, c0, hk, rfl⟩ | ⟨h, -⟩
    · exact ⟨_, rfl, lnP_fail hF2 c0 (hk _) rfl⟩
    · omega
  obtain ⟨hk0, hk1, hkT, rfl⟩ : 0 ≤ z5 ∧ z5 < σ.2.1 ∧ (∀ k, tMap I n σ.2.2.1 σ.2.1 (tE I n σ.1) k = k z5 (tE I n (tE I n σ.1))) ∧ N5 = adv (adv M I n (tE I n σ.1)) I n (tE I n (tE I n σ.1)) := by
    rcases hq5 with ⟨h, -⟩ | h
    · exact absurd h h11
    · exact h
  have hs3 := Sp_adv (p' := tE I n (tE I n σ.1)) hs2 (by omega)
  have hF3 := PF_25 (M' := adv (adv M I n (tE I n σ.1)) I n (tE I n (tE I n σ.1))) hF2 adv_o
  generalize adv (adv M I n (tE I n σ.1)) I n (tE I n (tE I n σ.1)) = M3 at hs3 hF3 ⊢
  have hE3 := tE_in (I := I) (n := n) (p := tE I n (tE I n σ.1)) (by omega)
  have hS3 := tS_in (I := I) (n := n) (p := tE I n (tE I n σ.1)) (by omega)
  generalize tE I n (tE I n σ.1) = p2 at hs3 hkT hE3 hS3 hE2 ⊢
  refine q_bipush dX3_takeRangeLine_16 rfl ?_
  refine q_aload_n dX3_takeRangeLine_18 rfl ?_
  refine q_geti (j := 9) dX3_takeRangeLine_19 fl_3_32 rfl rfl rfl ?_
  rw [hs3.2.2.1]
  refine q_N1 dX3_takeRangeLine_22 (by decide +kernel) md_X7_cellsIn (c_cellsIn (by omega)) rfl (by first | decide | omega) (Nat.le_of_ble_eq_true rfl) (Nat.le_of_ble_eq_true rfl) (qk_e ?_)
  refine q_imul dX3_takeRangeLine_25 ?_
  refine q_iconst dX3_takeRangeLine_26 ?_
  refine q_isub dX3_takeRangeLine_27 ?_
  refine q_istore_n dX3_takeRangeLine_28 (Nat.le_of_ble_eq_true rfl) rfl ?_
  refine q_aload_n dX3_takeRangeLine_29 rfl ?_
  refine q_iconst dX3_takeRangeLine_30 ?_
  refine q_iload_n dX3_takeRangeLine_31 rfl ?_
  refine q_V2 dX3_takeRangeLine_32 ml_3_69 md_X3_takeNumber (c_takeNumber (p := p2) (PF_inB hF3 hB) hs3.2.1 hs3.1 (by omega) (by (first | (unfold zR; omega) | (unfold zLR; omega) | omega | (simp only [zR, qup] at *; omega) | (simp [zR, qup]; omega) | (simp [zR, qup]; done))) (by (first | (unfold zR; omega) | (unfold zLR; omega) | omega | (simp only [zR, qup] at *; omega) | (simp [zR, qup]; omega) | (simp [zR, qup]; done)))) rfl rfl rfl (by first | decide | omega) (Nat.le_of_ble_eq_true rfl) (Nat.le_of_ble_eq_true rfl) (qk_g (fun z32 N32 hq32 => ?_))
  have hz32 : -1 ≤ z32 ∧ z32 ≤ 8 * p4 L - 1 := by rcases hq32 with ⟨h, -⟩ | ⟨h, h', h2, -⟩ <;> omega
  refine q_istore dX3_takeRangeLine_35 (Nat.le_of_ble_eq_true rfl) rfl ?_
  refine q_iload dX3_takeRangeLine_37 rfl ?_
  refine q_iconst dX3_takeRangeLine_39 ?_
  refine q_icmp_ne (tgt := 45) dX3_takeRangeLine_40 rfl (by (first | (unfold zR; omega) | (unfold zLR; omega) | omega | (simp only [zR, qup] at *; omega) | (simp [zR, qup]; omega) | (simp [zR, qup]; done))) (by (first | (unfold zR; omega) | (unfold zLR; omega) | omega | (simp only [zR, qup] at *; omega) | (simp [zR, qup]; omega) | (simp [zR, qup]; done))) (fun h40 => ?_) (fun h40 => ?_)
  rotate_left
  ·
    refine q_iconst dX3_takeRangeLine_43 ?_
    refine q_zreturn (by first | exact Or.inl rfl | exact Or.inr rfl) dX3_takeRangeLine_44 ?_
    rcases hq32 with ⟨-, c, c0, hk, rfl⟩ | ⟨h, -⟩
    · exact ⟨_, rfl, lnP_fail hF3 c0 (by unfold lnRng; rw [hkT, hk]) rfl⟩
    · omega
  obtain ⟨hf0, -, hf1, hfT, rfl⟩ : 0 ≤ z32 ∧ 0 ≤ z32 ∧ z32 ≤ 8 * p4 L - 1 ∧ (∀ k, tNum I n 0 (8 * p4 L - 1) p2 k = k z32 (tE I n p2)) ∧ N32 = adv M3 I n (tE I n p2) := by
    rcases hq32 with ⟨h, -⟩ | h
    · exact absurd h h40
    · exact h
  have hs4 := Sp_adv (p' := tE I n p2) hs3 (by omega)
  have hF4 := PF_25 (M' := adv M3 I n (tE I n p2)) hF3 adv_o
  generalize adv M3 I n (tE I n p2) = M4 at hs4 hF4 ⊢
  have hE4 := tE_in (I := I) (n := n) (p := tE I n p2) (by omega)
  have hS4 := tS_in (I := I) (n := n) (p := tE I n p2) (by omega)
  generalize tE I n p2 = p3 at hs4 hfT hE4 hS4 hE3 ⊢
  refine q_aload_n dX3_takeRangeLine_45 rfl ?_
  refine q_iload dX3_takeRangeLine_46 rfl ?_
  refine q_iload_n dX3_takeRangeLine_48 rfl ?_
  refine q_V2 dX3_takeRangeLine_49 ml_3_69 md_X3_takeNumber (c_takeNumber (p := p3) (PF_inB hF4 hB) hs4.2.1 hs4.1 (by omega) (by (first | (unfold zR; omega) | (unfold zLR; omega) | omega | (simp only [zR, qup] at *; omega) | (simp [zR, qup]; omega) | (simp [zR, qup]; done))) (by (first | (unfold zR; omega) | (unfold zLR; omega) | omega | (simp only [zR, qup] at *; omega) | (simp [zR, qup]; omega) | (simp [zR, qup]; done)))) rfl rfl rfl (by first | decide | omega) (Nat.le_of_ble_eq_true rfl) (Nat.le_of_ble_eq_true rfl) (qk_g (fun z49 N49 hq49 => ?_))
  have hz49 : -1 ≤ z49 ∧ z49 ≤ 8 * p4 L - 1 := by rcases hq49 with ⟨h, -⟩ | ⟨h, h', h2, -⟩ <;> omega
  refine q_istore dX3_takeRangeLine_52 (Nat.le_of_ble_eq_true rfl) rfl ?_
  refine q_iload dX3_takeRangeLine_54 rfl ?_
  refine q_iconst dX3_takeRangeLine_56 ?_
  refine q_icmp_ne (tgt := 62) dX3_takeRangeLine_57 rfl (by (first | (unfold zR; omega) | (unfold zLR; omega) | omega | (simp only [zR, qup] at *; omega) | (simp [zR, qup]; omega) | (simp [zR, qup]; done))) (by (first | (unfold zR; omega) | (unfold zLR; omega) | omega | (simp only [zR, qup] at *; omega) | (simp [zR, qup]; omega) | (simp [zR, qup]; done))) (fun h57 => ?_) (fun h57 => ?_)
  rotate_left
  ·
    refine q_iconst dX3_takeRangeLine_60 ?_
    refine q_zreturn (by first | exact Or.inl rfl | exact Or.inr rfl) dX3_takeRangeLine_61 ?_
    rcases hq49 with ⟨-, c, c0, hk, rfl⟩ | ⟨h, -⟩
    · exact ⟨_, rfl, lnP_fail hF4 c0 (by unfold lnRng; rw [hkT, hfT, hk]) rfl⟩
    · omega
  obtain ⟨ht0, ht1, ht2, htT, rfl⟩ : 0 ≤ z49 ∧ z32 ≤ z49 ∧ z49 ≤ 8 * p4 L - 1 ∧ (∀ k, tNum I n z32 (8 * p4 L - 1) p3 k = k z49 (tE I n p3)) ∧ N49 = adv M4 I n (tE I n p3) := by
    rcases hq49 with ⟨h, -⟩ | h
    · exact absurd h h57
    · exact h
  have hs5 := Sp_adv (p' := tE I n p3) hs4 (by omega)
  have hF5 := PF_25 (M' := adv M4 I n (tE I n p3)) hF4 adv_o
  generalize adv M4 I n (tE I n p3) = M5 at hs5 hF5 ⊢
  have hrow : ∀ i, 0 ≤ i → i < 256 → rowc M5 (6 + z5) i = σ.2.2.2 z5 i := fun i i0 i1 => hs5.2.2.2.2.2.2.2.2.2.2.2.1 z5 i hk0 hk1 i0 i1
  have hz0 : ∀ i, p4 L ≤ i → i < 256 → σ.2.2.2 z5 i = 0 := fun i i0 i1 => hs5.2.2.2.2.2.2.2.2.2.2.2.2 z5 i hk0 hk1 i0 i1
  have hok := PF_ok hF5 (r := 6 + z5) (by omega)
  have hE5 : lnRng I n L b σ = .inr (tE I n p3, σ.2.1, σ.2.2.1, fun j => if j = z5 then (if b = 2 then flpF (σ.2.2.2 z5) z32 z49 else covF (σ.2.2.2 z5) z32 z49 b) else σ.2.2.2 j) := by
    unfold lnRng
    rw [hkT, hfT, htT]
  refine q_iload_n dX3_takeRangeLine_62 rfl ?_
  refine q_iconst dX3_takeRangeLine_63 ?_
  refine q_icmp_ne (tgt := 85) dX3_takeRangeLine_64 rfl (by (first | (unfold zR; omega) | (unfold zLR; omega) | omega | (simp only [zR, qup] at *; omega) | (simp [zR, qup]; omega) | (simp [zR, qup]; done))) (by (first | (unfold zR; omega) | (unfold zLR; omega) | omega | (simp only [zR, qup] at *; omega) | (simp [zR, qup]; omega) | (simp [zR, qup]; done))) (fun h64 => ?_) (fun h64 => ?_)
  ·
    refine q_aload_n dX3_takeRangeLine_85 rfl ?_
    refine q_getr dX3_takeRangeLine_86 fl_3_24 rfl rfl ?_
    refine q_bipush dX3_takeRangeLine_89 rfl ?_
    refine q_iload_n dX3_takeRangeLine_91 rfl ?_
    refine q_iadd dX3_takeRangeLine_92 ?_
    refine q_iload dX3_takeRangeLine_93 rfl ?_
    refine q_iload dX3_takeRangeLine_95 rfl ?_
    refine q_iload_n dX3_takeRangeLine_97 rfl ?_
    refine q_V4 dX3_takeRangeLine_98 ml_3_135 md_X0_cover (c_cover (by omega) (by omega) (by omega) ht1 (by omega) hok) rfl rfl rfl (by first | decide | omega) (Nat.le_of_ble_eq_true rfl) (Nat.le_of_ble_eq_true rfl) (qk_v ?_)
    refine q_iconst dX3_takeRangeLine_101 ?_
    refine q_zreturn (by first | exact Or.inl rfl | exact Or.inr rfl) dX3_takeRangeLine_102 ?_
    rw [qrow_congr M5 (g := covF (σ.2.2.2 z5) z32 z49 b) (fun i i0 i1 => covF_c (hrow i i0 i1))]
    have hFb : ∀ i, 0 ≤ i → i < 256 → 0 ≤ covF (σ.2.2.2 z5) z32 z49 b i ∧ covF (σ.2.2.2 z5) z32 z49 b i < 256 := fun i _ _ => covF_in (by omega)
    refine ⟨_, rfl, Or.inr ⟨rfl, _, hE5, ?_, PF_row hF5 (by omega) hFb⟩⟩
    rw [if_neg h64]
    exact Sp_row hs5 ⟨hk0, hk1⟩ (fun i i0 i1 => (rng_0 ht2 i0 (hz0 i i0 i1)).2 b)
  ·
    refine q_aload_n dX3_takeRangeLine_67 rfl ?_
    refine q_getr dX3_takeRangeLine_68 fl_3_24 rfl rfl ?_
    refine q_bipush dX3_takeRangeLine_71 rfl ?_
    refine q_iload_n dX3_takeRangeLine_73 rfl ?_
    refine q_iadd dX3_takeRangeLine_74 ?_
    refine q_iload dX3_takeRangeLine_75 rfl ?_
    refine q_iload dX3_takeRangeLine_77 rfl ?_
    refine q_V3 dX3_takeRangeLine_79 ml_3_131 md_X0_invert (c_invert (by omega) (by omega) (by omega) ht1 hok) rfl rfl rfl (by first | decide | omega) (Nat.le_of_ble_eq_true rfl) (Nat.le_of_ble_eq_true rfl) (qk_v ?_)
    refine q_goto (tgt := 101) dX3_takeRangeLine_82 rfl ?_
    refine q_iconst dX3_takeRangeLine_101 ?_
    refine q_zreturn (by first | exact Or.inl rfl | exact Or.inr rfl) dX3_takeRangeLine_102 ?_
    rw [qrow_congr M5 (g := flpF (σ.2.2.2 z5) z32 z49) (fun i i0 i1 => flpF_c (hrow i i0 i1))]
    have hFb : ∀ i, 0 ≤ i → i < 256 → 0 ≤ flpF (σ.2.2.2 z5) z32 z49 i ∧ flpF (σ.2.2.2 z5) z32 z49 i < 256 := fun i _ _ => flpF_in
    refine ⟨_, rfl, Or.inr ⟨rfl, _, hE5, ?_, PF_row hF5 (by omega) hFb⟩⟩
    rw [if_pos h64]
    exact Sp_row hs5 ⟨hk0, hk1⟩ (fun i i0 i1 => (rng_0 ht2 i0 (hz0 i i0 i1)).1)
set_option maxHeartbeats 4000000 in
theorem c_takeOrLine (hB : inB M0 I n) (hF : PF M0 M) (hs : Sp M I n L σ) (hL : 1 ≤ L ∧ L ≤ 4) : qCt mX3_takeOrLine 0 3 [.ref 25] M (qpg (lnP M0 I n L (lnOr I n σ))) := by
  have hp8 : 0 ≤ σ.1 ∧ σ.1 ≤ n := ⟨hs.2.2.2.2.2.2.1, hs.2.2.2.2.2.2.2.1⟩
  have hE := tE_in (I := I) hp8.2
  have hS := tS_in (I := I) hp8.2
  have hE2 := tE_in (I := I) (n := n) (p := tE I n σ.1) (by omega)
  have hS2 := tS_in (I := I) (n := n) (p := tE I n σ.1) (by omega)
  have hs2 := Sp_adv (p' := tE I n σ.1) hs (by omega)
  have hF2 := PF_25 (M' := adv M I n (tE I n σ.1)) hF adv_o
  have hm6 := hs.2.2.2.2.2.1
  have hm5 := hs.2.2.2.2.1
  refine q_intro (own := 3) (L := [some (.ref 25), none, none]) md_X3_takeOrLine rfl rfl rfl (Nat.le_of_ble_eq_true rfl) (fun X => ?_)
  refine q_aload_n dX3_takeOrLine_0 rfl ?_
  refine q_V0 dX3_takeOrLine_1 ml_3_77 md_X3_advance (c_advance (PF_inB hF hB) hs.2.1 hs.1.1 (by omega)) rfl rfl rfl (by first | decide | omega) (Nat.le_of_ble_eq_true rfl) (Nat.le_of_ble_eq_true rfl) (qk_v ?_)
  refine q_mem (M' := adv M I n (tE I n σ.1)) rfl ?_
  refine q_aload_n dX3_takeOrLine_4 rfl ?_
  refine q_V0 dX3_takeOrLine_5 ml_3_124 md_X3_takeMap (c_takeMap (N := σ.2.2.1) (m := σ.2.1) (PF_inB hF2 hB) hs2.2.1 hs2.1 (by dsimp only; omega) hs2.2.2.2.1 ⟨hs2.2.2.2.2.1, hs2.2.2.2.2.2.1⟩ (Sp_N (σ := (tE I n σ.1, σ.2)) hs2)) rfl rfl rfl (by first | decide | omega) (Nat.le_of_ble_eq_true rfl) (Nat.le_of_ble_eq_true rfl) (qk_g (fun z5 N5 hq5 => ?_))
  have hz5 : -1 ≤ z5 ∧ z5 < 6 := by rcases hq5 with ⟨h, -⟩ | ⟨h, h', -⟩ <;> omega
  refine q_istore_n dX3_takeOrLine_8 (Nat.le_of_ble_eq_true rfl) rfl ?_
  refine q_iload_n dX3_takeOrLine_9 rfl ?_
  refine q_iconst dX3_takeOrLine_10 ?_
  refine q_icmp_ne (tgt := 16) dX3_takeOrLine_11 rfl (by (first | (unfold zR; omega) | (unfold zLR; omega) | omega | (simp only [zR, qup] at *; omega) | (simp [zR, qup]; omega) | (simp [zR, qup]; done))) (by (first | (unfold zR; omega) | (unfold zLR; omega) | omega | (simp only [zR, qup] at *; omega) | (simp [zR, qup]; omega) | (simp [zR, qup]; done))) (fun h11 => ?_) (fun h11 => ?_)
  rotate_left
  ·
    refine q_iconst dX3_takeOrLine_14 ?_
    refine q_zreturn (by first | exact Or.inl rfl | exact Or.inr rfl) dX3_takeOrLine_15 ?_
    rcases hq5 with ⟨-, c, c0, hk, rfl⟩ | ⟨h, -⟩
    · exact ⟨_, rfl, lnP_fail hF2 c0 (hk _) rfl⟩
    · omega
  obtain ⟨hk0, hk1, hkT, rfl⟩ : 0 ≤ z5 ∧ z5 < σ.2.1 ∧ (∀ k, tMap I n σ.2.2.1 σ.2.1 (tE I n σ.1) k = k z5 (tE I n (tE I n σ.1))) ∧ N5 = adv (adv M I n (tE I n σ.1)) I n (tE I n (tE I n σ.1)) := by
    rcases hq5 with ⟨h, -⟩ | h
    · exact absurd h h11
    · exact h
  have hs3 := Sp_adv (p' := tE I n (tE I n σ.1)) hs2 (by omega)
  have hF3 := PF_25 (M' := adv (adv M I n (tE I n σ.1)) I n (tE I n (tE I n σ.1))) hF2 adv_o
  generalize adv (adv M I n (tE I n σ.1)) I n (tE I n (tE I n σ.1)) = M3 at hs3 hF3 ⊢
  have hE3 := tE_in (I := I) (n := n) (p := tE I n (tE I n σ.1)) (by omega)
  have hS3 := tS_in (I := I) (n := n) (p := tE I n (tE I n σ.1)) (by omega)
  generalize tE I n (tE I n σ.1) = p2 at hs3 hkT hE3 hS3 hE2 ⊢
  refine q_aload_n dX3_takeOrLine_16 rfl ?_
  refine q_V0 dX3_takeOrLine_17 ml_3_124 md_X3_takeMap (c_takeMap (p := p2) (N := σ.2.2.1) (m := σ.2.1) (PF_inB hF3 hB) hs3.2.1 hs3.1 (by omega) hs3.2.2.2.1 ⟨hm5, hm6⟩ (Sp_N (σ := (p2, σ.2)) hs3)) rfl rfl rfl (by first | decide | omega) (Nat.le_of_ble_eq_true rfl) (Nat.le_of_ble_eq_true rfl) (qk_g (fun z17 N17 hq17 => ?_))
  have hz17 : -1 ≤ z17 ∧ z17 < 6 := by rcases hq17 with ⟨h, -⟩ | ⟨h, h', -⟩ <;> omega
  refine q_istore_n dX3_takeOrLine_20 (Nat.le_of_ble_eq_true rfl) rfl ?_
  refine q_iload_n dX3_takeOrLine_21 rfl ?_
  refine q_iconst dX3_takeOrLine_22 ?_
  refine q_icmp_ne (tgt := 28) dX3_takeOrLine_23 rfl (by (first | (unfold zR; omega) | (unfold zLR; omega) | omega | (simp only [zR, qup] at *; omega) | (simp [zR, qup]; omega) | (simp [zR, qup]; done))) (by (first | (unfold zR; omega) | (unfold zLR; omega) | omega | (simp only [zR, qup] at *; omega) | (simp [zR, qup]; omega) | (simp [zR, qup]; done))) (fun h23 => ?_) (fun h23 => ?_)
  rotate_left
  ·
    refine q_iconst dX3_takeOrLine_26 ?_
    refine q_zreturn (by first | exact Or.inl rfl | exact Or.inr rfl) dX3_takeOrLine_27 ?_
    rcases hq17 with ⟨-, c, c0, hk, rfl⟩ | ⟨h, -⟩
    · exact ⟨_, rfl, lnP_fail hF3 c0 (by unfold lnOr; rw [hkT, hk]) rfl⟩
    · omega
  obtain ⟨hj0, hj1, hjT, rfl⟩ : 0 ≤ z17 ∧ z17 < σ.2.1 ∧ (∀ k, tMap I n σ.2.2.1 σ.2.1 p2 k = k z17 (tE I n p2)) ∧ N17 = adv M3 I n (tE I n p2) := by
    rcases hq17 with ⟨h, -⟩ | h
    · exact absurd h h23
    · exact h
  have hs4 := Sp_adv (p' := tE I n p2) hs3 (by omega)
  have hF4 := PF_25 (M' := adv M3 I n (tE I n p2)) hF3 adv_o
  generalize adv M3 I n (tE I n p2) = M4 at hs4 hF4 ⊢
  have hrow : ∀ k i, 0 ≤ k → k < σ.2.1 → 0 ≤ i → i < 256 → rowc M4 (6 + k) i = σ.2.2.2 k i := fun k i k0 k1 i0 i1 => hs4.2.2.2.2.2.2.2.2.2.2.2.1 k i k0 k1 i0 i1
  have hz0 : ∀ k i, 0 ≤ k → k < σ.2.1 → p4 L ≤ i → i < 256 → σ.2.2.2 k i = 0 := fun k i k0 k1 i0 i1 => hs4.2.2.2.2.2.2.2.2.2.2.2.2 k i k0 k1 i0 i1
  have hpL := p4_in (L : Int)
  have hbt : ∀ k i, 0 ≤ k → k < σ.2.1 → 0 ≤ i → i < 256 → 0 ≤ σ.2.2.2 k i ∧ σ.2.2.2 k i < 256 := fun k i k0 k1 i0 i1 => by rw [← hrow k i k0 k1 i0 i1]; exact PF_ok hF4 (by omega) i i0 i1
  have hE5 : lnOr I n σ = .inr (tE I n p2, σ.2.1, σ.2.2.1, fun j => if j = z5 then fun i => mgF 0 (σ.2.2.2 z5 i) (σ.2.2.2 z17 i) else σ.2.2.2 j) := by
    unfold lnOr
    rw [hkT, hjT]
  refine q_aload_n dX3_takeOrLine_28 rfl ?_
  refine q_getr dX3_takeOrLine_29 fl_3_24 rfl rfl ?_
  refine q_iconst dX3_takeOrLine_32 ?_
  refine q_bipush dX3_takeOrLine_33 rfl ?_
  refine q_iload_n dX3_takeOrLine_35 rfl ?_
  refine q_iadd dX3_takeOrLine_36 ?_
  refine q_bipush dX3_takeOrLine_37 rfl ?_
  refine q_iload_n dX3_takeOrLine_39 rfl ?_
  refine q_iadd dX3_takeOrLine_40 ?_
  refine q_bipush dX3_takeOrLine_41 rfl ?_
  refine q_iload_n dX3_takeOrLine_43 rfl ?_
  refine q_iadd dX3_takeOrLine_44 ?_
  refine q_V4 dX3_takeOrLine_45 ml_3_138 md_X0_merge (c_merge (by omega) (by omega) (by omega) (by omega)) rfl rfl rfl (by first | decide | omega) (Nat.le_of_ble_eq_true rfl) (Nat.le_of_ble_eq_true rfl) (qk_v ?_)
  refine q_iconst dX3_takeOrLine_48 ?_
  refine q_zreturn (by first | exact Or.inl rfl | exact Or.inr rfl) dX3_takeOrLine_49 ?_
  rw [qrow_congr M4 (g := fun i => mgF 0 (σ.2.2.2 z5 i) (σ.2.2.2 z17 i)) (fun i i0 i1 => by show mgF 0 (rowc M4 (6 + z5) i) (rowc M4 (6 + z17) i) = _; rw [hrow z5 i hk0 hk1 i0 i1, hrow z17 i hj0 hj1 i0 i1])]
  refine ⟨_, rfl, Or.inr ⟨rfl, _, hE5, ?_, PF_row hF4 (by omega) (fun i i0 i1 => mgF_in (hbt z5 i hk0 hk1 i0 i1) (hbt z17 i hj0 hj1 i0 i1))⟩⟩
  exact Sp_row hs4 ⟨hk0, hk1⟩ (fun i i0 i1 => by show mgF 0 (σ.2.2.2 z5 i) (σ.2.2.2 z17 i) = 0; rw [hz0 z5 i hk0 hk1 i0 i1, hz0 z17 i hj0 hj1 i0 i1, mgF_0])
end LN2


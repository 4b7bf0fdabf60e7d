/-! The model: what is asked of two maps. -/
theorem zbit_x {a b j : Int} (ha : 0 ≤ a ∧ a < 256) (hb : 0 ≤ b ∧ b < 256) (hj : 0 ≤ j ∧ j < 8) : zbit (zxor a b) j = 1 ↔ zbit a j ≠ zbit b j := by
  rw [zxor_byte ha hb, zbit_ofBits (fun i _ _ => by rcases zbit_01 a i with e | e <;> rcases zbit_01 b i with e' | e' <;> rw [e, e'] <;> decide) hj.1 hj.2]
  rcases zbit_01 a j with e | e <;> rcases zbit_01 b j with e' | e' <;> rw [e, e'] <;> decide
theorem zand_in {a b : Int} (ha : 0 ≤ a ∧ a < 256) (hb : 0 ≤ b ∧ b < 256) : 0 ≤ zand a b ∧ zand a b < 256 := by
  have := mgF_in (k := 1) ha hb
  exact this
theorem zxor_in {a b : Int} (ha : 0 ≤ a ∧ a < 256) (hb : 0 ≤ b ∧ b < 256) : 0 ≤ zxor a b ∧ zxor a b < 256 := by
  have := mgF_in (k := 3) ha hb
  exact this
theorem zandn_in {a b : Int} (ha : 0 ≤ a ∧ a < 256) (hb : 0 ≤ b ∧ b < 256) : 0 ≤ zand a (zxor b (-1)) ∧ zand a (zxor b (-1)) < 256 := by
  have := mgF_in (k := 2) ha hb
  exact this
theorem scl_b {M : qM} (hM : MI M) {k i : Int} (hk : 0 ≤ k ∧ k < 6) (hi : 0 ≤ i ∧ i < 256) : 0 ≤ scl M k i ∧ scl M k i < 256 := hM.2.2.2.2.1 _ (by omega) (by omega)
theorem scl_g {M : qM} {g k : Int} : scl (qup M 37 0 g) k = scl M k := by funext i; simp [scl, qup]
theorem mMp_0 {M : qM} (hM : MI M) {k : Int} (h : mMp M k = 0) : 0 ≤ k ∧ k < M 37 3 ∧ k < 6 := by
  have h2 : 0 ≤ k ∧ k < M 37 3 := Classical.byContradiction fun q => by unfold mMp at h; rw [if_neg q] at h; omega
  have := hM.2.2.2.1
  exact ⟨h2.1, h2.2, by omega⟩
theorem MI_g {M : qM} (hM : MI M) (g : Int) : MI (qup M 37 0 g) := by
  have e : ∀ o, o ≠ 37 → qup M 37 0 g o = M o := fun o h => by funext j; exact qup_o _ _ _ _ h
  have e2 : ∀ k, k ≠ 0 → qup M 37 0 g 37 k = M 37 k := fun k h => qup_k _ _ _ h
  unfold MI
  rw [e 38 (by decide), e 39 (by decide), e 40 (by decide), e 41 (by decide), e 48 (by decide), e2 1 (by decide), e2 2 (by decide), e2 3 (by decide), e2 7 (by decide), e2 21 (by decide), e2 35 (by decide)]
  exact hM
section MQ
variable {M : qM} {L l : Nat} {c : Int → Int} {k o x y a b v p q f t n g : Int}
set_option maxHeartbeats 1000000 in
theorem m_byteOf (hk : 0 ≤ k ∧ k < 6) (hi : 0 ≤ p ∧ p < 256) : qCt mX8_byteOf 0 0 [.ref 37, .int (zI k), .int (zI p)] M (qpe (scl M k p) M) := by
  refine q_intro (own := 8) (L := [some (.ref 37), some (.int (zI k)), some (.int (zI p))]) md_X8_byteOf rfl rfl rfl (Nat.le_of_ble_eq_true rfl) (fun X => ?_)
  refine q_aload_n dX8_byteOf_0 rfl ?_
  refine q_getr dX8_byteOf_1 fl_8_13 rfl rfl ?_
  refine q_sipush dX8_byteOf_4 rfl ?_
  refine q_iload_n dX8_byteOf_7 rfl ?_
  refine q_imul dX8_byteOf_8 ?_
  refine q_iload_n dX8_byteOf_9 rfl ?_
  refine q_iadd dX8_byteOf_10 ?_
  refine q_iald dX8_byteOf_11 rfl (by (first | (unfold zR; omega) | (unfold zLR; omega) | omega | (simp only [zR, qup] at *; omega) | (simp [zR, qup]; omega) | (simp [zR, qup]; done))) (Nat.le_of_ble_eq_true rfl) ?_
  refine q_ireturn dX8_byteOf_12 ?_
  exact ⟨rfl, rfl⟩
set_option maxHeartbeats 1000000 in
theorem m_onesOf (hv : 0 ≤ v ∧ v < 256) : qCt mX8_onesOf 0 0 [.int (zI v)] M (qpe (zpop v) M) := by
  refine q_intro (own := 8) (L := [some (.int (zI v)), none, none]) md_X8_onesOf rfl rfl rfl (Nat.le_of_ble_eq_true rfl) (fun X => ?_)
  refine q_iconst dX8_onesOf_0 ?_
  refine q_istore_n dX8_onesOf_1 (Nat.le_of_ble_eq_true rfl) rfl ?_
  refine q_iconst dX8_onesOf_2 ?_
  refine q_istore_n dX8_onesOf_3 (Nat.le_of_ble_eq_true rfl) rfl ?_
  refine q_lp (fun i : Nat => 8 - i) (fun i => i ≤ 8) (fun i => [some (.int (zI v)), some (.int (zI (zsum (zbit v) 0 i))), some (.int (zI (i : Int)))]) (fun _ => M) 0 rfl rfl (by omega) (fun i hi ih => ?_)
  refine q_iload_n dX8_onesOf_4 rfl ?_
  refine q_bipush dX8_onesOf_5 rfl ?_
  refine q_icmp_ge (tgt := 24) dX8_onesOf_7 rfl (by (first | (unfold zR; omega) | (unfold zLR; omega) | omega | (simp only [zR, qup] at *; omega) | (simp [zR, qup]; omega) | (simp [zR, qup]; done))) (by (first | (unfold zR; omega) | (unfold zLR; omega) | omega | (simp only [zR, qup] at *; omega) | (simp [zR, qup]; omega) | (simp [zR, qup]; done))) (fun h7 => ?_) (fun h7 => ?_)
  rotate_left
  ·
    refine q_iload_n dX8_onesOf_10 rfl ?_
    refine q_iload_n dX8_onesOf_11 rfl ?_
    refine q_iload_n dX8_onesOf_12 rfl ?_
    refine q_ishr dX8_onesOf_13 ?_
    refine q_iconst dX8_onesOf_14 ?_
    refine q_iand dX8_onesOf_15 ?_
    rw [zbit_eq (by omega) (by omega) (by omega) (by omega)]
    refine q_iadd dX8_onesOf_16 ?_
    refine q_istore_n dX8_onesOf_17 (Nat.le_of_ble_eq_true rfl) rfl ?_
    refine q_iinc dX8_onesOf_18 rfl (Nat.le_of_ble_eq_true rfl) rfl ?_
    refine q_goto (tgt := 4) dX8_onesOf_21 rfl ?_
    exact ih (i + 1) _ _ (by omega) (by omega) (by rw [zsum, Int.zero_add]; rfl) rfl
  refine q_iload_n dX8_onesOf_24 rfl ?_
  refine q_ireturn dX8_onesOf_25 ?_
  exact ⟨by rw [show i = 8 by omega, zsum_8]; rfl, rfl⟩
set_option maxHeartbeats 2000000 in
theorem o_common (hM : MI M) (hk : zR k) (ho : zR o) : qCt mX8_common 0 4 [.ref 37, .int (zI k), .int (zI o)] M (mpx (gor (gG M k) (mMp M o)) (fun z M' => z = zsum (fun i => zpop (zand (scl M k i) (scl M o i))) 0 256 ∧ MS (qup M 37 0 0) M') M) := by
  refine q_intro (own := 8) (L := [some (.ref 37), some (.int (zI k)), some (.int (zI o)), none, none]) md_X8_common rfl rfl rfl (Nat.le_of_ble_eq_true rfl) (fun X => ?_)
  refine q_aload_n dX8_common_0 rfl ?_
  refine q_iload_n dX8_common_1 rfl ?_
  refine q_iload_n dX8_common_2 rfl ?_
  refine q_V2 dX8_common_3 ml_8_341 md_X8_noPair (m_noPair hM hk ho) rfl rfl rfl (by first | decide | omega) (Nat.le_of_ble_eq_true rfl) (Nat.le_of_ble_eq_true rfl) (qk_e ?_)
  refine q_if_eq (tgt := 11) dX8_common_6 rfl (by exact zb_R _) (fun h6 => ?_) (fun h6 => ?_)
  ·
    have hg := zbz h6
    have hg2 := gor_00.1 hg
    have hgk := gG_0 hM hg2.1
    have hgo := mMp_0 hM hg2.2
    rw [hg]
    refine q_iconst dX8_common_11 ?_
    refine q_istore_n dX8_common_12 (Nat.le_of_ble_eq_true rfl) rfl ?_
    refine q_iconst dX8_common_13 ?_
    refine q_istore dX8_common_14 (Nat.le_of_ble_eq_true rfl) rfl ?_
    refine q_lp (fun i : Nat => 256 - i) (fun i => i ≤ 256) (fun i => [some (.ref 37), some (.int (zI k)), some (.int (zI o)), some (.int (zI (zsum (fun i => zpop (zand (scl M k i) (scl M o i))) 0 i))), some (.int (zI (i : Int)))]) (fun _ => qup M 37 0 0) 0 rfl rfl (by omega) (fun i hi ih => ?_)
    refine q_iload dX8_common_16 rfl ?_
    refine q_sipush dX8_common_18 rfl ?_
    refine q_icmp_ge (tgt := 51) dX8_common_21 rfl (by (first | (unfold zR; omega) | (unfold zLR; omega) | omega | (simp only [zR, qup] at *; omega) | (simp [zR, qup]; omega) | (simp [zR, qup]; done))) (by (first | (unfold zR; omega) | (unfold zLR; omega) | omega | (simp only [zR, qup] at *; omega) | (simp [zR, qup]; omega) | (simp [zR, qup]; done))) (fun h21 => ?_) (fun h21 => ?_)
    rotate_left
    ·
      refine q_iload_n dX8_common_24 rfl ?_
      refine q_aload_n dX8_common_25 rfl ?_
      refine q_iload_n dX8_common_26 rfl ?_
      refine q_iload dX8_common_27 rfl ?_
      refine q_V2 dX8_common_29 ml_8_344 md_X8_byteOf (m_byteOf (by omega) (by omega)) rfl rfl rfl (by first | decide | omega) (Nat.le_of_ble_eq_true rfl) (Nat.le_of_ble_eq_true rfl) (qk_e ?_)
      refine q_aload_n dX8_common_32 rfl ?_
      refine q_iload_n dX8_common_33 rfl ?_
      refine q_iload dX8_common_34 rfl ?_
      refine q_V2 dX8_common_36 ml_8_344 md_X8_byteOf (m_byteOf (by omega) (by omega)) rfl rfl rfl (by first | decide | omega) (Nat.le_of_ble_eq_true rfl) (Nat.le_of_ble_eq_true rfl) (qk_e ?_)
      rw [scl_g, scl_g]
      have hb1 := scl_b hM (k := k) (i := (i : Int)) (by omega) (by omega)
      have hb2 := scl_b hM (k := o) (i := (i : Int)) (by omega) (by omega)
      refine q_iand dX8_common_39 ?_
      refine q_S1 dX8_common_40 ml_8_347 md_X8_onesOf (m_onesOf (zand_in hb1 hb2)) rfl (by first | decide | omega) (Nat.le_of_ble_eq_true rfl) (Nat.le_of_ble_eq_true rfl) (qk_e ?_)
      refine q_iadd dX8_common_43 ?_
      refine q_istore_n dX8_common_44 (Nat.le_of_ble_eq_true rfl) rfl ?_
      refine q_iinc dX8_common_45 rfl (Nat.le_of_ble_eq_true rfl) rfl ?_
      refine q_goto (tgt := 16) dX8_common_48 rfl ?_
      exact ih (i + 1) _ _ (by omega) (by omega) (by rw [zsum, Int.zero_add]; rfl) rfl
    refine q_iload_n dX8_common_51 rfl ?_
    refine q_ireturn dX8_common_52 ?_
    exact mpx_k hg ⟨by rw [show i = 256 by omega], MS_rf _⟩
  ·
    refine q_iconst dX8_common_9 ?_
    refine q_ireturn dX8_common_10 ?_
    exact mpx_g (zbn h6)
set_option maxHeartbeats 2000000 in
theorem m_unlike (hM : MI M) (hk : 0 ≤ k ∧ k < 6) (ho : 0 ≤ o ∧ o < 6) : qCt mX8_unlike 0 1 [.ref 37, .int (zI k), .int (zI o)] M (qpe (unl (scl M k) (scl M o) 0 0 256) M) := by
  have hu : unl (scl M k) (scl M o) 0 0 256 = zsum (fun i => zpop (zxor (scl M k i) (scl M o i))) 0 256 := by unfold unl; simp only [Int.zero_add]; rfl
  rw [hu]
  refine q_intro (own := 8) (L := [some (.ref 37), some (.int (zI k)), some (.int (zI o)), none, none]) md_X8_unlike rfl rfl rfl (Nat.le_of_ble_eq_true rfl) (fun X => ?_)
  refine q_iconst dX8_unlike_0 ?_
  refine q_istore_n dX8_unlike_1 (Nat.le_of_ble_eq_true rfl) rfl ?_
  refine q_iconst dX8_unlike_2 ?_
  refine q_istore dX8_unlike_3 (Nat.le_of_ble_eq_true rfl) rfl ?_
  refine q_lp (fun i : Nat => 256 - i) (fun i => i ≤ 256) (fun i => [some (.ref 37), some (.int (zI k)), some (.int (zI o)), some (.int (zI (zsum (fun i => zpop (zxor (scl M k i) (scl M o i))) 0 i))), some (.int (zI (i : Int)))]) (fun _ => M) 0 rfl rfl (by omega) (fun i hi ih => ?_)
  refine q_iload dX8_unlike_5 rfl ?_
  refine q_sipush dX8_unlike_7 rfl ?_
  refine q_icmp_ge (tgt := 40) dX8_unlike_10 rfl (by (first | (unfold zR; omega) | (unfold zLR; omega) | omega | (simp only [zR, qup] at *; omega) | (simp [zR, qup]; omega) | (simp [zR, qup]; done))) (by (first | (unfold zR; omega) | (unfold zLR; omega) | omega | (simp only [zR, qup] at *; omega) | (simp [zR, qup]; omega) | (simp [zR, qup]; done))) (fun h10 => ?_) (fun h10 => ?_)
  rotate_left
  ·
    refine q_iload_n dX8_unlike_13 rfl ?_
    refine q_aload_n dX8_unlike_14 rfl ?_
    refine q_iload_n dX8_unlike_15 rfl ?_
    refine q_iload dX8_unlike_16 rfl ?_
    refine q_V2 dX8_unlike_18 ml_8_344 md_X8_byteOf (m_byteOf (by omega) (by omega)) rfl rfl rfl (by first | decide | omega) (Nat.le_of_ble_eq_true rfl) (Nat.le_of_ble_eq_true rfl) (qk_e ?_)
    refine q_aload_n dX8_unlike_21 rfl ?_
    refine q_iload_n dX8_unlike_22 rfl ?_
    refine q_iload dX8_unlike_23 rfl ?_
    refine q_V2 dX8_unlike_25 ml_8_344 md_X8_byteOf (m_byteOf (by omega) (by omega)) rfl rfl rfl (by first | decide | omega) (Nat.le_of_ble_eq_true rfl) (Nat.le_of_ble_eq_true rfl) (qk_e ?_)
    have hb1 := scl_b hM (k := k) (i := (i : Int)) (by omega) (by omega)
    have hb2 := scl_b hM (k := o) (i := (i : Int)) (by omega) (by omega)
    refine q_ixor dX8_unlike_28 ?_
    refine q_S1 dX8_unlike_29 ml_8_347 md_X8_onesOf (m_onesOf (zxor_in hb1 hb2)) rfl (by first | decide | omega) (Nat.le_of_ble_eq_true rfl) (Nat.le_of_ble_eq_true rfl) (qk_e ?_)
    refine q_iadd dX8_unlike_32 ?_
    refine q_istore_n dX8_unlike_33 (Nat.le_of_ble_eq_true rfl) rfl ?_
    refine q_iinc dX8_unlike_34 rfl (Nat.le_of_ble_eq_true rfl) rfl ?_
    refine q_goto (tgt := 5) dX8_unlike_37 rfl ?_
    exact ih (i + 1) _ _ (by omega) (by omega) (by rw [zsum, Int.zero_add]; rfl) rfl
  refine q_iload_n dX8_unlike_40 rfl ?_
  refine q_ireturn dX8_unlike_41 ?_
  exact ⟨by rw [show i = 256 by omega], rfl⟩
set_option maxHeartbeats 2000000 in
theorem o_distance (hM : MI M) (hk : zR k) (ho : zR o) : qCt mX8_distance 0 4 [.ref 37, .int (zI k), .int (zI o)] M (mpx (gor (gG M k) (mMp M o)) (fun z M' => z = unl (scl M k) (scl M o) 0 0 256 ∧ MS (qup M 37 0 0) M') M) := by
  refine q_intro (own := 8) (L := [some (.ref 37), some (.int (zI k)), some (.int (zI o))]) md_X8_distance rfl rfl rfl (Nat.le_of_ble_eq_true rfl) (fun X => ?_)
  refine q_aload_n dX8_distance_0 rfl ?_
  refine q_iload_n dX8_distance_1 rfl ?_
  refine q_iload_n dX8_distance_2 rfl ?_
  refine q_V2 dX8_distance_3 ml_8_341 md_X8_noPair (m_noPair hM hk ho) rfl rfl rfl (by first | decide | omega) (Nat.le_of_ble_eq_true rfl) (Nat.le_of_ble_eq_true rfl) (qk_e ?_)
  refine q_if_eq (tgt := 13) dX8_distance_6 rfl (by exact zb_R _) (fun h6 => ?_) (fun h6 => ?_)
  ·
    have hg := zbz h6
    have hg2 := gor_00.1 hg
    have hgk := gG_0 hM hg2.1
    have hgo := mMp_0 hM hg2.2
    rw [hg]
    refine q_aload_n dX8_distance_13 rfl ?_
    refine q_iload_n dX8_distance_14 rfl ?_
    refine q_iload_n dX8_distance_15 rfl ?_
    refine q_V2 dX8_distance_16 ml_8_350 md_X8_unlike (m_unlike (MI_g hM 0) (by omega) (by omega)) rfl rfl rfl (by first | decide | omega) (Nat.le_of_ble_eq_true rfl) (Nat.le_of_ble_eq_true rfl) (qk_e ?_)
    rw [scl_g, scl_g]
    refine q_ireturn dX8_distance_19 ?_
    exact mpx_k hg ⟨rfl, MS_rf _⟩
  ·
    refine q_iconst dX8_distance_9 ?_
    refine q_goto (tgt := 19) dX8_distance_10 rfl ?_
    refine q_ireturn dX8_distance_19 ?_
    exact mpx_g (zbn h6)
set_option maxHeartbeats 2000000 in
theorem o_differs (hM : MI M) (hk : zR k) (ho : zR o) : qCt mX8_differs 0 4 [.ref 37, .int (zI k), .int (zI o)] M (mpx (gor (gG M k) (mMp M o)) (fun z M' => frst (fun i => bitP (scl M k) i ≠ bitP (scl M o) i) 0 2048 z ∧ MS (qup M 37 0 0) M') M) := by
  refine q_intro (own := 8) (L := [some (.ref 37), some (.int (zI k)), some (.int (zI o)), none]) md_X8_differs rfl rfl rfl (Nat.le_of_ble_eq_true rfl) (fun X => ?_)
  refine q_aload_n dX8_differs_0 rfl ?_
  refine q_iload_n dX8_differs_1 rfl ?_
  refine q_iload_n dX8_differs_2 rfl ?_
  refine q_V2 dX8_differs_3 ml_8_341 md_X8_noPair (m_noPair hM hk ho) rfl rfl rfl (by first | decide | omega) (Nat.le_of_ble_eq_true rfl) (Nat.le_of_ble_eq_true rfl) (qk_e ?_)
  refine q_if_eq (tgt := 11) dX8_differs_6 rfl (by exact zb_R _) (fun h6 => ?_) (fun h6 => ?_)
  ·
    have hg := zbz h6
    have hg2 := gor_00.1 hg
    have hgk := gG_0 hM hg2.1
    have hgo := mMp_0 hM hg2.2
    rw [hg]
    refine q_iconst dX8_differs_11 ?_
    refine q_istore_n dX8_differs_12 (Nat.le_of_ble_eq_true rfl) rfl ?_
    refine q_lp (fun i : Int => (2048 - i).toNat) (fun i => 0 ≤ i ∧ i ≤ 2048 ∧ ∀ j, 0 ≤ j → j < i → ¬ (bitP (scl M k) j ≠ bitP (scl M o) j)) (fun i => [some (.ref 37), some (.int (zI k)), some (.int (zI o)), some (.int (zI i))]) (fun _ => qup M 37 0 0) 0 rfl rfl ⟨by omega, by omega, fun j q1 q2 => by omega⟩ (fun i hi ih => ?_)
    refine q_iload_n dX8_differs_13 rfl ?_
    refine q_sipush dX8_differs_14 rfl ?_
    refine q_icmp_ge (tgt := 58) dX8_differs_17 rfl (by (first | (unfold zR; omega) | (unfold zLR; omega) | omega | (simp only [zR, qup] at *; omega) | (simp [zR, qup]; omega) | (simp [zR, qup]; done))) (by (first | (unfold zR; omega) | (unfold zLR; omega) | omega | (simp only [zR, qup] at *; omega) | (simp [zR, qup]; omega) | (simp [zR, qup]; done))) (fun h17 => ?_) (fun h17 => ?_)
    rotate_left
    ·
      refine q_aload_n dX8_differs_20 rfl ?_
      refine q_iload_n dX8_differs_21 rfl ?_
      refine q_iload_n dX8_differs_22 rfl ?_
      refine q_bipush dX8_differs_23 rfl ?_
      refine q_idiv dX8_differs_25 (by (first | (unfold zR; omega) | (unfold zLR; omega) | omega | (simp only [zR, qup] at *; omega) | (simp [zR, qup]; omega) | (simp [zR, qup]; done))) (by (first | (unfold zR; omega) | (unfold zLR; omega) | omega | (simp only [zR, qup] at *; omega) | (simp [zR, qup]; omega) | (simp [zR, qup]; done))) ?_
      rw [zdiv_8 hi.1 (by omega)]
      refine q_V2 dX8_differs_26 ml_8_344 md_X8_byteOf (m_byteOf (by omega) (by omega)) rfl rfl rfl (by first | decide | omega) (Nat.le_of_ble_eq_true rfl) (Nat.le_of_ble_eq_true rfl) (qk_e ?_)
      refine q_aload_n dX8_differs_29 rfl ?_
      refine q_iload_n dX8_differs_30 rfl ?_
      refine q_iload_n dX8_differs_31 rfl ?_
      refine q_bipush dX8_differs_32 rfl ?_
      refine q_idiv dX8_differs_34 (by (first | (unfold zR; omega) | (unfold zLR; omega) | omega | (simp only [zR, qup] at *; omega) | (simp [zR, qup]; omega) | (simp [zR, qup]; done))) (by (first | (unfold zR; omega) | (unfold zLR; omega) | omega | (simp only [zR, qup] at *; omega) | (simp [zR, qup]; omega) | (simp [zR, qup]; done))) ?_
      rw [zdiv_8 hi.1 (by omega)]
      refine q_V2 dX8_differs_35 ml_8_344 md_X8_byteOf (m_byteOf (by omega) (by omega)) rfl rfl rfl (by first | decide | omega) (Nat.le_of_ble_eq_true rfl) (Nat.le_of_ble_eq_true rfl) (qk_e ?_)
      rw [scl_g, scl_g]
      have hb1 := scl_b hM (k := k) (i := i / 8) (by omega) (by omega)
      have hb2 := scl_b hM (k := o) (i := i / 8) (by omega) (by omega)
      have hxi := zxor_in hb1 hb2
      have hbx := zbit_x hb1 hb2 (j := i % 8) (by omega)
      have hz01 := zbit_01 (zxor (scl M k (i / 8)) (scl M o (i / 8))) (i % 8)
      refine q_ixor dX8_differs_38 ?_
      refine q_iload_n dX8_differs_39 rfl ?_
      refine q_bipush dX8_differs_40 rfl ?_
      refine q_irem dX8_differs_42 (by (first | (unfold zR; omega) | (unfold zLR; omega) | omega | (simp only [zR, qup] at *; omega) | (simp [zR, qup]; omega) | (simp [zR, qup]; done))) (by (first | (unfold zR; omega) | (unfold zLR; omega) | omega | (simp only [zR, qup] at *; omega) | (simp [zR, qup]; omega) | (simp [zR, qup]; done))) ?_
      rw [zrem_8 hi.1 (by omega)]
      refine q_ishr dX8_differs_43 ?_
      refine q_iconst dX8_differs_44 ?_
      refine q_iand dX8_differs_45 ?_
      rw [zbit_eq (by omega) (by omega) (by omega) (by omega)]
      refine q_iconst dX8_differs_46 ?_
      refine q_icmp_ne (tgt := 52) dX8_differs_47 rfl (by (first | (unfold zR; omega) | (unfold zLR; omega) | omega | (simp only [zR, qup] at *; omega) | (simp [zR, qup]; omega) | (simp [zR, qup]; done))) (by (first | (unfold zR; omega) | (unfold zLR; omega) | omega | (simp only [zR, qup] at *; omega) | (simp [zR, qup]; omega) | (simp [zR, qup]; done))) (fun h47 => ?_) (fun h47 => ?_)
      ·
        refine q_iinc dX8_differs_52 rfl (Nat.le_of_ble_eq_true rfl) rfl ?_
        refine q_goto (tgt := 13) dX8_differs_55 rfl ?_
        exact ih (i + 1) _ _ ⟨by omega, by omega, fun j q1 q2 => by
          by_cases q3 : j = i
          · subst q3; exact fun q4 => h47 (hbx.2 q4)
          · exact hi.2.2 j q1 (by omega)⟩ (by omega) rfl rfl
      ·
        refine q_iload_n dX8_differs_50 rfl ?_
        refine q_ireturn dX8_differs_51 ?_
        exact mpx_k hg ⟨Or.inr ⟨hi.1, h17, hbx.1 h47, hi.2.2⟩, MS_rf _⟩
    refine q_iconst dX8_differs_58 ?_
    refine q_ireturn dX8_differs_59 ?_
    exact mpx_k hg ⟨Or.inl ⟨rfl, fun j q1 q2 => hi.2.2 j q1 (by omega)⟩, MS_rf _⟩
  ·
    refine q_iconst dX8_differs_9 ?_
    refine q_ireturn dX8_differs_10 ?_
    exact mpx_g (zbn h6)
set_option maxHeartbeats 2000000 in
theorem o_isWithin (hM : MI M) (hk : zR k) (ho : zR o) : qCt mX8_isWithin 0 4 [.ref 37, .int (zI k), .int (zI o)] M (mpx (gor (gG M k) (mMp M o)) (fun z M' => z = zb (∀ i, 0 ≤ i → i < 256 → zand (scl M k i) (zxor (scl M o i) (-1)) = 0) ∧ MS (qup M 37 0 0) M') M) := by
  refine q_intro (own := 8) (L := [some (.ref 37), some (.int (zI k)), some (.int (zI o)), none, none]) md_X8_isWithin rfl rfl rfl (Nat.le_of_ble_eq_true rfl) (fun X => ?_)
  refine q_aload_n dX8_isWithin_0 rfl ?_
  refine q_iload_n dX8_isWithin_1 rfl ?_
  refine q_iload_n dX8_isWithin_2 rfl ?_
  refine q_V2 dX8_isWithin_3 ml_8_341 md_X8_noPair (m_noPair hM hk ho) rfl rfl rfl (by first | decide | omega) (Nat.le_of_ble_eq_true rfl) (Nat.le_of_ble_eq_true rfl) (qk_e ?_)
  refine q_if_eq (tgt := 11) dX8_isWithin_6 rfl (by exact zb_R _) (fun h6 => ?_) (fun h6 => ?_)
  ·
    have hg := zbz h6
    have hg2 := gor_00.1 hg
    have hgk := gG_0 hM hg2.1
    have hgo := mMp_0 hM hg2.2
    rw [hg]
    refine q_iconst dX8_isWithin_11 ?_
    refine q_istore_n dX8_isWithin_12 (Nat.le_of_ble_eq_true rfl) rfl ?_
    refine q_iconst dX8_isWithin_13 ?_
    refine q_istore dX8_isWithin_14 (Nat.le_of_ble_eq_true rfl) rfl ?_
    refine q_lp (fun i : Int => (256 - i).toNat) (fun i => 0 ≤ i ∧ i ≤ 256) (fun i => [some (.ref 37), some (.int (zI k)), some (.int (zI o)), some (.int (zI (zb (∀ j, 0 ≤ j → j < i → zand (scl M k j) (zxor (scl M o j) (-1)) = 0)))), some (.int (zI i))]) (fun _ => qup M 37 0 0) 0 (by rw [zb_t (fun j h0 h1 => by omega)]; rfl) rfl ⟨by omega, by omega⟩ (fun i hi ih => ?_)
    have hz01 := zb_01 (∀ j, 0 ≤ j → j < i → zand (scl M k j) (zxor (scl M o j) (-1)) = 0)
    refine q_iload dX8_isWithin_16 rfl ?_
    refine q_sipush dX8_isWithin_18 rfl ?_
    refine q_icmp_ge (tgt := 60) dX8_isWithin_21 rfl (by (first | (unfold zR; omega) | (unfold zLR; omega) | omega | (simp only [zR, qup] at *; omega) | (simp [zR, qup]; omega) | (simp [zR, qup]; done))) (by (first | (unfold zR; omega) | (unfold zLR; omega) | omega | (simp only [zR, qup] at *; omega) | (simp [zR, qup]; omega) | (simp [zR, qup]; done))) (fun h21 => ?_) (fun h21 => ?_)
    rotate_left
    ·
      refine q_iload_n dX8_isWithin_24 rfl ?_
      refine q_if_eq (tgt := 52) dX8_isWithin_25 rfl (by exact zb_R _) (fun h25 => ?_) (fun h25 => ?_)
      ·
        refine q_iconst dX8_isWithin_52 ?_
        refine q_istore_n dX8_isWithin_53 (Nat.le_of_ble_eq_true rfl) rfl ?_
        refine q_iinc dX8_isWithin_54 rfl (Nat.le_of_ble_eq_true rfl) rfl ?_
        refine q_goto (tgt := 16) dX8_isWithin_57 rfl ?_
        exact ih (i + 1) _ _ ⟨by omega, by omega⟩ (by omega) (by rw [zb_f (p := ∀ j, 0 ≤ j → j < i + 1 → zand (scl M k j) (zxor (scl M o j) (-1)) = 0) (fun w => zb_0.1 h25 (fun j j0 j1 => w j j0 (by omega)))]; rfl) rfl
      ·
        refine q_aload_n dX8_isWithin_28 rfl ?_
        refine q_iload_n dX8_isWithin_29 rfl ?_
        refine q_iload dX8_isWithin_30 rfl ?_
        refine q_V2 dX8_isWithin_32 ml_8_344 md_X8_byteOf (m_byteOf (by omega) (by omega)) rfl rfl rfl (by first | decide | omega) (Nat.le_of_ble_eq_true rfl) (Nat.le_of_ble_eq_true rfl) (qk_e ?_)
        refine q_aload_n dX8_isWithin_35 rfl ?_
        refine q_iload_n dX8_isWithin_36 rfl ?_
        refine q_iload dX8_isWithin_37 rfl ?_
        refine q_V2 dX8_isWithin_39 ml_8_344 md_X8_byteOf (m_byteOf (by omega) (by omega)) rfl rfl rfl (by first | decide | omega) (Nat.le_of_ble_eq_true rfl) (Nat.le_of_ble_eq_true rfl) (qk_e ?_)
        rw [scl_g, scl_g]
        have hb1 := scl_b hM (k := k) (i := i) (by omega) (by omega)
        have hb2 := scl_b hM (k := o) (i := i) (by omega) (by omega)
        have hxi := zandn_in hb1 hb2
        refine q_iconst dX8_isWithin_42 ?_
        refine q_ixor dX8_isWithin_43 ?_
        refine q_iand dX8_isWithin_44 ?_
        refine q_if_ne (tgt := 52) dX8_isWithin_45 rfl (by (first | (unfold zR; omega) | (unfold zLR; omega) | omega | (simp only [zR, qup] at *; omega) | (simp [zR, qup]; omega) | (simp [zR, qup]; done))) (fun h45 => ?_) (fun h45 => ?_)
        ·
          refine q_iconst dX8_isWithin_52 ?_
          refine q_istore_n dX8_isWithin_53 (Nat.le_of_ble_eq_true rfl) rfl ?_
          refine q_iinc dX8_isWithin_54 rfl (Nat.le_of_ble_eq_true rfl) rfl ?_
          refine q_goto (tgt := 16) dX8_isWithin_57 rfl ?_
          exact ih (i + 1) _ _ ⟨by omega, by omega⟩ (by omega) (by rw [zb_f (p := ∀ j, 0 ≤ j → j < i + 1 → zand (scl M k j) (zxor (scl M o j) (-1)) = 0) (fun w => h45 (w i hi.1 (by omega)))]; rfl) rfl
        ·
          refine q_iconst dX8_isWithin_48 ?_
          refine q_goto (tgt := 53) dX8_isWithin_49 rfl ?_
          refine q_istore_n dX8_isWithin_53 (Nat.le_of_ble_eq_true rfl) rfl ?_
          refine q_iinc dX8_isWithin_54 rfl (Nat.le_of_ble_eq_true rfl) rfl ?_
          refine q_goto (tgt := 16) dX8_isWithin_57 rfl ?_
          have hall : ∀ j, 0 ≤ j → j < i + 1 → zand (scl M k j) (zxor (scl M o j) (-1)) = 0 := fun j j0 j1 => by
            by_cases e : j = i
            · subst e; exact Classical.byContradiction (fun w => by omega)
            · exact zbp h25 j j0 (by omega)
          exact ih (i + 1) _ _ ⟨by omega, by omega⟩ (by omega) (by rw [zb_t hall]; rfl) rfl
    refine q_iload_n dX8_isWithin_60 rfl ?_
    refine q_zreturn (by exact hz01) dX8_isWithin_61 ?_
    exact mpx_k hg ⟨by rw [show i = 256 by omega], MS_rf _⟩
  ·
    refine q_iconst dX8_isWithin_9 ?_
    refine q_zreturn (by first | exact Or.inl rfl | exact Or.inr rfl) dX8_isWithin_10 ?_
    exact mpx_g (zbn h6)
end MQ


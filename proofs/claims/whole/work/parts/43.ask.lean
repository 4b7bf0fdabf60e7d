/-! The class: what is asked of the bits of a map. -/
/-- the first from a, ahead of n, of which P holds -/
def frst (P : Int → Prop) (a n z : Int) : Prop := (z = -1 ∧ ∀ p, a ≤ p → p < n → ¬ P p) ∨ (a ≤ z ∧ z < n ∧ P z ∧ ∀ p, a ≤ p → p < z → ¬ P p)
theorem frst_un {P : Int → Prop} {a n z z' : Int} (h : frst P a n z) (h' : frst P a n z') : z = z' := by
  rcases h with ⟨e, h⟩ | ⟨g1, g2, g3, g4⟩
  · rcases h' with ⟨e', _⟩ | ⟨k1, k2, k3, _⟩
    · rw [e, e']
    · exact absurd k3 (h z' k1 k2)
  · rcases h' with ⟨e', h'⟩ | ⟨k1, k2, k3, k4⟩
    · exact absurd g3 (h' z g1 g2)
    · by_cases q : z < z'
      · exact absurd g3 (k4 z g1 q)
      · by_cases q2 : z' < z
        · exact absurd k3 (g4 z' k1 q2)
        · omega
theorem zsum_s (f : Int → Int) {i : Int} (h : 0 ≤ i) : zsum f 0 (i + 1).toNat = zsum f 0 i.toNat + f i := by
  rw [show (i + 1).toNat = i.toNat + 1 by omega, zsum, show (0 : Int) + (i.toNat : Int) = i by omega]
noncomputable def runsF (c : Int → Int) (b : Int) (i : Int) : Int := zb (bitP c i = b ∧ (i = 0 ∨ bitP c (i - 1) ≠ b))
def rlst (c : Int → Int) (b i : Int) : Int := if i = 0 then 1 - b else bitP c (i - 1)
def runF (c : Int → Int) (b : Int) : Nat → Int
  | 0 => 0
  | n + 1 => if bitP c n = b then runF c b n + 1 else 0
def mostF (c : Int → Int) (b : Int) : Nat → Int
  | 0 => 0
  | n + 1 => max (mostF c b n) (runF c b (n + 1))
theorem runF_in (c : Int → Int) (b : Int) : ∀ n : Nat, 0 ≤ runF c b n ∧ runF c b n ≤ n ∧ 0 ≤ mostF c b n ∧ mostF c b n ≤ n := by
  intro n
  induction n with
  | zero => exact ⟨Int.le_refl _, Int.le_refl _, Int.le_refl _, Int.le_refl _⟩
  | succ n ih =>
    have e : runF c b (n + 1) = if bitP c n = b then runF c b n + 1 else 0 := rfl
    have e2 : mostF c b (n + 1) = max (mostF c b n) (runF c b (n + 1)) := rfl
    by_cases q : bitP c n = b
    · rw [if_pos q] at e; omega
    · rw [if_neg q] at e; omega
section GE
variable {M : qM} {L : Nat} {k p q b f t : Int}
set_option maxHeartbeats 1000000 in
theorem k_bit (hC : CI M) (hL : M 0 10 = (L : Int)) (hk : zR k) (hp : zR p) : qCt mX7_bit 3 9 [.ref 0, .int (zI k), .int (zI p)] M (qpx (gor (gText M) (gor (gMap M k) (gor (gPos M p) 0))) (fun z M' => z = bitP (rowc M k) p ∧ M' = M) (Scr M)) := by
  refine q_intro (own := 7) (L := [some (.ref 0), some (.int (zI k)), some (.int (zI p))]) md_X7_bit rfl rfl rfl (Nat.le_of_ble_eq_true rfl) (fun X => ?_)
  refine q_aload_n dX7_bit_0 rfl ?_
  refine q_V0 dX7_bit_1 ml_7_141 md_X7_requireText (c_requireText hC) rfl rfl rfl (by first | decide | omega) (Nat.le_of_ble_eq_true rfl) (Nat.le_of_ble_eq_true rfl) (qk_G (fun hq1 => ?_) (Scr_rf hC))
  have hLv := CI_lv hC hL hq1
  refine q_aload_n dX7_bit_4 rfl ?_
  refine q_iload_n dX7_bit_5 rfl ?_
  refine q_V1 dX7_bit_6 ml_7_172 md_X7_requireMap (c_requireMap hC hk) rfl rfl rfl (by first | decide | omega) (Nat.le_of_ble_eq_true rfl) (Nat.le_of_ble_eq_true rfl) (qk_G (fun hq6 => ?_) (Scr_rf hC))
  refine q_aload_n dX7_bit_9 rfl ?_
  refine q_iload_n dX7_bit_10 rfl ?_
  refine q_V1 dX7_bit_11 ml_7_175 md_X7_requirePosition (c_requirePosition hL hLv hp) rfl rfl rfl (by first | decide | omega) (Nat.le_of_ble_eq_true rfl) (Nat.le_of_ble_eq_true rfl) (qk_G (fun hq11 => ?_) (Scr_rf hC))
  have hmk := CI_mp hC hq6
  have hps := CI_ps hL hq11
  refine q_aload_n dX7_bit_14 rfl ?_
  refine q_getr dX7_bit_15 fl_7_26 rfl rfl ?_
  refine q_iload_n dX7_bit_18 rfl ?_
  refine q_iload_n dX7_bit_19 rfl ?_
  refine q_V2 dX7_bit_20 ml_7_178 md_X0_bitAt (c_bitAt (by omega) (by omega) (CI_ok hC (by omega))) rfl rfl rfl (by first | decide | omega) (Nat.le_of_ble_eq_true rfl) (Nat.le_of_ble_eq_true rfl) (qk_e ?_)
  refine q_ireturn dX7_bit_23 ?_
  exact gxk rfl ⟨rfl, rfl⟩
set_option maxHeartbeats 1000000 in
theorem k_ones (hC : CI M) (hL : M 0 10 = (L : Int)) (hk : zR k) (hf : zR f) (ht : zR t) : qCt mX7_ones 5 9 [.ref 0, .int (zI k), .int (zI f), .int (zI t)] M (qpx (gor (gText M) (gor (gMap M k) (gor (gRng M f t) 0))) (fun z M' => z = onesI (rowc M k) f t ∧ M' = M) (Scr M)) := by
  refine q_intro (own := 7) (L := [some (.ref 0), some (.int (zI k)), some (.int (zI f)), some (.int (zI t))]) md_X7_ones rfl rfl rfl (Nat.le_of_ble_eq_true rfl) (fun X => ?_)
  refine q_aload_n dX7_ones_0 rfl ?_
  refine q_V0 dX7_ones_1 ml_7_141 md_X7_requireText (c_requireText hC) rfl rfl rfl (by first | decide | omega) (Nat.le_of_ble_eq_true rfl) (Nat.le_of_ble_eq_true rfl) (qk_G (fun hq1 => ?_) (Scr_rf hC))
  have hLv := CI_lv hC hL hq1
  refine q_aload_n dX7_ones_4 rfl ?_
  refine q_iload_n dX7_ones_5 rfl ?_
  refine q_V1 dX7_ones_6 ml_7_172 md_X7_requireMap (c_requireMap hC hk) rfl rfl rfl (by first | decide | omega) (Nat.le_of_ble_eq_true rfl) (Nat.le_of_ble_eq_true rfl) (qk_G (fun hq6 => ?_) (Scr_rf hC))
  refine q_aload_n dX7_ones_9 rfl ?_
  refine q_iload_n dX7_ones_10 rfl ?_
  refine q_iload_n dX7_ones_11 rfl ?_
  refine q_V2 dX7_ones_12 ml_7_182 md_X7_requireRange (c_requireRange hL hLv hf ht) rfl rfl rfl (by first | decide | omega) (Nat.le_of_ble_eq_true rfl) (Nat.le_of_ble_eq_true rfl) (qk_G (fun hq12 => ?_) (Scr_rf hC))
  have hmk := CI_mp hC hq6
  have hps := CI_rg hL hq12
  refine q_aload_n dX7_ones_15 rfl ?_
  refine q_getr dX7_ones_16 fl_7_26 rfl rfl ?_
  refine q_iload_n dX7_ones_19 rfl ?_
  refine q_iload_n dX7_ones_20 rfl ?_
  refine q_iload_n dX7_ones_21 rfl ?_
  refine q_V3 dX7_ones_22 ml_7_185 md_X0_onesIn (c_onesIn (by omega) (by omega) (by omega) (by omega) (CI_ok hC (by omega))) rfl rfl rfl (by first | decide | omega) (Nat.le_of_ble_eq_true rfl) (Nat.le_of_ble_eq_true rfl) (qk_e ?_)
  refine q_ireturn dX7_ones_25 ?_
  exact gxk rfl ⟨rfl, rfl⟩
set_option maxHeartbeats 2000000 in
theorem k_next (hC : CI M) (hL : M 0 10 = (L : Int)) (hk : zR k) (hp : zR p) (hb : zR b) : qCt mX7_next 4 9 [.ref 0, .int (zI k), .int (zI p), .int (zI b)] M (qpx (gor (gText M) (gor (gMap M k) (gor (gPos M p) (gor (gBit b) 0)))) (fun z M' => frst (fun i => bitP (rowc M k) i = b) p (8 * p4 L) z ∧ M' = M) (Scr M)) := by
  refine q_intro (own := 7) (L := [some (.ref 0), some (.int (zI k)), some (.int (zI p)), some (.int (zI b)), none]) md_X7_next rfl rfl rfl (Nat.le_of_ble_eq_true rfl) (fun X => ?_)
  refine q_aload_n dX7_next_0 rfl ?_
  refine q_V0 dX7_next_1 ml_7_141 md_X7_requireText (c_requireText hC) rfl rfl rfl (by first | decide | omega) (Nat.le_of_ble_eq_true rfl) (Nat.le_of_ble_eq_true rfl) (qk_G (fun hq1 => ?_) (Scr_rf hC))
  have hLv := CI_lv hC hL hq1
  refine q_aload_n dX7_next_4 rfl ?_
  refine q_iload_n dX7_next_5 rfl ?_
  refine q_V1 dX7_next_6 ml_7_172 md_X7_requireMap (c_requireMap hC hk) rfl rfl rfl (by first | decide | omega) (Nat.le_of_ble_eq_true rfl) (Nat.le_of_ble_eq_true rfl) (qk_G (fun hq6 => ?_) (Scr_rf hC))
  refine q_aload_n dX7_next_9 rfl ?_
  refine q_iload_n dX7_next_10 rfl ?_
  refine q_V1 dX7_next_11 ml_7_175 md_X7_requirePosition (c_requirePosition hL hLv hp) rfl rfl rfl (by first | decide | omega) (Nat.le_of_ble_eq_true rfl) (Nat.le_of_ble_eq_true rfl) (qk_G (fun hq11 => ?_) (Scr_rf hC))
  refine q_aload_n dX7_next_14 rfl ?_
  refine q_iload_n dX7_next_15 rfl ?_
  refine q_V1 dX7_next_16 ml_7_189 md_X7_requireBit (c_requireBit hb) rfl rfl rfl (by first | decide | omega) (Nat.le_of_ble_eq_true rfl) (Nat.le_of_ble_eq_true rfl) (qk_G (fun hq16 => ?_) (Scr_rf hC))
  have hmk := CI_mp hC hq6
  have hps := CI_ps hL hq11
  refine q_iload_n dX7_next_19 rfl ?_
  refine q_istore dX7_next_20 (Nat.le_of_ble_eq_true rfl) rfl ?_
  refine q_lp (fun i : Int => (8 * p4 L - i).toNat) (fun i => p ≤ i ∧ i ≤ 8 * p4 L ∧ ∀ j, p ≤ j → j < i → bitP (rowc M k) j ≠ b) (fun i => [some (.ref 0), some (.int (zI k)), some (.int (zI p)), some (.int (zI b)), some (.int (zI i))]) (fun _ => M) p rfl rfl ⟨by omega, by omega, fun j q1 q2 => by omega⟩ (fun i hi ih => ?_)
  have hpin := p4_in (L : Int)
  have hb01 := bitP_01 (rowc M k) i
  refine q_iload dX7_next_22 rfl ?_
  refine q_bipush dX7_next_24 rfl ?_
  refine q_aload_n dX7_next_26 rfl ?_
  refine q_geti (j := 10) dX7_next_27 fl_7_121 rfl rfl rfl ?_
  rw [hL]
  refine q_S1 dX7_next_30 ml_7_164 md_X7_cellsIn (c_cellsIn (by omega)) rfl (by first | decide | omega) (Nat.le_of_ble_eq_true rfl) (Nat.le_of_ble_eq_true rfl) (qk_e ?_)
  refine q_imul dX7_next_33 ?_
  refine q_icmp_ge (tgt := 60) dX7_next_34 rfl (by (first | (unfold zR; omega) | (unfold zLR; omega) | omega | (simp only [zR, qup] at *; omega) | (simp [zR, qup]; omega) | (simp [zR, qup]; done))) (by (first | (unfold zR; omega) | (unfold zLR; omega) | omega | (simp only [zR, qup] at *; omega) | (simp [zR, qup]; omega) | (simp [zR, qup]; done))) (fun h34 => ?_) (fun h34 => ?_)
  rotate_left
  ·
    refine q_aload_n dX7_next_37 rfl ?_
    refine q_getr dX7_next_38 fl_7_26 rfl rfl ?_
    refine q_iload_n dX7_next_41 rfl ?_
    refine q_iload dX7_next_42 rfl ?_
    refine q_V2 dX7_next_44 ml_7_178 md_X0_bitAt (c_bitAt (by omega) (by omega) (CI_ok hC (by omega))) rfl rfl rfl (by first | decide | omega) (Nat.le_of_ble_eq_true rfl) (Nat.le_of_ble_eq_true rfl) (qk_e ?_)
    refine q_iload_n dX7_next_47 rfl ?_
    refine q_icmp_ne (tgt := 54) dX7_next_48 rfl (by (first | (unfold zR; omega) | (unfold zLR; omega) | omega | (simp only [zR, qup] at *; omega) | (simp [zR, qup]; omega) | (simp [zR, qup]; done))) (by (first | (unfold zR; omega) | (unfold zLR; omega) | omega | (simp only [zR, qup] at *; omega) | (simp [zR, qup]; omega) | (simp [zR, qup]; done))) (fun h48 => ?_) (fun h48 => ?_)
    ·
      refine q_iinc dX7_next_54 rfl (Nat.le_of_ble_eq_true rfl) rfl ?_
      refine q_goto (tgt := 22) dX7_next_57 rfl ?_
      exact ih (i + 1) _ _ ⟨by omega, by omega, fun j q1 q2 => by
        by_cases q3 : j = i
        · subst q3; exact h48
        · exact hi.2.2 j q1 (by omega)⟩ (by omega) rfl rfl
    ·
      refine q_iload dX7_next_51 rfl ?_
      refine q_ireturn dX7_next_53 ?_
      exact gxk rfl ⟨Or.inr ⟨hi.1, h34, h48, hi.2.2⟩, rfl⟩
  refine q_iconst dX7_next_60 ?_
  refine q_ireturn dX7_next_61 ?_
  exact gxk rfl ⟨Or.inl ⟨rfl, fun j q1 q2 => hi.2.2 j q1 (by omega)⟩, rfl⟩
set_option maxHeartbeats 2000000 in
theorem k_select (hC : CI M) (hL : M 0 10 = (L : Int)) (hk : zR k) (hq : zR q) : qCt mX7_select 3 9 [.ref 0, .int (zI k), .int (zI q)] M (qpx (gor (gText M) (gor (gMap M k) (gor (if 0 ≤ q then 0 else 2) 0))) (fun z M' => frst (fun i => bitP (rowc M k) i = 1 ∧ zsum (bitP (rowc M k)) 0 i.toNat = q) 0 (8 * p4 L) z ∧ M' = M) (Scr M)) := by
  refine q_intro (own := 7) (L := [some (.ref 0), some (.int (zI k)), some (.int (zI q)), none, none]) md_X7_select rfl rfl rfl (Nat.le_of_ble_eq_true rfl) (fun X => ?_)
  refine q_aload_n dX7_select_0 rfl ?_
  refine q_V0 dX7_select_1 ml_7_141 md_X7_requireText (c_requireText hC) rfl rfl rfl (by first | decide | omega) (Nat.le_of_ble_eq_true rfl) (Nat.le_of_ble_eq_true rfl) (qk_G (fun hq1 => ?_) (Scr_rf hC))
  have hLv := CI_lv hC hL hq1
  refine q_aload_n dX7_select_4 rfl ?_
  refine q_iload_n dX7_select_5 rfl ?_
  refine q_V1 dX7_select_6 ml_7_172 md_X7_requireMap (c_requireMap hC hk) rfl rfl rfl (by first | decide | omega) (Nat.le_of_ble_eq_true rfl) (Nat.le_of_ble_eq_true rfl) (qk_G (fun hq6 => ?_) (Scr_rf hC))
  have hmk := CI_mp hC hq6
  refine q_iload_n dX7_select_9 rfl ?_
  refine q_if_ge (tgt := 23) dX7_select_10 rfl (by (first | (unfold zR; omega) | (unfold zLR; omega) | omega | (simp only [zR, qup] at *; omega) | (simp [zR, qup]; omega) | (simp [zR, qup]; done))) (fun h10 => ?_) (fun h10 => ?_)
  ·
    refine q_G0 (if_pos h10) ?_
    refine q_iload_n dX7_select_23 rfl ?_
    refine q_istore_n dX7_select_24 (Nat.le_of_ble_eq_true rfl) rfl ?_
    refine q_iconst dX7_select_25 ?_
    refine q_istore dX7_select_26 (Nat.le_of_ble_eq_true rfl) rfl ?_
    refine q_lp (fun i : Int => (8 * p4 L - i).toNat) (fun i => 0 ≤ i ∧ i ≤ 8 * p4 L ∧ zsum (bitP (rowc M k)) 0 i.toNat ≤ q ∧ ∀ j, 0 ≤ j → j < i → ¬ (bitP (rowc M k) j = 1 ∧ zsum (bitP (rowc M k)) 0 j.toNat = q)) (fun i => [some (.ref 0), some (.int (zI k)), some (.int (zI q)), some (.int (zI (q - zsum (bitP (rowc M k)) 0 i.toNat))), some (.int (zI i))]) (fun _ => M) 0 (by simp only [zsum, Int.toNat_zero, Int.sub_zero]; rfl) rfl ⟨by omega, by have := p4_in (L : Int); omega, by simpa [zsum] using h10, fun j q1 q2 => by omega⟩ (fun i hi ih => ?_)
    have hpin := p4_in (L : Int)
    have hb01 := bitP_01 (rowc M k) i
    have hzs := zsum_s (bitP (rowc M k)) hi.1
    have hzi : 0 ≤ zsum (bitP (rowc M k)) 0 i.toNat := (zsum_in (B := 1) (fun j _ _ => by have := bitP_01 (rowc M k) j; omega)).1
    refine q_iload dX7_select_28 rfl ?_
    refine q_bipush dX7_select_30 rfl ?_
    refine q_aload_n dX7_select_32 rfl ?_
    refine q_geti (j := 10) dX7_select_33 fl_7_121 rfl rfl rfl ?_
    rw [hL]
    refine q_S1 dX7_select_36 ml_7_164 md_X7_cellsIn (c_cellsIn (by omega)) rfl (by first | decide | omega) (Nat.le_of_ble_eq_true rfl) (Nat.le_of_ble_eq_true rfl) (qk_e ?_)
    refine q_imul dX7_select_39 ?_
    refine q_icmp_ge (tgt := 73) dX7_select_40 rfl (by (first | (unfold zR; omega) | (unfold zLR; omega) | omega | (simp only [zR, qup] at *; omega) | (simp [zR, qup]; omega) | (simp [zR, qup]; done))) (by (first | (unfold zR; omega) | (unfold zLR; omega) | omega | (simp only [zR, qup] at *; omega) | (simp [zR, qup]; omega) | (simp [zR, qup]; done))) (fun h40 => ?_) (fun h40 => ?_)
    rotate_left
    ·
      refine q_aload_n dX7_select_43 rfl ?_
      refine q_getr dX7_select_44 fl_7_26 rfl rfl ?_
      refine q_iload_n dX7_select_47 rfl ?_
      refine q_iload dX7_select_48 rfl ?_
      refine q_V2 dX7_select_50 ml_7_178 md_X0_bitAt (c_bitAt (by omega) (by omega) (CI_ok hC (by omega))) rfl rfl rfl (by first | decide | omega) (Nat.le_of_ble_eq_true rfl) (Nat.le_of_ble_eq_true rfl) (qk_e ?_)
      refine q_iconst dX7_select_53 ?_
      refine q_icmp_ne (tgt := 67) dX7_select_54 rfl (by (first | (unfold zR; omega) | (unfold zLR; omega) | omega | (simp only [zR, qup] at *; omega) | (simp [zR, qup]; omega) | (simp [zR, qup]; done))) (by (first | (unfold zR; omega) | (unfold zLR; omega) | omega | (simp only [zR, qup] at *; omega) | (simp [zR, qup]; omega) | (simp [zR, qup]; done))) (fun h54 => ?_) (fun h54 => ?_)
      ·
        refine q_iinc dX7_select_67 rfl (Nat.le_of_ble_eq_true rfl) rfl ?_
        refine q_goto (tgt := 28) dX7_select_70 rfl ?_
        exact ih (i + 1) _ _ ⟨by omega, by omega, by omega, fun j q1 q2 => by
          by_cases q3 : j = i
          · subst q3; exact fun q4 => h54 q4.1
          · exact hi.2.2.2 j q1 (by omega)⟩ (by omega) (by rw [show zsum (bitP (rowc M k)) 0 (i + 1).toNat = zsum (bitP (rowc M k)) 0 i.toNat by omega]; rfl) rfl
      ·
        refine q_iload_n dX7_select_57 rfl ?_
        refine q_if_ne (tgt := 64) dX7_select_58 rfl (by (first | (unfold zR; omega) | (unfold zLR; omega) | omega | (simp only [zR, qup] at *; omega) | (simp [zR, qup]; omega) | (simp [zR, qup]; done))) (fun h58 => ?_) (fun h58 => ?_)
        ·
          refine q_iinc dX7_select_64 rfl (Nat.le_of_ble_eq_true rfl) rfl ?_
          refine q_iinc dX7_select_67 rfl (Nat.le_of_ble_eq_true rfl) rfl ?_
          refine q_goto (tgt := 28) dX7_select_70 rfl ?_
          exact ih (i + 1) _ _ ⟨by omega, by omega, by omega, fun j q1 q2 => by
            by_cases q3 : j = i
            · subst q3; exact fun q4 => by have := q4.2; omega
            · exact hi.2.2.2 j q1 (by omega)⟩ (by omega) (by rw [show q - zsum (bitP (rowc M k)) 0 (i + 1).toNat = q - zsum (bitP (rowc M k)) 0 i.toNat + -1 by omega]; rfl) rfl
        ·
          refine q_iload dX7_select_61 rfl ?_
          refine q_ireturn dX7_select_63 ?_
          exact gxk rfl ⟨Or.inr ⟨hi.1, h40, ⟨h54, by omega⟩, hi.2.2.2⟩, rfl⟩
    refine q_iconst dX7_select_73 ?_
    refine q_ireturn dX7_select_74 ?_
    exact gxk rfl ⟨Or.inl ⟨rfl, fun j q1 q2 => hi.2.2.2 j q1 (by omega)⟩, rfl⟩
  ·
    refine qt_X7_select_13 (Nat.le_of_ble_eq_true rfl) ?_
    exact gxt2 (by rw [if_neg (by omega)]; rfl) (Scr_rf hC)
set_option maxHeartbeats 2000000 in
theorem k_runs (hC : CI M) (hL : M 0 10 = (L : Int)) (hk : zR k) (hb : zR b) : qCt mX7_runs 3 9 [.ref 0, .int (zI k), .int (zI b)] M (qpx (gor (gText M) (gor (gMap M k) (gor (gBit b) 0))) (fun z M' => z = zsum (runsF (rowc M k) b) 0 (8 * p4 L).toNat ∧ M' = M) (Scr M)) := by
  refine q_intro (own := 7) (L := [some (.ref 0), some (.int (zI k)), some (.int (zI b)), none, none, none, none]) md_X7_runs rfl rfl rfl (Nat.le_of_ble_eq_true rfl) (fun X => ?_)
  refine q_aload_n dX7_runs_0 rfl ?_
  refine q_V0 dX7_runs_1 ml_7_141 md_X7_requireText (c_requireText hC) rfl rfl rfl (by first | decide | omega) (Nat.le_of_ble_eq_true rfl) (Nat.le_of_ble_eq_true rfl) (qk_G (fun hq1 => ?_) (Scr_rf hC))
  have hLv := CI_lv hC hL hq1
  refine q_aload_n dX7_runs_4 rfl ?_
  refine q_iload_n dX7_runs_5 rfl ?_
  refine q_V1 dX7_runs_6 ml_7_172 md_X7_requireMap (c_requireMap hC hk) rfl rfl rfl (by first | decide | omega) (Nat.le_of_ble_eq_true rfl) (Nat.le_of_ble_eq_true rfl) (qk_G (fun hq6 => ?_) (Scr_rf hC))
  refine q_aload_n dX7_runs_9 rfl ?_
  refine q_iload_n dX7_runs_10 rfl ?_
  refine q_V1 dX7_runs_11 ml_7_189 md_X7_requireBit (c_requireBit hb) rfl rfl rfl (by first | decide | omega) (Nat.le_of_ble_eq_true rfl) (Nat.le_of_ble_eq_true rfl) (qk_G (fun hq11 => ?_) (Scr_rf hC))
  have hmk := CI_mp hC hq6
  have hbb := gBit_0.1 hq11
  refine q_iconst dX7_runs_14 ?_
  refine q_istore_n dX7_runs_15 (Nat.le_of_ble_eq_true rfl) rfl ?_
  refine q_iconst dX7_runs_16 ?_
  refine q_iload_n dX7_runs_17 rfl ?_
  refine q_isub dX7_runs_18 ?_
  refine q_istore dX7_runs_19 (Nat.le_of_ble_eq_true rfl) rfl ?_
  refine q_iconst dX7_runs_21 ?_
  refine q_istore dX7_runs_22 (Nat.le_of_ble_eq_true rfl) rfl ?_
  refine q_lp (fun i : Int => (8 * p4 L - i).toNat) (fun i => 0 ≤ i ∧ i ≤ 8 * p4 L) (fun i => [some (.ref 0), some (.int (zI k)), some (.int (zI b)), some (.int (zI (zsum (runsF (rowc M k) b) 0 i.toNat))), some (.int (zI (rlst (rowc M k) b i))), some (.int (zI i)), none]) (fun _ => M) 0 rfl rfl ⟨by omega, by have := p4_in (L : Int); omega⟩ (fun i hi ih => ?_)
  have hpin := p4_in (L : Int)
  have hb01 := bitP_01 (rowc M k) i
  have hzs := zsum_s (runsF (rowc M k) b) hi.1
  have hzi := zsum_in (f := runsF (rowc M k) b) (a := 0) (B := 1) (n := i.toNat) (fun j _ _ => by have := zb_01 (bitP (rowc M k) j = b ∧ (j = 0 ∨ bitP (rowc M k) (j - 1) ≠ b)); unfold runsF; omega)
  have hls : rlst (rowc M k) b (i + 1) = bitP (rowc M k) i := by unfold rlst; rw [if_neg (by omega), show i + 1 - 1 = i by omega]
  have hl0 : rlst (rowc M k) b i = 0 ∨ rlst (rowc M k) b i = 1 := by
    unfold rlst
    by_cases q0 : i = 0
    · rw [if_pos q0]; omega
    · rw [if_neg q0]; exact bitP_01 _ _
  have hlb : rlst (rowc M k) b i = b ↔ ¬ (i = 0 ∨ bitP (rowc M k) (i - 1) ≠ b) := by
    unfold rlst
    by_cases q0 : i = 0
    · rw [if_pos q0]; exact ⟨fun q1 => by omega, fun q1 => absurd (Or.inl q0) q1⟩
    · rw [if_neg q0]; exact ⟨fun q1 q2 => q2.elim q0 (fun q3 => q3 q1), fun q1 => Classical.byContradiction fun q2 => q1 (Or.inr q2)⟩
  refine q_iload dX7_runs_24 rfl ?_
  refine q_bipush dX7_runs_26 rfl ?_
  refine q_aload_n dX7_runs_28 rfl ?_
  refine q_geti (j := 10) dX7_runs_29 fl_7_121 rfl rfl rfl ?_
  rw [hL]
  refine q_S1 dX7_runs_32 ml_7_164 md_X7_cellsIn (c_cellsIn (by omega)) rfl (by first | decide | omega) (Nat.le_of_ble_eq_true rfl) (Nat.le_of_ble_eq_true rfl) (qk_e ?_)
  refine q_imul dX7_runs_35 ?_
  refine q_icmp_ge (tgt := 76) dX7_runs_36 rfl (by (first | (unfold zR; omega) | (unfold zLR; omega) | omega | (simp only [zR, qup] at *; omega) | (simp [zR, qup]; omega) | (simp [zR, qup]; done))) (by (first | (unfold zR; omega) | (unfold zLR; omega) | omega | (simp only [zR, qup] at *; omega) | (simp [zR, qup]; omega) | (simp [zR, qup]; done))) (fun h36 => ?_) (fun h36 => ?_)
  rotate_left
  ·
    refine q_aload_n dX7_runs_39 rfl ?_
    refine q_getr dX7_runs_40 fl_7_26 rfl rfl ?_
    refine q_iload_n dX7_runs_43 rfl ?_
    refine q_iload dX7_runs_44 rfl ?_
    refine q_V2 dX7_runs_46 ml_7_178 md_X0_bitAt (c_bitAt (by omega) (by omega) (CI_ok hC (by omega))) rfl rfl rfl (by first | decide | omega) (Nat.le_of_ble_eq_true rfl) (Nat.le_of_ble_eq_true rfl) (qk_e ?_)
    refine q_istore dX7_runs_49 (Nat.le_of_ble_eq_true rfl) rfl ?_
    refine q_iload dX7_runs_51 rfl ?_
    refine q_iload_n dX7_runs_53 rfl ?_
    refine q_icmp_ne (tgt := 66) dX7_runs_54 rfl (by (first | (unfold zR; omega) | (unfold zLR; omega) | omega | (simp only [zR, qup] at *; omega) | (simp [zR, qup]; omega) | (simp [zR, qup]; done))) (by (first | (unfold zR; omega) | (unfold zLR; omega) | omega | (simp only [zR, qup] at *; omega) | (simp [zR, qup]; omega) | (simp [zR, qup]; done))) (fun h54 => ?_) (fun h54 => ?_)
    ·
      refine q_iload dX7_runs_66 rfl ?_
      refine q_istore dX7_runs_68 (Nat.le_of_ble_eq_true rfl) rfl ?_
      refine q_iinc dX7_runs_70 rfl (Nat.le_of_ble_eq_true rfl) rfl ?_
      refine q_goto (tgt := 24) dX7_runs_73 rfl ?_
      have ef : runsF (rowc M k) b i = 0 := zb_f (fun q1 => h54 q1.1)
      have es : zsum (runsF (rowc M k) b) 0 (i + 1).toNat = zsum (runsF (rowc M k) b) 0 i.toNat := by omega
      refine q_wk _ ?_ (ih (i + 1) _ _ ⟨by omega, by omega⟩ (by omega) rfl rfl)
      simp only [wkB, es, hls]
      (repeat (first | exact rfl | exact trivial | refine ⟨rfl, ?_⟩))
    ·
      refine q_iload dX7_runs_57 rfl ?_
      refine q_iload_n dX7_runs_59 rfl ?_
      refine q_icmp_eq (tgt := 66) dX7_runs_60 rfl (by (first | (unfold zR; omega) | (unfold zLR; omega) | omega | (simp only [zR, qup] at *; omega) | (simp [zR, qup]; omega) | (simp [zR, qup]; done))) (by (first | (unfold zR; omega) | (unfold zLR; omega) | omega | (simp only [zR, qup] at *; omega) | (simp [zR, qup]; omega) | (simp [zR, qup]; done))) (fun h60 => ?_) (fun h60 => ?_)
      ·
        refine q_iload dX7_runs_66 rfl ?_
        refine q_istore dX7_runs_68 (Nat.le_of_ble_eq_true rfl) rfl ?_
        refine q_iinc dX7_runs_70 rfl (Nat.le_of_ble_eq_true rfl) rfl ?_
        refine q_goto (tgt := 24) dX7_runs_73 rfl ?_
        have ef : runsF (rowc M k) b i = 0 := zb_f (fun q1 => (hlb.1 h60) q1.2)
        have es : zsum (runsF (rowc M k) b) 0 (i + 1).toNat = zsum (runsF (rowc M k) b) 0 i.toNat := by omega
        refine q_wk _ ?_ (ih (i + 1) _ _ ⟨by omega, by omega⟩ (by omega) rfl rfl)
        simp only [wkB, es, hls]
        (repeat (first | exact rfl | exact trivial | refine ⟨rfl, ?_⟩))
      ·
        refine q_iinc dX7_runs_63 rfl (Nat.le_of_ble_eq_true rfl) rfl ?_
        refine q_iload dX7_runs_66 rfl ?_
        refine q_istore dX7_runs_68 (Nat.le_of_ble_eq_true rfl) rfl ?_
        refine q_iinc dX7_runs_70 rfl (Nat.le_of_ble_eq_true rfl) rfl ?_
        refine q_goto (tgt := 24) dX7_runs_73 rfl ?_
        have ef : runsF (rowc M k) b i = 1 := zb_t ⟨h54, Classical.byContradiction fun q2 => h60 (hlb.2 q2)⟩
        have es : zsum (runsF (rowc M k) b) 0 (i + 1).toNat = zsum (runsF (rowc M k) b) 0 i.toNat + 1 := by omega
        refine q_wk _ ?_ (ih (i + 1) _ _ ⟨by omega, by omega⟩ (by omega) rfl rfl)
        simp only [wkB, es, hls]
        (repeat (first | exact rfl | exact trivial | refine ⟨rfl, ?_⟩))
  refine q_iload_n dX7_runs_76 rfl ?_
  refine q_ireturn dX7_runs_77 ?_
  exact gxk rfl ⟨by rw [show i = 8 * p4 L by omega], rfl⟩
set_option maxHeartbeats 2000000 in
theorem k_longestRun (hC : CI M) (hL : M 0 10 = (L : Int)) (hk : zR k) (hb : zR b) : qCt mX7_longestRun 3 9 [.ref 0, .int (zI k), .int (zI b)] M (qpx (gor (gText M) (gor (gMap M k) (gor (gBit b) 0))) (fun z M' => z = mostF (rowc M k) b (8 * p4 L).toNat ∧ M' = M) (Scr M)) := by
  refine q_intro (own := 7) (L := [some (.ref 0), some (.int (zI k)), some (.int (zI b)), none, none, none]) md_X7_longestRun rfl rfl rfl (Nat.le_of_ble_eq_true rfl) (fun X => ?_)
  refine q_aload_n dX7_longestRun_0 rfl ?_
  refine q_V0 dX7_longestRun_1 ml_7_141 md_X7_requireText (c_requireText hC) rfl rfl rfl (by first | decide | omega) (Nat.le_of_ble_eq_true rfl) (Nat.le_of_ble_eq_true rfl) (qk_G (fun hq1 => ?_) (Scr_rf hC))
  have hLv := CI_lv hC hL hq1
  refine q_aload_n dX7_longestRun_4 rfl ?_
  refine q_iload_n dX7_longestRun_5 rfl ?_
  refine q_V1 dX7_longestRun_6 ml_7_172 md_X7_requireMap (c_requireMap hC hk) rfl rfl rfl (by first | decide | omega) (Nat.le_of_ble_eq_true rfl) (Nat.le_of_ble_eq_true rfl) (qk_G (fun hq6 => ?_) (Scr_rf hC))
  refine q_aload_n dX7_longestRun_9 rfl ?_
  refine q_iload_n dX7_longestRun_10 rfl ?_
  refine q_V1 dX7_longestRun_11 ml_7_189 md_X7_requireBit (c_requireBit hb) rfl rfl rfl (by first | decide | omega) (Nat.le_of_ble_eq_true rfl) (Nat.le_of_ble_eq_true rfl) (qk_G (fun hq11 => ?_) (Scr_rf hC))
  have hmk := CI_mp hC hq6
  have hbb := gBit_0.1 hq11
  refine q_iconst dX7_longestRun_14 ?_
  refine q_istore_n dX7_longestRun_15 (Nat.le_of_ble_eq_true rfl) rfl ?_
  refine q_iconst dX7_longestRun_16 ?_
  refine q_istore dX7_longestRun_17 (Nat.le_of_ble_eq_true rfl) rfl ?_
  refine q_iconst dX7_longestRun_19 ?_
  refine q_istore dX7_longestRun_20 (Nat.le_of_ble_eq_true rfl) rfl ?_
  refine q_lp (fun i : Nat => (8 * p4 L).toNat - i) (fun i => (i : Int) ≤ 8 * p4 L) (fun i => [some (.ref 0), some (.int (zI k)), some (.int (zI b)), some (.int (zI (mostF (rowc M k) b i))), some (.int (zI (runF (rowc M k) b i))), some (.int (zI (i : Int)))]) (fun _ => M) 0 rfl rfl (by have := p4_in (L : Int); omega) (fun i hi ih => ?_)
  have hpin := p4_in (L : Int)
  have hb01 := bitP_01 (rowc M k) i
  have hri := runF_in (rowc M k) b i
  have er : runF (rowc M k) b (i + 1) = if bitP (rowc M k) i = b then runF (rowc M k) b i + 1 else 0 := rfl
  have em : mostF (rowc M k) b (i + 1) = max (mostF (rowc M k) b i) (runF (rowc M k) b (i + 1)) := rfl
  refine q_iload dX7_longestRun_22 rfl ?_
  refine q_bipush dX7_longestRun_24 rfl ?_
  refine q_aload_n dX7_longestRun_26 rfl ?_
  refine q_geti (j := 10) dX7_longestRun_27 fl_7_121 rfl rfl rfl ?_
  rw [hL]
  refine q_S1 dX7_longestRun_30 ml_7_164 md_X7_cellsIn (c_cellsIn (by omega)) rfl (by first | decide | omega) (Nat.le_of_ble_eq_true rfl) (Nat.le_of_ble_eq_true rfl) (qk_e ?_)
  refine q_imul dX7_longestRun_33 ?_
  refine q_icmp_ge (tgt := 74) dX7_longestRun_34 rfl (by (first | (unfold zR; omega) | (unfold zLR; omega) | omega | (simp only [zR, qup] at *; omega) | (simp [zR, qup]; omega) | (simp [zR, qup]; done))) (by (first | (unfold zR; omega) | (unfold zLR; omega) | omega | (simp only [zR, qup] at *; omega) | (simp [zR, qup]; omega) | (simp [zR, qup]; done))) (fun h34 => ?_) (fun h34 => ?_)
  rotate_left
  ·
    refine q_aload_n dX7_longestRun_37 rfl ?_
    refine q_getr dX7_longestRun_38 fl_7_26 rfl rfl ?_
    refine q_iload_n dX7_longestRun_41 rfl ?_
    refine q_iload dX7_longestRun_42 rfl ?_
    refine q_V2 dX7_longestRun_44 ml_7_178 md_X0_bitAt (c_bitAt (by omega) (by omega) (CI_ok hC (by omega))) rfl rfl rfl (by first | decide | omega) (Nat.le_of_ble_eq_true rfl) (Nat.le_of_ble_eq_true rfl) (qk_e ?_)
    refine q_iload_n dX7_longestRun_47 rfl ?_
    refine q_icmp_ne (tgt := 58) dX7_longestRun_48 rfl (by (first | (unfold zR; omega) | (unfold zLR; omega) | omega | (simp only [zR, qup] at *; omega) | (simp [zR, qup]; omega) | (simp [zR, qup]; done))) (by (first | (unfold zR; omega) | (unfold zLR; omega) | omega | (simp only [zR, qup] at *; omega) | (simp [zR, qup]; omega) | (simp [zR, qup]; done))) (fun h48 => ?_) (fun h48 => ?_)
    ·
      refine q_iconst dX7_longestRun_58 ?_
      refine q_istore dX7_longestRun_59 (Nat.le_of_ble_eq_true rfl) rfl ?_
      refine q_iload_n dX7_longestRun_61 rfl ?_
      refine q_iload dX7_longestRun_62 rfl ?_
      refine q_mmax dX7_longestRun_64 ml_7_197 (by (first | (unfold zR; omega) | (unfold zLR; omega) | omega | (simp only [zR, qup] at *; omega) | (simp [zR, qup]; omega) | (simp [zR, qup]; done))) (by (first | (unfold zR; omega) | (unfold zLR; omega) | omega | (simp only [zR, qup] at *; omega) | (simp [zR, qup]; omega) | (simp [zR, qup]; done))) (Nat.le_of_ble_eq_true rfl) ?_
      refine q_istore_n dX7_longestRun_67 (Nat.le_of_ble_eq_true rfl) rfl ?_
      refine q_iinc dX7_longestRun_68 rfl (Nat.le_of_ble_eq_true rfl) rfl ?_
      refine q_goto (tgt := 22) dX7_longestRun_71 rfl ?_
      rw [if_neg h48] at er
      rw [er] at em
      exact ih (i + 1) _ _ (by omega) (by omega) (by rw [em, er]; rfl) rfl
    ·
      refine q_iload dX7_longestRun_51 rfl ?_
      refine q_iconst dX7_longestRun_53 ?_
      refine q_iadd dX7_longestRun_54 ?_
      refine q_goto (tgt := 59) dX7_longestRun_55 rfl ?_
      refine q_istore dX7_longestRun_59 (Nat.le_of_ble_eq_true rfl) rfl ?_
      refine q_iload_n dX7_longestRun_61 rfl ?_
      refine q_iload dX7_longestRun_62 rfl ?_
      refine q_mmax dX7_longestRun_64 ml_7_197 (by (first | (unfold zR; omega) | (unfold zLR; omega) | omega | (simp only [zR, qup] at *; omega) | (simp [zR, qup]; omega) | (simp [zR, qup]; done))) (by (first | (unfold zR; omega) | (unfold zLR; omega) | omega | (simp only [zR, qup] at *; omega) | (simp [zR, qup]; omega) | (simp [zR, qup]; done))) (Nat.le_of_ble_eq_true rfl) ?_
      refine q_istore_n dX7_longestRun_67 (Nat.le_of_ble_eq_true rfl) rfl ?_
      refine q_iinc dX7_longestRun_68 rfl (Nat.le_of_ble_eq_true rfl) rfl ?_
      refine q_goto (tgt := 22) dX7_longestRun_71 rfl ?_
      rw [if_pos h48] at er
      rw [er] at em
      exact ih (i + 1) _ _ (by omega) (by omega) (by rw [em, er]; rfl) rfl
  refine q_iload_n dX7_longestRun_74 rfl ?_
  refine q_ireturn dX7_longestRun_75 ?_
  exact gxk rfl ⟨by rw [show (8 * p4 (L : Int)).toNat = i by omega], rfl⟩
end GE


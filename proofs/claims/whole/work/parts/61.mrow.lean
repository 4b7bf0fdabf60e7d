/-! The model: guards; the row at hand. -/
def mT (M : qM) : Int := if M 37 1 = 1 then 0 else 1
def mMp (M : qM) (k : Int) : Int := if 0 ≤ k ∧ k < M 37 3 then 0 else 2
def mPs (M : qM) (p : Int) : Int := if 0 ≤ p ∧ p < 8 * p4 (M 37 2) then 0 else 2
def mRg (M : qM) (f t : Int) : Int := if (0 ≤ f ∧ f < 8 * p4 (M 37 2)) ∧ (0 ≤ t ∧ t < 8 * p4 (M 37 2)) ∧ f ≤ t then 0 else 2
def mBk (M : qM) (l x : Int) : Int := if (0 ≤ l ∧ l ≤ M 37 2) ∧ 0 ≤ x ∧ x < p4 (M 37 2 - l) then 0 else 2
theorem rfW_t {M : qM} {t q code : Int} : rfW (qup M 37 0 t) q code = qup M 37 0 (gor t (if q = 1 then code else 0)) := by
  unfold rfW gor
  rw [qup_s]
  have e2 : ∀ v, qup (qup M 37 0 t) 37 0 v = qup M 37 0 v := fun v => by
    funext o j
    by_cases g : o = 37 ∧ j = 0 <;> simp [qup, g]
  by_cases h : t = 0
  · by_cases h2 : q = 1
    · rw [if_pos ⟨h, h2⟩, if_neg (fun w => w h), if_pos h2, e2]
    · rw [if_neg (fun w => h2 w.2), if_neg (fun w => w h), if_neg h2, h]
  · rw [if_neg (fun w => h w.1), if_pos h]
/-- a model's world but for its scratch -/
def MS (M M' : qM) : Prop := (∀ o, o ≠ 37 → o ≠ 42 → o ≠ 43 → o ≠ 44 → o ≠ 45 → o ≠ 46 → o ≠ 47 → o ≠ 49 → o ≠ 50 → M' o = M o) ∧ ∀ k, (k = 0 ∨ k = 1 ∨ k = 2 ∨ k = 3 ∨ k = 7 ∨ k = 21 ∨ k = 22 ∨ k = 23 ∨ k = 35) → M' 37 k = M 37 k
theorem MS_rf (M : qM) : MS M M := ⟨fun _ _ _ _ _ _ _ _ _ _ => rfl, fun _ _ => rfl⟩
theorem MS_tr {M M1 M2 : qM} (h : MS M M1) (h' : MS M1 M2) : MS M M2 := ⟨fun o a1 a2 a3 a4 a5 a6 a7 a8 a9 => (h'.1 o a1 a2 a3 a4 a5 a6 a7 a8 a9).trans (h.1 o a1 a2 a3 a4 a5 a6 a7 a8 a9), fun k hk => (h'.2 k hk).trans (h.2 k hk)⟩
def rowW (M : qM) (c : Int → Int) (n : Int) : qM := fun o k => if o = 42 ∧ 0 ≤ k ∧ k < n then c k else M o k
def putW (M : qM) (m n : Int) : qM := fun o k => if o = 39 ∧ 256 * m ≤ k ∧ k < 256 * m + n then M 42 (k - 256 * m) else M o k
def rowF (M : qM) (F : Int → Int) : qM := fun o k => if o = 42 then F k else M o k
def stb (c : Int → Int) (p b : Int) : Int → Int := fup c (p / 8) (ofBits (fun i => if i = p % 8 then b else zbit (c (p / 8)) i))
theorem zrem_8 {a : Int} (h0 : 0 ≤ a) (h1 : a < 2147483648) : zrem a 8 = a % 8 := by
  obtain ⟨n, rfl⟩ := z_nat h0
  have := zrem_nat (a := n) (b := 8) (by omega) (by decide) (by decide)
  rw [show ((8 : Nat) : Int) = 8 from rfl] at this
  rw [this]
  omega
theorem setb_v {v j b : Int} (hv : 0 ≤ v ∧ v < 256) (hj : 0 ≤ j ∧ j < 8) (hb : b = 0 ∨ b = 1) : zor (zand v (zxor (zshl 1 j) (-1))) (zshl b j) = ofBits (fun i => if i = j then b else zbit v i) := by
  have key : ∀ (v : Fin 256) (j : Fin 8) (b : Fin 2), zor (zand (v.val : Int) (zxor (zshl 1 (j.val : Int)) (-1))) (zshl (b.val : Int) (j.val : Int)) = ofBits (fun i => if i = (j.val : Int) then (b.val : Int) else zbit (v.val : Int) i) := by decide +kernel
  obtain ⟨n, rfl⟩ := z_nat hv.1
  obtain ⟨m, rfl⟩ := z_nat hj.1
  have hb0 : 0 ≤ b := by omega
  obtain ⟨r, rfl⟩ := z_nat hb0
  exact key ⟨n, by omega⟩ ⟨m, by omega⟩ ⟨r, by omega⟩
theorem zb_R (p : Prop) : zR (zb p) := by have := zb_01 p; unfold zR; omega
theorem zbn {g : Int} (h : zb (g ≠ 0) ≠ 0) : g ≠ 0 := zb_1.1 (by have := zb_01 (g ≠ 0); omega)
theorem zbz {g : Int} (h : zb (g ≠ 0) = 0) : g = 0 := Classical.byContradiction (fun q => zb_0.1 h q)
theorem mT_R (M : qM) : zR (mT M) := by
  unfold mT zR
  by_cases g : M 37 1 = 1
  · rw [if_pos g]; omega
  · rw [if_neg g]; omega
section MB
variable {M : qM} {L l : Nat} {k o x y a b v p q f t n code : Int}
theorem m_refH (hq : q = 0 ∨ q = 1) (ht : zR t) (hc : zR code) (hg : (if q = 1 then code else 0) = n) : qCt mX8_refuse 0 0 [.ref 37, .int (zI q), .int (zI code)] (qup M 37 0 t) (qpe (zb (gor t n ≠ 0)) (qup M 37 0 (gor t n))) := by
  have h := m_refuse (M := qup M 37 0 t) hq (by rw [qup_s]; exact ht) hc
  rw [rfW_t, qup_s, hg] at h
  exact h
theorem m_noMapsT (h1 : M 37 1 = 0 ∨ M 37 1 = 1) : qCt mX8_noMaps 0 1 [.ref 37] M (qpe (zb (mT M ≠ 0)) (qup M 37 0 (mT M))) := by
  have h := m_noMaps h1
  have e : zb (M 37 1 ≠ 1) = zb (mT M ≠ 0) := zb_c (by unfold mT; by_cases g : M 37 1 = 1 <;> simp [g])
  rw [e] at h
  exact h
set_option maxHeartbeats 2000000 in
theorem m_noMap (h1 : M 37 1 = 0 ∨ M 37 1 = 1) (h3 : 0 ≤ M 37 3 ∧ M 37 3 ≤ 6) (hk : zR k) : qCt mX8_noMap 0 2 [.ref 37, .int (zI k)] M (qpe (zb (gor (mT M) (mMp M k) ≠ 0)) (qup M 37 0 (gor (mT M) (mMp M k)))) := by
  have e3 : qup M 37 0 (mT M) 37 3 = M 37 3 := by simp [qup]
  have z01 := zb_01 (0 ≤ k ∧ k < M 37 3)
  refine q_intro (own := 8) (L := [some (.ref 37), some (.int (zI k))]) md_X8_noMap rfl rfl rfl (Nat.le_of_ble_eq_true rfl) (fun X => ?_)
  refine q_aload_n dX8_noMap_0 rfl ?_
  refine q_V0 dX8_noMap_1 ml_8_75 md_X8_noMaps (m_noMapsT h1) rfl rfl rfl (by first | decide | omega) (Nat.le_of_ble_eq_true rfl) (Nat.le_of_ble_eq_true rfl) (qk_e ?_)
  refine q_if_ne (tgt := 28) dX8_noMap_4 rfl (by exact zb_R _) (fun h4 => ?_) (fun h4 => ?_)
  ·
    refine q_iconst dX8_noMap_28 ?_
    refine q_goto (tgt := 33) dX8_noMap_29 rfl ?_
    refine q_zreturn (by first | exact Or.inl rfl | exact Or.inr rfl) dX8_noMap_33 ?_
    exact ⟨by rw [gor_n (zbn h4), zb_t (zbn h4)], by rw [gor_n (zbn h4)]⟩
  ·
    refine q_aload_n dX8_noMap_7 rfl ?_
    refine q_aload_n dX8_noMap_8 rfl ?_
    refine q_iload_n dX8_noMap_9 rfl ?_
    refine q_V1 dX8_noMap_10 ml_8_79 md_X8_isMap (m_isMap (by rw [e3]; exact h3) hk) rfl rfl rfl (by first | decide | omega) (Nat.le_of_ble_eq_true rfl) (Nat.le_of_ble_eq_true rfl) (qk_e ?_)
    rw [e3]
    refine q_if_ne (tgt := 20) dX8_noMap_13 rfl (by (first | (unfold zR; omega) | (unfold zLR; omega) | omega | (simp only [zR, qup] at *; omega) | (simp [zR, qup]; omega) | (simp [zR, qup]; done))) (fun h13 => ?_) (fun h13 => ?_)
    ·
      refine q_iconst dX8_noMap_20 ?_
      refine q_iconst dX8_noMap_21 ?_
      have hg : (if (0 : Int) = 1 then (2 : Int) else 0) = mMp M k := (if_pos (zb_1.1 (by omega))).symm
      refine q_V2 dX8_noMap_22 ml_8_64 md_X8_refuse (m_refH (by omega) (mT_R M) (by (first | (unfold zR; omega) | (unfold zLR; omega) | omega | (simp only [zR, qup] at *; omega) | (simp [zR, qup]; omega) | (simp [zR, qup]; done))) hg) rfl rfl rfl (by first | decide | omega) (Nat.le_of_ble_eq_true rfl) (Nat.le_of_ble_eq_true rfl) (qk_e ?_)
      refine q_if_eq (tgt := 32) dX8_noMap_25 rfl (by exact zb_R _) (fun h25 => ?_) (fun h25 => ?_)
      ·
        refine q_iconst dX8_noMap_32 ?_
        refine q_zreturn (by first | exact Or.inl rfl | exact Or.inr rfl) dX8_noMap_33 ?_
        exact ⟨by rw [h25], rfl⟩
      ·
        refine q_iconst dX8_noMap_28 ?_
        refine q_goto (tgt := 33) dX8_noMap_29 rfl ?_
        refine q_zreturn (by first | exact Or.inl rfl | exact Or.inr rfl) dX8_noMap_33 ?_
        exact ⟨by rw [zb_t (zbn h25)], rfl⟩
    ·
      refine q_iconst dX8_noMap_16 ?_
      refine q_goto (tgt := 21) dX8_noMap_17 rfl ?_
      refine q_iconst dX8_noMap_21 ?_
      have hg : (if (1 : Int) = 1 then (2 : Int) else 0) = mMp M k := (if_neg (zb_0.1 (by omega))).symm
      refine q_V2 dX8_noMap_22 ml_8_64 md_X8_refuse (m_refH (by omega) (mT_R M) (by (first | (unfold zR; omega) | (unfold zLR; omega) | omega | (simp only [zR, qup] at *; omega) | (simp [zR, qup]; omega) | (simp [zR, qup]; done))) hg) rfl rfl rfl (by first | decide | omega) (Nat.le_of_ble_eq_true rfl) (Nat.le_of_ble_eq_true rfl) (qk_e ?_)
      refine q_if_eq (tgt := 32) dX8_noMap_25 rfl (by exact zb_R _) (fun h25 => ?_) (fun h25 => ?_)
      ·
        refine q_iconst dX8_noMap_32 ?_
        refine q_zreturn (by first | exact Or.inl rfl | exact Or.inr rfl) dX8_noMap_33 ?_
        exact ⟨by rw [h25], rfl⟩
      ·
        refine q_iconst dX8_noMap_28 ?_
        refine q_goto (tgt := 33) dX8_noMap_29 rfl ?_
        refine q_zreturn (by first | exact Or.inl rfl | exact Or.inr rfl) dX8_noMap_33 ?_
        exact ⟨by rw [zb_t (zbn h25)], rfl⟩
set_option maxHeartbeats 2000000 in
theorem m_fetches (h2 : M 37 2 = (L : Int)) (hL : L ≤ 4) (hk : 0 ≤ k ∧ k < 6) : qCt mX8_fetches 0 1 [.ref 37, .int (zI k)] M (qpv (rowW (qup M 37 9 (L : Int)) (fun i => M 39 (256 * k + i)) (p4 L))) := by
  have hpin := p4_in (L : Int)
  refine q_intro (own := 8) (L := [some (.ref 37), some (.int (zI k)), none]) md_X8_fetches rfl rfl rfl (Nat.le_of_ble_eq_true rfl) (fun X => ?_)
  refine q_aload_n dX8_fetches_0 rfl ?_
  refine q_aload_n dX8_fetches_1 rfl ?_
  refine q_geti (j := 2) dX8_fetches_2 fl_8_114 rfl rfl rfl ?_
  rw [h2]
  refine q_puti (j := 9) dX8_fetches_5 fl_8_83 rfl rfl rfl rfl rfl ?_
  refine q_iconst dX8_fetches_8 ?_
  refine q_istore_n dX8_fetches_9 (Nat.le_of_ble_eq_true rfl) rfl ?_
  refine q_lp (fun i : Int => (p4 L - i).toNat) (fun i => 0 ≤ i ∧ i ≤ p4 L) (fun i => [some (.ref 37), some (.int (zI k)), some (.int (zI i))]) (fun i => rowW (qup M 37 9 (L : Int)) (fun i => M 39 (256 * k + i)) i) 0 rfl (by funext o j; unfold rowW; rw [if_neg (by omega)]) ⟨by omega, by omega⟩ (fun i hi ih => ?_)
  refine q_iload_n dX8_fetches_10 rfl ?_
  refine q_aload_n dX8_fetches_11 rfl ?_
  refine q_V0 dX8_fetches_12 ml_8_86 md_X8_bytesOfMap (m_bytesOfMap (by show rowW _ _ _ 37 9 = _; unfold rowW; rw [if_neg (by omega), qup_s]) hL) rfl rfl rfl (by first | decide | omega) (Nat.le_of_ble_eq_true rfl) (Nat.le_of_ble_eq_true rfl) (qk_e ?_)
  refine q_icmp_ge (tgt := 42) dX8_fetches_15 rfl (by (first | (unfold zR; omega) | (unfold zLR; omega) | omega | (simp only [zR, qup] at *; omega) | (simp [zR, qup]; omega) | (simp [zR, qup]; done))) (by (first | (unfold zR; omega) | (unfold zLR; omega) | omega | (simp only [zR, qup] at *; omega) | (simp [zR, qup]; omega) | (simp [zR, qup]; done))) (fun h15 => ?_) (fun h15 => ?_)
  rotate_left
  ·
    refine q_aload_n dX8_fetches_18 rfl ?_
    refine q_getr dX8_fetches_19 fl_8_23 rfl rfl ?_
    refine q_iload_n dX8_fetches_22 rfl ?_
    refine q_aload_n dX8_fetches_23 rfl ?_
    refine q_getr dX8_fetches_24 fl_8_13 rfl rfl ?_
    refine q_sipush dX8_fetches_27 rfl ?_
    refine q_iload_n dX8_fetches_30 rfl ?_
    refine q_imul dX8_fetches_31 ?_
    refine q_iload_n dX8_fetches_32 rfl ?_
    refine q_iadd dX8_fetches_33 ?_
    refine q_iald dX8_fetches_34 rfl (by (first | (unfold zR; omega) | (unfold zLR; omega) | omega | (simp only [zR, qup] at *; omega) | (simp [zR, qup]; omega) | (simp [zR, qup]; done))) (Nat.le_of_ble_eq_true rfl) ?_
    refine q_iast dX8_fetches_35 rfl (by (first | (unfold zR; omega) | (unfold zLR; omega) | omega | (simp only [zR, qup] at *; omega) | (simp [zR, qup]; omega) | (simp [zR, qup]; done))) (Nat.le_of_ble_eq_true rfl) ?_
    rw [show rowW (qup M 37 9 (L : Int)) (fun i => M 39 (256 * k + i)) i 39 (256 * k + i) = M 39 (256 * k + i) by unfold rowW; rw [if_neg (by omega), qup_o _ _ _ _ (by decide)]]
    refine q_iinc dX8_fetches_36 rfl (Nat.le_of_ble_eq_true rfl) rfl ?_
    refine q_goto (tgt := 10) dX8_fetches_39 rfl ?_
    exact ih (i + 1) _ _ ⟨by omega, by omega⟩ (by omega) rfl (by
      funext o j
      by_cases g : o = 42
      · subst g
        by_cases g2 : j = i
        · subst g2; rw [qup_s]; unfold rowW; rw [if_pos ⟨rfl, by omega, by omega⟩]
        · rw [qup_k _ _ _ g2]; unfold rowW
          by_cases g3 : 0 ≤ j ∧ j < i
          · rw [if_pos ⟨rfl, g3⟩, if_pos ⟨rfl, g3.1, by omega⟩]
          · rw [if_neg (fun w => g3 w.2), if_neg (by omega)]
      · rw [qup_o _ _ _ _ g]; unfold rowW; rw [if_neg (fun w => g w.1), if_neg (fun w => g w.1)])
  refine q_return dX8_fetches_42 ?_
  exact ⟨rfl, by rw [show i = p4 L by omega]⟩
set_option maxHeartbeats 2000000 in
theorem m_puts (h9 : M 37 9 = (L : Int)) (hL : L ≤ 4) (hk : 0 ≤ k ∧ k < 6) : qCt mX8_puts 0 1 [.ref 37, .int (zI k)] M (qpv (putW M k (p4 L))) := by
  have hpin := p4_in (L : Int)
  refine q_intro (own := 8) (L := [some (.ref 37), some (.int (zI k)), none]) md_X8_puts rfl rfl rfl (Nat.le_of_ble_eq_true rfl) (fun X => ?_)
  refine q_iconst dX8_puts_0 ?_
  refine q_istore_n dX8_puts_1 (Nat.le_of_ble_eq_true rfl) rfl ?_
  refine q_lp (fun i : Int => (p4 L - i).toNat) (fun i => 0 ≤ i ∧ i ≤ p4 L) (fun i => [some (.ref 37), some (.int (zI k)), some (.int (zI i))]) (fun i => putW M k i) 0 rfl (by funext o j; unfold putW; rw [if_neg (by omega)]) ⟨by omega, by omega⟩ (fun i hi ih => ?_)
  refine q_iload_n dX8_puts_2 rfl ?_
  refine q_aload_n dX8_puts_3 rfl ?_
  refine q_V0 dX8_puts_4 ml_8_86 md_X8_bytesOfMap (m_bytesOfMap (by show putW _ _ _ 37 9 = _; unfold putW; rw [if_neg (by omega)]; exact h9) hL) rfl rfl rfl (by first | decide | omega) (Nat.le_of_ble_eq_true rfl) (Nat.le_of_ble_eq_true rfl) (qk_e ?_)
  refine q_icmp_ge (tgt := 34) dX8_puts_7 rfl (by (first | (unfold zR; omega) | (unfold zLR; omega) | omega | (simp only [zR, qup] at *; omega) | (simp [zR, qup]; omega) | (simp [zR, qup]; done))) (by (first | (unfold zR; omega) | (unfold zLR; omega) | omega | (simp only [zR, qup] at *; omega) | (simp [zR, qup]; omega) | (simp [zR, qup]; done))) (fun h7 => ?_) (fun h7 => ?_)
  rotate_left
  ·
    refine q_aload_n dX8_puts_10 rfl ?_
    refine q_getr dX8_puts_11 fl_8_13 rfl rfl ?_
    refine q_sipush dX8_puts_14 rfl ?_
    refine q_iload_n dX8_puts_17 rfl ?_
    refine q_imul dX8_puts_18 ?_
    refine q_iload_n dX8_puts_19 rfl ?_
    refine q_iadd dX8_puts_20 ?_
    refine q_aload_n dX8_puts_21 rfl ?_
    refine q_getr dX8_puts_22 fl_8_23 rfl rfl ?_
    refine q_iload_n dX8_puts_25 rfl ?_
    refine q_iald dX8_puts_26 rfl (by (first | (unfold zR; omega) | (unfold zLR; omega) | omega | (simp only [zR, qup] at *; omega) | (simp [zR, qup]; omega) | (simp [zR, qup]; done))) (Nat.le_of_ble_eq_true rfl) ?_
    rw [show putW M k i 42 i = M 42 i by unfold putW; rw [if_neg (by omega)]]
    refine q_iast dX8_puts_27 rfl (by (first | (unfold zR; omega) | (unfold zLR; omega) | omega | (simp only [zR, qup] at *; omega) | (simp [zR, qup]; omega) | (simp [zR, qup]; done))) (Nat.le_of_ble_eq_true rfl) ?_
    refine q_iinc dX8_puts_28 rfl (Nat.le_of_ble_eq_true rfl) rfl ?_
    refine q_goto (tgt := 2) dX8_puts_31 rfl ?_
    exact ih (i + 1) _ _ ⟨by omega, by omega⟩ (by omega) rfl (by
      funext o j
      by_cases g : o = 39
      · subst g
        by_cases g2 : j = 256 * k + i
        · subst g2; rw [qup_s]; unfold putW; rw [if_pos ⟨rfl, by omega, by omega⟩, show 256 * k + i - 256 * k = i by omega]
        · rw [qup_k _ _ _ g2]; unfold putW
          by_cases g3 : 256 * k ≤ j ∧ j < 256 * k + i
          · rw [if_pos ⟨rfl, g3⟩, if_pos ⟨rfl, g3.1, by omega⟩]
          · rw [if_neg (fun w => g3 w.2), if_neg (by omega)]
      · rw [qup_o _ _ _ _ g]; unfold putW; rw [if_neg (fun w => g w.1), if_neg (fun w => g w.1)])
  refine q_return dX8_puts_34 ?_
  exact ⟨rfl, by rw [show i = p4 L by omega]⟩
set_option maxHeartbeats 1000000 in
theorem m_bitOf (hp : 0 ≤ p ∧ p < 2048) (hv : 0 ≤ M 42 (p / 8) ∧ M 42 (p / 8) < 256) : qCt mX8_bitOf 0 0 [.ref 37, .int (zI p)] M (qpe (bitP (M 42) p) M) := by
  refine q_intro (own := 8) (L := [some (.ref 37), some (.int (zI p))]) md_X8_bitOf rfl rfl rfl (Nat.le_of_ble_eq_true rfl) (fun X => ?_)
  refine q_aload_n dX8_bitOf_0 rfl ?_
  refine q_getr dX8_bitOf_1 fl_8_23 rfl rfl ?_
  refine q_iload_n dX8_bitOf_4 rfl ?_
  refine q_bipush dX8_bitOf_5 rfl ?_
  refine q_idiv dX8_bitOf_7 (by (first | (unfold zR; omega) | (unfold zLR; omega) | omega | (simp only [zR, qup] at *; omega) | (simp [zR, qup]; omega) | (simp [zR, qup]; done))) (by (first | (unfold zR; omega) | (unfold zLR; omega) | omega | (simp only [zR, qup] at *; omega) | (simp [zR, qup]; omega) | (simp [zR, qup]; done))) ?_
  rw [zdiv_8 hp.1 (by omega)]
  refine q_iald dX8_bitOf_8 rfl (by (first | (unfold zR; omega) | (unfold zLR; omega) | omega | (simp only [zR, qup] at *; omega) | (simp [zR, qup]; omega) | (simp [zR, qup]; done))) (Nat.le_of_ble_eq_true rfl) ?_
  refine q_iload_n dX8_bitOf_9 rfl ?_
  refine q_bipush dX8_bitOf_10 rfl ?_
  refine q_irem dX8_bitOf_12 (by (first | (unfold zR; omega) | (unfold zLR; omega) | omega | (simp only [zR, qup] at *; omega) | (simp [zR, qup]; omega) | (simp [zR, qup]; done))) (by (first | (unfold zR; omega) | (unfold zLR; omega) | omega | (simp only [zR, qup] at *; omega) | (simp [zR, qup]; omega) | (simp [zR, qup]; done))) ?_
  rw [zrem_8 hp.1 (by omega)]
  refine q_ishr dX8_bitOf_13 ?_
  refine q_iconst dX8_bitOf_14 ?_
  refine q_iand dX8_bitOf_15 ?_
  refine q_ireturn dX8_bitOf_16 ?_
  exact ⟨by rw [zbit_eq (by omega) (by omega) (by omega) (by omega)]; rfl, rfl⟩
set_option maxHeartbeats 1000000 in
theorem m_laysBit (hp : 0 ≤ p ∧ p < 2048) (hv : 0 ≤ M 42 (p / 8) ∧ M 42 (p / 8) < 256) (hb : b = 0 ∨ b = 1) : qCt mX8_laysBit 0 0 [.ref 37, .int (zI p), .int (zI b)] M (qpv (rowF M (stb (M 42) p b))) := by
  refine q_intro (own := 8) (L := [some (.ref 37), some (.int (zI p)), some (.int (zI b)), none]) md_X8_laysBit rfl rfl rfl (Nat.le_of_ble_eq_true rfl) (fun X => ?_)
  refine q_aload_n dX8_laysBit_0 rfl ?_
  refine q_getr dX8_laysBit_1 fl_8_23 rfl rfl ?_
  refine q_iload_n dX8_laysBit_4 rfl ?_
  refine q_bipush dX8_laysBit_5 rfl ?_
  refine q_idiv dX8_laysBit_7 (by (first | (unfold zR; omega) | (unfold zLR; omega) | omega | (simp only [zR, qup] at *; omega) | (simp [zR, qup]; omega) | (simp [zR, qup]; done))) (by (first | (unfold zR; omega) | (unfold zLR; omega) | omega | (simp only [zR, qup] at *; omega) | (simp [zR, qup]; omega) | (simp [zR, qup]; done))) ?_
  rw [zdiv_8 hp.1 (by omega)]
  refine q_iald dX8_laysBit_8 rfl (by (first | (unfold zR; omega) | (unfold zLR; omega) | omega | (simp only [zR, qup] at *; omega) | (simp [zR, qup]; omega) | (simp [zR, qup]; done))) (Nat.le_of_ble_eq_true rfl) ?_
  refine q_iconst dX8_laysBit_9 ?_
  refine q_iload_n dX8_laysBit_10 rfl ?_
  refine q_bipush dX8_laysBit_11 rfl ?_
  refine q_irem dX8_laysBit_13 (by (first | (unfold zR; omega) | (unfold zLR; omega) | omega | (simp only [zR, qup] at *; omega) | (simp [zR, qup]; omega) | (simp [zR, qup]; done))) (by (first | (unfold zR; omega) | (unfold zLR; omega) | omega | (simp only [zR, qup] at *; omega) | (simp [zR, qup]; omega) | (simp [zR, qup]; done))) ?_
  rw [zrem_8 hp.1 (by omega)]
  refine q_ishl dX8_laysBit_14 ?_
  refine q_iconst dX8_laysBit_15 ?_
  refine q_ixor dX8_laysBit_16 ?_
  refine q_iand dX8_laysBit_17 ?_
  refine q_istore_n dX8_laysBit_18 (Nat.le_of_ble_eq_true rfl) rfl ?_
  refine q_aload_n dX8_laysBit_19 rfl ?_
  refine q_getr dX8_laysBit_20 fl_8_23 rfl rfl ?_
  refine q_iload_n dX8_laysBit_23 rfl ?_
  refine q_bipush dX8_laysBit_24 rfl ?_
  refine q_idiv dX8_laysBit_26 (by (first | (unfold zR; omega) | (unfold zLR; omega) | omega | (simp only [zR, qup] at *; omega) | (simp [zR, qup]; omega) | (simp [zR, qup]; done))) (by (first | (unfold zR; omega) | (unfold zLR; omega) | omega | (simp only [zR, qup] at *; omega) | (simp [zR, qup]; omega) | (simp [zR, qup]; done))) ?_
  rw [zdiv_8 hp.1 (by omega)]
  refine q_iload_n dX8_laysBit_27 rfl ?_
  refine q_iload_n dX8_laysBit_28 rfl ?_
  refine q_iload_n dX8_laysBit_29 rfl ?_
  refine q_bipush dX8_laysBit_30 rfl ?_
  refine q_irem dX8_laysBit_32 (by (first | (unfold zR; omega) | (unfold zLR; omega) | omega | (simp only [zR, qup] at *; omega) | (simp [zR, qup]; omega) | (simp [zR, qup]; done))) (by (first | (unfold zR; omega) | (unfold zLR; omega) | omega | (simp only [zR, qup] at *; omega) | (simp [zR, qup]; omega) | (simp [zR, qup]; done))) ?_
  rw [zrem_8 hp.1 (by omega)]
  refine q_ishl dX8_laysBit_33 ?_
  refine q_ior dX8_laysBit_34 ?_
  rw [setb_v hv (by omega) hb]
  refine q_iast dX8_laysBit_35 rfl (by (first | (unfold zR; omega) | (unfold zLR; omega) | omega | (simp only [zR, qup] at *; omega) | (simp [zR, qup]; omega) | (simp [zR, qup]; done))) (Nat.le_of_ble_eq_true rfl) ?_
  refine q_return dX8_laysBit_36 ?_
  exact ⟨rfl, by
    funext o j
    by_cases g : o = 42
    · subst g
      by_cases g2 : j = p / 8
      · subst g2; rw [qup_s]; unfold rowF stb; rw [if_pos rfl, fup_s]
      · rw [qup_k _ _ _ g2]; unfold rowF stb fup; rw [if_pos rfl, if_neg g2]
    · rw [qup_o _ _ _ _ g]; unfold rowF; rw [if_neg g]⟩
end MB


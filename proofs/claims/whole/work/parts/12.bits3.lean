/-- the bits p of a row with p from a on, below b, as S tells; 0 elsewhere -/
def mkF (S : Int → Int) (a b : Int) : Int → Int := fun k => ofBits (fun j => if a ≤ 8 * k + j ∧ 8 * k + j < b then S (8 * k + j) else 0)
theorem mkF_in {S : Int → Int} {a b k : Int} (hS : ∀ p, S p = 0 ∨ S p = 1) : 0 ≤ mkF S a b k ∧ mkF S a b k < 256 := ofBits_in (fun j _ _ => ite_in (hS _) (Or.inl rfl))
theorem mkF_bit {S : Int → Int} {a b k j : Int} (hS : ∀ p, S p = 0 ∨ S p = 1) (h0 : 0 ≤ j) (h1 : j < 8) : zbit (mkF S a b k) j = if a ≤ 8 * k + j ∧ 8 * k + j < b then S (8 * k + j) else 0 := zbit_ofBits (fun j _ _ => ite_in (hS _) (Or.inl rfl)) h0 h1
theorem mkF_0 {S : Int → Int} {a b k : Int} (h : b ≤ a) : mkF S a b k = 0 := by
  have : mkF S a b k = ofBits (fun _ => 0) := ofBits_congr (fun j _ _ => if_neg (by omega))
  rw [this]
  rfl
/-- one more bit, above -/
theorem mkF_up {M : qM} {r p : Int} {S : Int → Int} (hS : ∀ p, S p = 0 ∨ S p = 1) (hp : 0 ≤ p ∧ p < 2048) (h1 : S p = 1) : qup (qrow M r (mkF S 0 p)) 4 (r * 256 + p / 8) (ofBits (fun i => if i = p % 8 then 1 else zbit (qrow M r (mkF S 0 p) 4 (r * 256 + p / 8)) i)) = qrow M r (mkF S 0 (p + 1)) := by
  rw [qrow_at M _ (by omega), qrow_put M _ (by omega)]
  refine qrow_congr M (fun k k0 k1 => ?_)
  by_cases e : k = p / 8
  · rw [if_pos e]
    refine ofBits_congr (fun j j0 j1 => ?_)
    rw [mkF_bit hS j0 j1, ← e]
    by_cases e2 : j = p % 8
    · rw [if_pos e2, if_pos (by omega), show 8 * k + j = p by omega, h1]
    · rw [if_neg e2]
      by_cases e3 : 8 * k + j < p
      · rw [if_pos (by omega), if_pos (by omega)]
      · rw [if_neg (by omega), if_neg (by omega)]
  · rw [if_neg e]
    refine ofBits_congr (fun j j0 j1 => ?_)
    by_cases e3 : 8 * k + j < p
    · rw [if_pos (by omega), if_pos (by omega)]
    · rw [if_neg (by omega), if_neg (by omega)]
theorem mkF_same {M : qM} {r p : Int} {S : Int → Int} (h0 : S p = 0) : qrow M r (mkF S 0 p) = qrow M r (mkF S 0 (p + 1)) := by
  refine qrow_congr M (fun k k0 k1 => ofBits_congr (fun j j0 j1 => ?_))
  by_cases e : 8 * k + j = p
  · rw [if_neg (by omega), e, h0]
    by_cases e2 : 0 ≤ p ∧ p < p + 1
    · rw [if_pos e2]
    · rw [if_neg e2]
  · by_cases e3 : 0 ≤ 8 * k + j ∧ 8 * k + j < p
    · rw [if_pos e3, if_pos (by omega)]
    · rw [if_neg e3, if_neg (by omega)]
/-- one more bit, below -/
theorem mkF_dn {M : qM} {r p b : Int} {S : Int → Int} (hS : ∀ p, S p = 0 ∨ S p = 1) (hp : 0 ≤ p ∧ p < 2048) (hb : p < b) (h1 : S p = 1) : qup (qrow M r (mkF S (p + 1) b)) 4 (r * 256 + p / 8) (ofBits (fun i => if i = p % 8 then 1 else zbit (qrow M r (mkF S (p + 1) b) 4 (r * 256 + p / 8)) i)) = qrow M r (mkF S p b) := by
  rw [qrow_at M _ (by omega), qrow_put M _ (by omega)]
  refine qrow_congr M (fun k k0 k1 => ?_)
  by_cases e : k = p / 8
  · rw [if_pos e]
    refine ofBits_congr (fun j j0 j1 => ?_)
    rw [mkF_bit hS j0 j1, ← e]
    by_cases e2 : j = p % 8
    · rw [if_pos e2, if_pos (by omega), show 8 * k + j = p by omega, h1]
    · rw [if_neg e2]
      by_cases e3 : p ≤ 8 * k + j ∧ 8 * k + j < b
      · rw [if_pos (by omega), if_pos (by omega)]
      · rw [if_neg (by omega), if_neg (by omega)]
  · rw [if_neg e]
    refine ofBits_congr (fun j j0 j1 => ?_)
    by_cases e3 : p ≤ 8 * k + j ∧ 8 * k + j < b
    · rw [if_pos (by omega), if_pos (by omega)]
    · rw [if_neg (by omega), if_neg (by omega)]
theorem mkF_dsame {M : qM} {r p b : Int} {S : Int → Int} (h0 : S p = 0) : qrow M r (mkF S (p + 1) b) = qrow M r (mkF S p b) := by
  refine qrow_congr M (fun k k0 k1 => ofBits_congr (fun j j0 j1 => ?_))
  by_cases e : 8 * k + j = p
  · rw [if_neg (by omega), e, h0]
    by_cases e2 : p ≤ p ∧ p < b
    · rw [if_pos e2]
    · rw [if_neg e2]
  · by_cases e3 : p ≤ 8 * k + j ∧ 8 * k + j < b
    · rw [if_pos (by omega), if_pos (by omega)]
    · rw [if_neg (by omega), if_neg (by omega)]
theorem rowOk_qrow {M : qM} {r q : Int} {F : Int → Int} (hF : ∀ k, 0 ≤ k → k < 256 → 0 ≤ F k ∧ F k < 256) (hr : q = r ∨ rowOk M q) : rowOk (qrow M r F) q := by
  intro i h0 h1
  by_cases e : q = r
  · subst e; rw [qrow_at M _ ⟨h0, h1⟩]; exact hF i h0 h1
  · rw [qrow_ne M _ ⟨h0, h1⟩ e]
    rcases hr with h | h
    · exact absurd h e
    · exact h i h0 h1
theorem rowc_ne {M : qM} {r q : Int} {F : Int → Int} (h : q ≠ r) {p : Int} (hp : 0 ≤ p ∧ p < 2048) : bitP (rowc (qrow M r F) q) p = bitP (rowc M q) p := by
  unfold bitP rowc
  rw [qrow_ne M _ (by omega) h]
/-- shifted by -/
def shS (c : Int → Int) (by' size p : Int) : Int := if 0 ≤ p - by' ∧ p - by' < size then bitP c (p - by') else 0
theorem shS_01 (c : Int → Int) (by' size : Int) (p : Int) : shS c by' size p = 0 ∨ shS c by' size p = 1 := ite_in (bitP_01 c _) (Or.inl rfl)
set_option maxHeartbeats 2000000 in
theorem c_slide {r by' size t : Int} {M : qM} (hr : 0 ≤ r ∧ r < 33) (ht : 0 ≤ t ∧ t < 33) (hne : r ≠ t) (hs : 0 ≤ size ∧ size ≤ 2048) (hby : zR by') (ok : rowOk M r) : qCt mX0_slide 0 2 [.ref 3, .int (zI r), .int (zI by'), .int (zI size), .int (zI t)] M (qpv (qrow M t (mkF (shS (rowc M r) by' size) 0 size))) := by
  have hS := shS_01 (rowc M r) by' size
  refine q_intro (own := 0) (L := [some (.ref 3), some (.int (zI r)), some (.int (zI by')), some (.int (zI size)), some (.int (zI t)), none, none, none]) md_X0_slide rfl rfl rfl (Nat.le_of_ble_eq_true rfl) (fun X => ?_)
  refine q_aload_n dX0_slide_0 rfl ?_
  refine q_iload dX0_slide_1 rfl ?_
  refine q_iconst dX0_slide_3 ?_
  refine q_sipush dX0_slide_4 rfl ?_
  refine q_iconst dX0_slide_7 ?_
  refine q_V4 dX0_slide_8 ml_0_54 md_X0_setCells (c_setCells (by omega) (by omega) (by omega)) rfl rfl rfl (by first | decide | omega) (Nat.le_of_ble_eq_true rfl) (Nat.le_of_ble_eq_true rfl) (qk_v ?_)
  rw [qset_row]
  refine q_iconst dX0_slide_11 ?_
  refine q_istore dX0_slide_12 (Nat.le_of_ble_eq_true rfl) rfl ?_
  refine q_wk [some (.ref 3), some (.int (zI r)), some (.int (zI by')), some (.int (zI size)), some (.int (zI t)), some (.int (zI 0)), none, none] (by (simp only [wkB]; repeat (first | exact rfl | exact trivial | refine ⟨rfl, ?_⟩))) ?_
  refine q_lp (fun p : Int => (size - p).toNat) (fun p => 0 ≤ p ∧ p ≤ size) (fun p => [some (.ref 3), some (.int (zI r)), some (.int (zI by')), some (.int (zI size)), some (.int (zI t)), some (.int (zI p)), none, none]) (fun p => qrow M t (mkF (shS (rowc M r) by' size) 0 p)) 0 rfl (qrow_congr M (fun k _ _ => (mkF_0 (by omega)).symm)) ⟨by omega, by omega⟩ (fun p hp ih => ?_)
  have hb1 := hby.1
  have hb2 := hby.2
  refine q_iload dX0_slide_14 rfl ?_
  refine q_iload_n dX0_slide_16 rfl ?_
  refine q_icmp_ge (tgt := 69) dX0_slide_17 rfl (by (first | (unfold zR; omega) | (unfold zLR; omega) | omega | (simp only [zR, qup] at *; omega) | (simp [zR, qup]; omega) | (simp [zR, qup]; done))) (by (first | (unfold zR; omega) | (unfold zLR; omega) | omega | (simp only [zR, qup] at *; omega) | (simp [zR, qup]; omega) | (simp [zR, qup]; done))) (fun h17 => ?_) (fun h17 => ?_)
  ·
    refine q_return dX0_slide_69 ?_
    exact ⟨rfl, by rw [show p = size by omega]⟩
  ·
    refine q_iload dX0_slide_20 rfl ?_
    refine q_i2l dX0_slide_22 (by (first | (unfold zR; omega) | (unfold zLR; omega) | omega | (simp only [zR, qup] at *; omega) | (simp [zR, qup]; omega) | (simp [zR, qup]; done))) ?_
    refine q_iload_n dX0_slide_23 rfl ?_
    refine q_i2l dX0_slide_24 (by (first | (unfold zR; omega) | (unfold zLR; omega) | omega | (simp only [zR, qup] at *; omega) | (simp [zR, qup]; omega) | (simp [zR, qup]; done))) ?_
    refine q_lsub dX0_slide_25 ?_
    refine q_lstore dX0_slide_26 (Nat.le_of_ble_eq_true rfl) rfl ?_
    refine q_lload dX0_slide_28 rfl ?_
    refine q_lconst (z := 0) dX0_slide_30 rfl ?_
    refine q_lcmp dX0_slide_31 (by (first | (unfold zR; omega) | (unfold zLR; omega) | omega | (simp only [zR, qup] at *; omega) | (simp [zR, qup]; omega) | (simp [zR, qup]; done))) (by (first | (unfold zR; omega) | (unfold zLR; omega) | omega | (simp only [zR, qup] at *; omega) | (simp [zR, qup]; omega) | (simp [zR, qup]; done))) ?_
    refine q_if_lt (tgt := 63) dX0_slide_32 rfl (by exact lgc_R) (fun h32 => ?_) (fun h32 => ?_)
    ·
      have e0 : shS (rowc M r) by' size p = 0 := if_neg (by have := (@lgc_lt (p - by') 0); omega)
      rw [mkF_same e0]
      refine q_iinc dX0_slide_63 rfl (Nat.le_of_ble_eq_true rfl) rfl ?_
      refine q_goto (tgt := 14) dX0_slide_66 rfl ?_
      refine q_wk [some (.ref 3), some (.int (zI r)), some (.int (zI by')), some (.int (zI size)), some (.int (zI t)), some (.int (zI (p + 1))), none, none] (by (simp only [wkB]; repeat (first | exact rfl | exact trivial | refine ⟨rfl, ?_⟩))) ?_
      exact ih (p + 1) _ _ ⟨by omega, by omega⟩ (by omega) rfl rfl
    ·
      refine q_lload dX0_slide_35 rfl ?_
      refine q_iload_n dX0_slide_37 rfl ?_
      refine q_i2l dX0_slide_38 (by (first | (unfold zR; omega) | (unfold zLR; omega) | omega | (simp only [zR, qup] at *; omega) | (simp [zR, qup]; omega) | (simp [zR, qup]; done))) ?_
      refine q_lcmp dX0_slide_39 (by (first | (unfold zR; omega) | (unfold zLR; omega) | omega | (simp only [zR, qup] at *; omega) | (simp [zR, qup]; omega) | (simp [zR, qup]; done))) (by (first | (unfold zR; omega) | (unfold zLR; omega) | omega | (simp only [zR, qup] at *; omega) | (simp [zR, qup]; omega) | (simp [zR, qup]; done))) ?_
      refine q_if_ge (tgt := 63) dX0_slide_40 rfl (by exact lgc_R) (fun h40 => ?_) (fun h40 => ?_)
      ·
        have e0 : shS (rowc M r) by' size p = 0 := if_neg (by have := (@lgc_lt (p - by') size); omega)
        rw [mkF_same e0]
        refine q_iinc dX0_slide_63 rfl (Nat.le_of_ble_eq_true rfl) rfl ?_
        refine q_goto (tgt := 14) dX0_slide_66 rfl ?_
        refine q_wk [some (.ref 3), some (.int (zI r)), some (.int (zI by')), some (.int (zI size)), some (.int (zI t)), some (.int (zI (p + 1))), none, none] (by (simp only [wkB]; repeat (first | exact rfl | exact trivial | refine ⟨rfl, ?_⟩))) ?_
        exact ih (p + 1) _ _ ⟨by omega, by omega⟩ (by omega) rfl rfl
      ·
        refine q_aload_n dX0_slide_43 rfl ?_
        refine q_iload_n dX0_slide_44 rfl ?_
        refine q_lload dX0_slide_45 rfl ?_
        refine q_l2i dX0_slide_47 ?_
        have q1 : 0 ≤ p - by' := by have h := h32; have := (@lgc_lt (p - by') 0); omega
        have q2 : p - by' < size := by have h := h40; have := (@lgc_lt (p - by') size); omega
        refine q_V2 dX0_slide_48 ml_0_58 md_X0_bitAt (c_bitAt (by omega) (by omega) (rowOk_qrow (fun k _ _ => mkF_in hS) (Or.inr ok))) rfl rfl rfl (by first | decide | omega) (Nat.le_of_ble_eq_true rfl) (Nat.le_of_ble_eq_true rfl) (qk_e ?_)
        refine q_iconst dX0_slide_51 ?_
        rw [rowc_ne hne (by omega)]
        refine q_icmp_ne (tgt := 63) dX0_slide_52 rfl (by have := bitP_01 (rowc M r) (p - by'); unfold zR; omega) (by have := bitP_01 (rowc M r) (p - by'); unfold zR; omega) (fun h52 => ?_) (fun h52 => ?_)
        ·
          have e0 : shS (rowc M r) by' size p = 0 := by unfold shS; rw [if_pos ⟨q1, q2⟩]; have := bitP_01 (rowc M r) (p - by'); omega
          rw [mkF_same e0]
          refine q_iinc dX0_slide_63 rfl (Nat.le_of_ble_eq_true rfl) rfl ?_
          refine q_goto (tgt := 14) dX0_slide_66 rfl ?_
          refine q_wk [some (.ref 3), some (.int (zI r)), some (.int (zI by')), some (.int (zI size)), some (.int (zI t)), some (.int (zI (p + 1))), none, none] (by (simp only [wkB]; repeat (first | exact rfl | exact trivial | refine ⟨rfl, ?_⟩))) ?_
          exact ih (p + 1) _ _ ⟨by omega, by omega⟩ (by omega) rfl rfl
        ·
          refine q_aload_n dX0_slide_55 rfl ?_
          refine q_iload dX0_slide_56 rfl ?_
          refine q_iload dX0_slide_58 rfl ?_
          refine q_V2 dX0_slide_60 ml_0_61 md_X0_setBit (c_setBit (by omega) (by omega) (rowOk_qrow (fun k _ _ => mkF_in hS) (Or.inl rfl))) rfl rfl rfl (by first | decide | omega) (Nat.le_of_ble_eq_true rfl) (Nat.le_of_ble_eq_true rfl) (qk_v ?_)
          have e1 : shS (rowc M r) by' size p = 1 := by unfold shS; rw [if_pos ⟨q1, q2⟩]; exact h52
          rw [mkF_up hS (by omega) e1]
          refine q_iinc dX0_slide_63 rfl (Nat.le_of_ble_eq_true rfl) rfl ?_
          refine q_goto (tgt := 14) dX0_slide_66 rfl ?_
          refine q_wk [some (.ref 3), some (.int (zI r)), some (.int (zI by')), some (.int (zI size)), some (.int (zI t)), some (.int (zI (p + 1))), none, none] (by (simp only [wkB]; repeat (first | exact rfl | exact trivial | refine ⟨rfl, ?_⟩))) ?_
          exact ih (p + 1) _ _ ⟨by omega, by omega⟩ (by omega) rfl rfl
/-- mirrored -/
def miS (c : Int → Int) (size p : Int) : Int := bitP c (size - 1 - p)
theorem miS_01 (c : Int → Int) (size : Int) (p : Int) : miS c size p = 0 ∨ miS c size p = 1 := bitP_01 c _
set_option maxHeartbeats 2000000 in
theorem c_reflect {r size t : Int} {M : qM} (hr : 0 ≤ r ∧ r < 33) (ht : 0 ≤ t ∧ t < 33) (hne : r ≠ t) (hs : 0 ≤ size ∧ size ≤ 2048) (ok : rowOk M r) : qCt mX0_reflect 0 2 [.ref 3, .int (zI r), .int (zI size), .int (zI t)] M (qpv (qrow M t (mkF (miS (rowc M r) size) 0 size))) := by
  have hS := miS_01 (rowc M r) size
  refine q_intro (own := 0) (L := [some (.ref 3), some (.int (zI r)), some (.int (zI size)), some (.int (zI t)), none]) md_X0_reflect rfl rfl rfl (Nat.le_of_ble_eq_true rfl) (fun X => ?_)
  refine q_aload_n dX0_reflect_0 rfl ?_
  refine q_iload_n dX0_reflect_1 rfl ?_
  refine q_iconst dX0_reflect_2 ?_
  refine q_sipush dX0_reflect_3 rfl ?_
  refine q_iconst dX0_reflect_6 ?_
  refine q_V4 dX0_reflect_7 ml_0_54 md_X0_setCells (c_setCells (by omega) (by omega) (by omega)) rfl rfl rfl (by first | decide | omega) (Nat.le_of_ble_eq_true rfl) (Nat.le_of_ble_eq_true rfl) (qk_v ?_)
  rw [qset_row]
  refine q_iconst dX0_reflect_10 ?_
  refine q_istore dX0_reflect_11 (Nat.le_of_ble_eq_true rfl) rfl ?_
  refine q_lp (fun p : Int => (size - p).toNat) (fun p => 0 ≤ p ∧ p ≤ size) (fun p => [some (.ref 3), some (.int (zI r)), some (.int (zI size)), some (.int (zI t)), some (.int (zI p))]) (fun p => qrow M t (mkF (miS (rowc M r) size) (size - p) size)) 0 rfl (qrow_congr M (fun k _ _ => (mkF_0 (by omega)).symm)) ⟨by omega, by omega⟩ (fun p hp ih => ?_)
  have hpb := bitP_01 (rowc M r) p
  refine q_iload dX0_reflect_13 rfl ?_
  refine q_iload_n dX0_reflect_15 rfl ?_
  refine q_icmp_ge (tgt := 47) dX0_reflect_16 rfl (by (first | (unfold zR; omega) | (unfold zLR; omega) | omega | (simp only [zR, qup] at *; omega) | (simp [zR, qup]; omega) | (simp [zR, qup]; done))) (by (first | (unfold zR; omega) | (unfold zLR; omega) | omega | (simp only [zR, qup] at *; omega) | (simp [zR, qup]; omega) | (simp [zR, qup]; done))) (fun h16 => ?_) (fun h16 => ?_)
  ·
    refine q_return dX0_reflect_47 ?_
    exact ⟨rfl, by rw [show size - p = 0 by omega]⟩
  ·
    refine q_aload_n dX0_reflect_19 rfl ?_
    refine q_iload_n dX0_reflect_20 rfl ?_
    refine q_iload dX0_reflect_21 rfl ?_
    refine q_V2 dX0_reflect_23 ml_0_58 md_X0_bitAt (c_bitAt (by omega) (by omega) (rowOk_qrow (fun k _ _ => mkF_in hS) (Or.inr ok))) rfl rfl rfl (by first | decide | omega) (Nat.le_of_ble_eq_true rfl) (Nat.le_of_ble_eq_true rfl) (qk_e ?_)
    refine q_iconst dX0_reflect_26 ?_
    rw [rowc_ne hne (by omega)]
    refine q_icmp_ne (tgt := 41) dX0_reflect_27 rfl (by (first | (unfold zR; omega) | (unfold zLR; omega) | omega | (simp only [zR, qup] at *; omega) | (simp [zR, qup]; omega) | (simp [zR, qup]; done))) (by (first | (unfold zR; omega) | (unfold zLR; omega) | omega | (simp only [zR, qup] at *; omega) | (simp [zR, qup]; omega) | (simp [zR, qup]; done))) (fun h27 => ?_) (fun h27 => ?_)
    ·
      have e0 : miS (rowc M r) size (size - 1 - p) = 0 := by unfold miS; rw [show size - 1 - (size - 1 - p) = p by omega]; omega
      rw [show size - p = size - 1 - p + 1 by omega, mkF_dsame e0]
      refine q_iinc dX0_reflect_41 rfl (Nat.le_of_ble_eq_true rfl) rfl ?_
      refine q_goto (tgt := 13) dX0_reflect_44 rfl ?_
      exact ih (p + 1) _ _ ⟨by omega, by omega⟩ (by omega) rfl (by rw [show size - 1 - p = size - (p + 1) by omega])
    ·
      refine q_aload_n dX0_reflect_30 rfl ?_
      refine q_iload_n dX0_reflect_31 rfl ?_
      refine q_iload_n dX0_reflect_32 rfl ?_
      refine q_iconst dX0_reflect_33 ?_
      refine q_isub dX0_reflect_34 ?_
      refine q_iload dX0_reflect_35 rfl ?_
      refine q_isub dX0_reflect_37 ?_
      refine q_V2 dX0_reflect_38 ml_0_61 md_X0_setBit (c_setBit (by omega) (by omega) (rowOk_qrow (fun k _ _ => mkF_in hS) (Or.inl rfl))) rfl rfl rfl (by first | decide | omega) (Nat.le_of_ble_eq_true rfl) (Nat.le_of_ble_eq_true rfl) (qk_v ?_)
      have e1 : miS (rowc M r) size (size - 1 - p) = 1 := by unfold miS; rw [show size - 1 - (size - 1 - p) = p by omega]; exact h27
      rw [show size - p = size - 1 - p + 1 by omega, mkF_dn hS (by omega) (by omega) e1]
      refine q_iinc dX0_reflect_41 rfl (Nat.le_of_ble_eq_true rfl) rfl ?_
      refine q_goto (tgt := 13) dX0_reflect_44 rfl ?_
      exact ih (p + 1) _ _ ⟨by omega, by omega⟩ (by omega) rfl (by rw [show size - 1 - p = size - (p + 1) by omega])


/-! The model: a tree is read. -/
theorem fup_fov (w : Int → Int) (b v : Int) : fup w b v = fov (p4 ((0 : Nat) : Int) * b) (p4 ((0 : Nat) : Int)) (fun _ => v) w := by
  funext i
  rw [show p4 ((0 : Nat) : Int) = 1 from by decide]
  unfold fup fov
  by_cases h : i = b
  · rw [if_pos h, if_pos (by omega)]
  · rw [if_neg h, if_neg (by omega)]
theorem fov_w {lo n i : Int} {g w w' : Int → Int} (h : lo ≤ i ∧ i < lo + n) : fov lo n g w i = fov lo n g w' i := (fov_at h).trans (fov_at h).symm
theorem blk_sep {x a b : Int} (h : a ≠ b) : p4 x * a + p4 x ≤ p4 x * b ∨ p4 x * b + p4 x ≤ p4 x * a := by
  have hpx := p4_in x
  by_cases e2 : a < b
  · left
    have h : p4 x * (a + 1) ≤ p4 x * b := Int.mul_le_mul_of_nonneg_left (by omega) (by omega)
    rw [Int.mul_add, Int.mul_one] at h
    exact h
  · right
    have h : p4 x * (b + 1) ≤ p4 x * a := Int.mul_le_mul_of_nonneg_left (by omega) (by omega)
    rw [Int.mul_add, Int.mul_one] at h
    exact h
theorem badb_c {c c' : Int → Int} {l b last : Int} (e : blkE c c' l b) (e' : last ≠ -1 → blkE c c' l last) : bad c l b last ↔ bad c' l b last := by
  unfold bad
  rw [allv_c (v := 0) e, allv_c (v := 255) e]
  constructor
  · rintro (h | h | h)
    · exact Or.inl h
    · exact Or.inr (Or.inl h)
    · exact Or.inr (Or.inr ⟨h.1, (same_c (e' h.1) e).1 h.2⟩)
  · rintro (h | h | h)
    · exact Or.inl h
    · exact Or.inr (Or.inl h)
    · exact Or.inr (Or.inr ⟨h.1, (same_c (e' h.1) e).2 h.2⟩)
/-- what reading a block leaves -/
def rbP (M : qM) (n : Int) (src : Int → Int) (l : Nat) (b p : Int) (G : Int → Int) : qM → Prop := fun M' => ∃ G' P E, M' = rdM M G' P E ∧ ((E = -1 ∧ p < P ∧ P ≤ n ∧ ∃ g : Int → Int, (∀ j, p4 l * b ≤ j → j < p4 l * b + p4 l → 0 ≤ g j ∧ g j < 256) ∧ G' = fov (p4 l * b) (p4 l) g G ∧ ∀ w k, rc n src l b p w k = k P (fov (p4 l * b) (p4 l) g w)) ∨ (E ≠ -1 ∧ 0 ≤ E ∧ E ≤ n ∧ 0 ≤ P ∧ P ≤ n ∧ ∀ w k, rc n src l b p w k = rwr E))
def rqP (M : qM) (n : Int) (src : Int → Int) (l : Nat) (b p last : Int) (G : Int → Int) : qM → Prop := fun M' => ∃ G' P E, M' = rdM M G' P E ∧ ((E = -1 ∧ p < P ∧ P ≤ n ∧ ∃ g : Int → Int, (∀ j, p4 l * b ≤ j → j < p4 l * b + p4 l → 0 ≤ g j ∧ g j < 256) ∧ G' = fov (p4 l * b) (p4 l) g G ∧ ¬ bad G' l b last ∧ ∀ w k, rc n src l b p w k = k P (fov (p4 l * b) (p4 l) g w)) ∨ (E ≠ -1 ∧ 0 ≤ E ∧ E ≤ n ∧ 0 ≤ P ∧ P ≤ n ∧ ((∀ w k, rc n src l b p w k = rwr E) ∨ ∃ g : Int → Int, E = P - 1 ∧ bad (fov (p4 l * b) (p4 l) g G) l b last ∧ ∀ w k, rc n src l b p w k = k P (fov (p4 l * b) (p4 l) g w))))
section MRB
variable {M N : qM} {L l : Nat} {n : Int} {src : Int → Int}
set_option maxHeartbeats 1500000 in
theorem m_readsQuarter (hL : L ≤ 4) (hl : l ≤ L) (hn : 0 ≤ n ∧ n ≤ 700) (hrb : ∀ (b p : Int) (G : Int → Int), 0 ≤ b → b < p4 ((L : Int) - l) → 0 ≤ p → p ≤ n → qCt mX8_readsBlock 0 (1 + 2 * l) [.ref 37, .int (zI (l : Int)), .int (zI b)] (rdM M G p (-1)) (qph (rbP M n src l b p G))) (b p last : Int) (G : Int → Int) (hb0 : 0 ≤ b) (hb1 : b < p4 ((L : Int) - l)) (hp0 : 0 ≤ p) (hp1 : p ≤ n) (hla : last = -1 ∨ (0 ≤ last ∧ last < p4 ((L : Int) - l) ∧ last ≠ b ∧ ∀ j, p4 l * last ≤ j → j < p4 l * last + p4 l → 0 ≤ G j ∧ G j < 256)) : qCt mX8_readsQuarter 0 (2 + 2 * l) [.ref 37, .int (zI (l : Int)), .int (zI b), .int (zI last)] (rdM M G p (-1)) (qph (rqP M n src l b p last G)) := by
  have hpd := p4_in ((L : Int) - l)
  refine q_intro (own := 8) (L := [some (.ref 37), some (.int (zI (l : Int))), some (.int (zI b)), some (.int (zI last))]) md_X8_readsQuarter rfl rfl rfl (Nat.le_of_ble_eq_true rfl) (fun X => ?_)
  refine q_aload_n dX8_readsQuarter_0 rfl ?_
  refine q_iload_n dX8_readsQuarter_1 rfl ?_
  refine q_iload_n dX8_readsQuarter_2 rfl ?_
  refine q_V2 dX8_readsQuarter_3 ml_8_149 md_X8_readsBlock (hrb b p G hb0 hb1 hp0 hp1) rfl rfl rfl (by first | decide | omega) (Nat.le_of_ble_eq_true rfl) (Nat.le_of_ble_eq_true rfl) (qk_h (fun N3 hq3 => ?_))
  obtain ⟨G1, P, E, rfl, hR⟩ := hq3
  have hER : zR E := by rcases hR with h | h <;> (unfold zR; omega)
  refine q_aload_n dX8_readsQuarter_6 rfl ?_
  refine q_geti (j := 19) dX8_readsQuarter_7 fl_8_124 rfl rfl rfl ?_
  rw [rdM_19]
  refine q_iconst dX8_readsQuarter_10 ?_
  refine q_icmp_eq (tgt := 15) dX8_readsQuarter_11 rfl (by (first | (unfold zR; omega) | (unfold zLR; omega) | omega | (simp only [zR, qup] at *; omega) | (simp [zR, qup]; omega) | (simp [zR, qup]; done))) (by (first | (unfold zR; omega) | (unfold zLR; omega) | omega | (simp only [zR, qup] at *; omega) | (simp [zR, qup]; omega) | (simp [zR, qup]; done))) (fun h11 => ?_) (fun h11 => ?_)
  ·
    obtain ⟨e1, e2, e3, g, e4, e5, e6⟩ := hR.resolve_right (fun h => h.1 h11)
    subst e1
    have hzb : ∀ k, p4 l * b ≤ k → k < p4 l * b + p4 l → zR (rdM M G1 P (-1) 42 k) := fun k k0 k1 => by
      rw [rdM_42, e5, fov_at ⟨k0, k1⟩]
      have := e4 k k0 k1
      unfold zR
      omega
    refine q_aload_n dX8_readsQuarter_15 rfl ?_
    refine q_iload_n dX8_readsQuarter_16 rfl ?_
    refine q_iload_n dX8_readsQuarter_17 rfl ?_
    refine q_iconst dX8_readsQuarter_18 ?_
    refine q_V3 dX8_readsQuarter_19 ml_8_104 md_X8_isAll (m_isAllB (L := L) hL (by omega) ⟨hb0, hb1⟩ (by (first | (unfold zR; omega) | (unfold zLR; omega) | omega | (simp only [zR, qup] at *; omega) | (simp [zR, qup]; omega) | (simp [zR, qup]; done))) hzb) rfl rfl rfl (by first | decide | omega) (Nat.le_of_ble_eq_true rfl) (Nat.le_of_ble_eq_true rfl) (qk_e ?_)
    rw [rdM_42]
    refine q_if_ne (tgt := 52) dX8_readsQuarter_22 rfl (by exact zb_R _) (fun h22 => ?_) (fun h22 => ?_)
    ·
      refine q_aload_n dX8_readsQuarter_52 rfl ?_
      refine q_aload_n dX8_readsQuarter_53 rfl ?_
      refine q_geti (j := 18) dX8_readsQuarter_54 fl_8_127 rfl rfl rfl ?_
      rw [rdM_18]
      refine q_iconst dX8_readsQuarter_57 ?_
      refine q_isub dX8_readsQuarter_58 ?_
      refine q_V1 dX8_readsQuarter_59 ml_8_133 md_X8_isWrongAt (m_isWrongAt (by (first | (unfold zR; omega) | (unfold zLR; omega) | omega | (simp only [zR, qup] at *; omega) | (simp [zR, qup]; omega) | (simp [zR, qup]; done)))) rfl rfl rfl (by first | decide | omega) (Nat.le_of_ble_eq_true rfl) (Nat.le_of_ble_eq_true rfl) (qk_v ?_)
      have hbd : bad G1 l b last := Or.inl (zb_1.1 (by have := zb_01 (allv G1 l b 0); omega))
      refine q_return dX8_readsQuarter_62 ?_
      exact ⟨rfl, G1, P, P - 1, by rw [if_pos rfl], Or.inr ⟨by omega, by omega, by omega, by omega, by omega, Or.inr ⟨g, rfl, by rw [← e5]; exact hbd, e6⟩⟩⟩
    ·
      refine q_aload_n dX8_readsQuarter_25 rfl ?_
      refine q_iload_n dX8_readsQuarter_26 rfl ?_
      refine q_iload_n dX8_readsQuarter_27 rfl ?_
      refine q_sipush dX8_readsQuarter_28 rfl ?_
      refine q_V3 dX8_readsQuarter_31 ml_8_104 md_X8_isAll (m_isAllB (L := L) hL (by omega) ⟨hb0, hb1⟩ (by (first | (unfold zR; omega) | (unfold zLR; omega) | omega | (simp only [zR, qup] at *; omega) | (simp [zR, qup]; omega) | (simp [zR, qup]; done))) hzb) rfl rfl rfl (by first | decide | omega) (Nat.le_of_ble_eq_true rfl) (Nat.le_of_ble_eq_true rfl) (qk_e ?_)
      rw [rdM_42]
      refine q_if_ne (tgt := 52) dX8_readsQuarter_34 rfl (by exact zb_R _) (fun h34 => ?_) (fun h34 => ?_)
      ·
        refine q_aload_n dX8_readsQuarter_52 rfl ?_
        refine q_aload_n dX8_readsQuarter_53 rfl ?_
        refine q_geti (j := 18) dX8_readsQuarter_54 fl_8_127 rfl rfl rfl ?_
        rw [rdM_18]
        refine q_iconst dX8_readsQuarter_57 ?_
        refine q_isub dX8_readsQuarter_58 ?_
        refine q_V1 dX8_readsQuarter_59 ml_8_133 md_X8_isWrongAt (m_isWrongAt (by (first | (unfold zR; omega) | (unfold zLR; omega) | omega | (simp only [zR, qup] at *; omega) | (simp [zR, qup]; omega) | (simp [zR, qup]; done)))) rfl rfl rfl (by first | decide | omega) (Nat.le_of_ble_eq_true rfl) (Nat.le_of_ble_eq_true rfl) (qk_v ?_)
        have hbd : bad G1 l b last := Or.inr (Or.inl (zb_1.1 (by have := zb_01 (allv G1 l b 255); omega)))
        refine q_return dX8_readsQuarter_62 ?_
        exact ⟨rfl, G1, P, P - 1, by rw [if_pos rfl], Or.inr ⟨by omega, by omega, by omega, by omega, by omega, Or.inr ⟨g, rfl, by rw [← e5]; exact hbd, e6⟩⟩⟩
      ·
        refine q_iload_n dX8_readsQuarter_37 rfl ?_
        refine q_iconst dX8_readsQuarter_38 ?_
        refine q_icmp_eq (tgt := 62) dX8_readsQuarter_39 rfl (by (first | (unfold zR; omega) | (unfold zLR; omega) | omega | (simp only [zR, qup] at *; omega) | (simp [zR, qup]; omega) | (simp [zR, qup]; done))) (by (first | (unfold zR; omega) | (unfold zLR; omega) | omega | (simp only [zR, qup] at *; omega) | (simp [zR, qup]; omega) | (simp [zR, qup]; done))) (fun h39 => ?_) (fun h39 => ?_)
        ·
          skip
          refine q_return dX8_readsQuarter_62 ?_
          refine ⟨rfl, G1, P, -1, rfl, Or.inl ⟨rfl, e2, e3, g, e4, e5, ?_, e6⟩⟩
          rintro (u | u | u)
          · exact zb_0.1 (by omega) u
          · exact zb_0.1 (by omega) u
          · exact u.1 h39
        ·
          refine q_aload_n dX8_readsQuarter_42 rfl ?_
          refine q_iload_n dX8_readsQuarter_43 rfl ?_
          refine q_iload_n dX8_readsQuarter_44 rfl ?_
          refine q_iload_n dX8_readsQuarter_45 rfl ?_
          obtain ⟨la0, la1, la2, la3⟩ := hla.resolve_left h39
          have hsp := blk_sep (x := (l : Int)) la2
          have hzl : ∀ k, p4 l * last ≤ k → k < p4 l * last + p4 l → zR (rdM M G1 P (-1) 42 k) := fun k k0 k1 => by
            rw [rdM_42, e5]
            unfold fov
            rw [if_neg (by omega)]
            have := la3 k k0 k1
            unfold zR
            omega
          refine q_V3 dX8_readsQuarter_46 ml_8_107 md_X8_isSame (m_isSameB (L := L) hL (by omega) ⟨hb0, hb1⟩ ⟨la0, la1⟩ hzb hzl) rfl rfl rfl (by first | decide | omega) (Nat.le_of_ble_eq_true rfl) (Nat.le_of_ble_eq_true rfl) (qk_e ?_)
          rw [rdM_42]
          refine q_if_eq (tgt := 62) dX8_readsQuarter_49 rfl (by exact zb_R _) (fun h49 => ?_) (fun h49 => ?_)
          ·
            refine q_return dX8_readsQuarter_62 ?_
            refine ⟨rfl, G1, P, -1, rfl, Or.inl ⟨rfl, e2, e3, g, e4, e5, ?_, e6⟩⟩
            rintro (u | u | u)
            · exact zb_0.1 (by omega) u
            · exact zb_0.1 (by omega) u
            · exact zb_0.1 h49 (fun k k0 k1 => (u.2 k k0 k1).symm)
          ·
            refine q_aload_n dX8_readsQuarter_52 rfl ?_
            refine q_aload_n dX8_readsQuarter_53 rfl ?_
            refine q_geti (j := 18) dX8_readsQuarter_54 fl_8_127 rfl rfl rfl ?_
            rw [rdM_18]
            refine q_iconst dX8_readsQuarter_57 ?_
            refine q_isub dX8_readsQuarter_58 ?_
            refine q_V1 dX8_readsQuarter_59 ml_8_133 md_X8_isWrongAt (m_isWrongAt (by (first | (unfold zR; omega) | (unfold zLR; omega) | omega | (simp only [zR, qup] at *; omega) | (simp [zR, qup]; omega) | (simp [zR, qup]; done)))) rfl rfl rfl (by first | decide | omega) (Nat.le_of_ble_eq_true rfl) (Nat.le_of_ble_eq_true rfl) (qk_v ?_)
            refine q_return dX8_readsQuarter_62 ?_
            have hbd : bad G1 l b last := Or.inr (Or.inr ⟨h39, fun k k0 k1 => (zb_1.1 (show zb (same G1 l b last) = 1 by have := zb_01 (same G1 l b last); omega) k k0 k1).symm⟩)
            exact ⟨rfl, G1, P, P - 1, by rw [if_pos rfl], Or.inr ⟨by omega, by omega, by omega, by omega, by omega, Or.inr ⟨g, rfl, by rw [← e5]; exact hbd, e6⟩⟩⟩
  ·
    refine q_return dX8_readsQuarter_14 ?_
    rcases hR with h | ⟨e1, e2, e3, e4, e5, e6⟩
    · exact absurd h.1 h11
    · exact ⟨rfl, G1, P, E, rfl, Or.inr ⟨e1, e2, e3, e4, e5, Or.inl e6⟩⟩
/-- the loop over the quarters of a block -/
def rbI (M : qM) (n : Int) (src : Int → Int) (l : Nat) (b v p lo : Int) (G : Int → Int) (i : Nat) (G1 : Int → Int) (P E : Int) : Prop := (E = -1 ∧ p < P ∧ P ≤ n ∧ ∃ g : Int → Int, (∀ j, lo ≤ j → j < lo + p4 l * i → 0 ≤ g j ∧ g j < 256) ∧ G1 = fov lo (p4 l * i) g G ∧ ∀ w k, rl (rc n src l) l b v 4 (p + 1) w k = rl (rc n src l) l b v (4 - i) P (fov lo (p4 l * i) g w) k) ∨ (E ≠ -1 ∧ 0 ≤ E ∧ E ≤ n ∧ 0 ≤ P ∧ P ≤ n ∧ ∀ w k, rl (rc n src l) l b v 4 (p + 1) w k = rwr E)
theorem rbI_up {b v p lo P' : Int} {G g h : Int → Int} {i : Nat} (hlo : p4 l * (4 * b) = lo) (hg : ∀ j, lo ≤ j → j < lo + p4 l * i → 0 ≤ g j ∧ g j < 256) (hh : ∀ j, lo + p4 l * i ≤ j → j < lo + p4 l * i + p4 l → 0 ≤ h j ∧ h j < 256) (hP : p < P') (hPn : P' ≤ n) (hR : ∀ w k, rl (rc n src l) l b v 4 (p + 1) w k = rl (rc n src l) l b v (4 - (i + 1)) P' (fov (p4 l * (4 * b + i)) (p4 l) h (fov lo (p4 l * i) g w)) k) : rbI M n src l b v p lo G (i + 1) (fov (p4 l * (4 * b + i)) (p4 l) h (fov lo (p4 l * i) g G)) P' (-1) := by
  have hpl := p4_in (l : Int)
  have hm : 0 ≤ p4 l * (i : Int) := Int.mul_nonneg (by omega) (by omega)
  have e1 : p4 l * (4 * b + (i : Int)) = lo + p4 l * i := by rw [Int.mul_add, hlo]
  have e2 : p4 l * ((i + 1 : Nat) : Int) = p4 l * i + p4 l := by rw [show ((i + 1 : Nat) : Int) = (i : Int) + 1 by omega, Int.mul_add, Int.mul_one]
  refine Or.inl ⟨rfl, hP, hPn, fov (lo + p4 l * i) (p4 l) h g, fun j j0 j1 => ?_, ?_, fun w k => ?_⟩
  · unfold fov
    by_cases u : lo + p4 l * i ≤ j ∧ j < lo + p4 l * i + p4 l
    · rw [if_pos u]; exact hh j u.1 u.2
    · rw [if_neg u]; exact hg j j0 (by omega)
  · rw [e1, e2, fov_ext hm (by omega)]
  · rw [hR w k, e1, e2, fov_ext hm (by omega)]
set_option maxHeartbeats 4000000 in
theorem m_readsBlock (hL : L ≤ 4) (h17 : M 37 17 = n) (hn : 0 ≤ n ∧ n ≤ 700) (hsr : ∀ i, 0 ≤ i → i < n → M 47 i = src i ∧ 0 ≤ src i ∧ src i < 256) : ∀ (l : Nat), l ≤ L → ∀ (b p : Int) (G : Int → Int), 0 ≤ b → b < p4 ((L : Int) - l) → 0 ≤ p → p ≤ n → qCt mX8_readsBlock 0 (1 + 2 * l) [.ref 37, .int (zI (l : Int)), .int (zI b)] (rdM M G p (-1)) (qph (rbP M n src l b p G)) := by
  have hpL := p4_in (L : Int)
  intro l
  induction l with
  | zero =>
    intro _ b p G hb0 hb1 hp0 hp1
    have hbL : b < p4 (L : Int) := by rw [show (L : Int) - ((0 : Nat) : Int) = L by omega] at hb1; exact hb1
    refine q_intro (own := 8) (L := [some (.ref 37), some (.int (zI ((0 : Nat) : Int))), some (.int (zI b)), none, none, none, none, none]) md_X8_readsBlock rfl rfl rfl (Nat.le_of_ble_eq_true rfl) (fun X => ?_)
    refine q_aload_n dX8_readsBlock_0 rfl ?_
    refine q_geti (j := 18) dX8_readsBlock_1 fl_8_127 rfl rfl rfl ?_
    rw [rdM_18]
    refine q_aload_n dX8_readsBlock_4 rfl ?_
    refine q_geti (j := 17) dX8_readsBlock_5 fl_8_130 rfl rfl rfl ?_
    rw [rdM_37 (by decide) (by decide), h17]
    refine q_icmp_ne (tgt := 20) dX8_readsBlock_8 rfl (by (first | (unfold zR; omega) | (unfold zLR; omega) | omega | (simp only [zR, qup] at *; omega) | (simp [zR, qup]; omega) | (simp [zR, qup]; done))) (by (first | (unfold zR; omega) | (unfold zLR; omega) | omega | (simp only [zR, qup] at *; omega) | (simp [zR, qup]; omega) | (simp [zR, qup]; done))) (fun h8 => ?_) (fun h8 => ?_)
    ·
      refine q_aload_n dX8_readsBlock_20 rfl ?_
      refine q_getr dX8_readsBlock_21 fl_8_38 rfl rfl ?_
      refine q_aload_n dX8_readsBlock_24 rfl ?_
      refine q_geti (j := 18) dX8_readsBlock_25 fl_8_127 rfl rfl rfl ?_
      rw [rdM_18]
      have hsp := hsr p hp0 (by omega)
      refine q_iald dX8_readsBlock_28 rfl (by (first | (unfold zR; omega) | (unfold zLR; omega) | omega | (simp only [zR, qup] at *; omega) | (simp [zR, qup]; omega) | (simp [zR, qup]; done))) (Nat.le_of_ble_eq_true rfl) ?_
      rw [rdM_o (by decide) (by decide), hsp.1]
      refine q_istore_n dX8_readsBlock_29 (Nat.le_of_ble_eq_true rfl) rfl ?_
      refine q_aload_n dX8_readsBlock_30 rfl ?_
      refine q_dup dX8_readsBlock_31 rfl ?_
      refine q_geti (j := 18) dX8_readsBlock_32 fl_8_127 rfl rfl rfl ?_
      rw [rdM_18]
      refine q_iconst dX8_readsBlock_35 ?_
      refine q_iadd dX8_readsBlock_36 ?_
      refine q_puti (j := 18) dX8_readsBlock_37 fl_8_127 rfl rfl rfl rfl rfl ?_
      rw [rdM_u18]
      refine q_iload_n dX8_readsBlock_40 rfl ?_
      refine q_if_ne (tgt := 52) dX8_readsBlock_41 rfl (by (first | (unfold zR; omega) | (unfold zLR; omega) | omega | (simp only [zR, qup] at *; omega) | (simp [zR, qup]; omega) | (simp [zR, qup]; done))) (fun h41 => absurd h41 (by omega)) (fun h41 => ?_)
      refine q_aload_n dX8_readsBlock_44 rfl ?_
      refine q_getr dX8_readsBlock_45 fl_8_23 rfl rfl ?_
      refine q_iload_n dX8_readsBlock_48 rfl ?_
      refine q_iload_n dX8_readsBlock_49 rfl ?_
      refine q_iast dX8_readsBlock_50 rfl (by (first | (unfold zR; omega) | (unfold zLR; omega) | omega | (simp only [zR, qup] at *; omega) | (simp [zR, qup]; omega) | (simp [zR, qup]; done))) (Nat.le_of_ble_eq_true rfl) ?_
      rw [rdM_u42]
      refine q_return dX8_readsBlock_51 ?_
      exact ⟨rfl, _, p + 1, -1, rfl, Or.inl ⟨rfl, by omega, by omega, fun _ => src p, fun _ _ _ => hsp.2, fup_fov _ _ _, fun w k => by show (if p = n then rwr n else k (p + 1) (fup w b (src p))) = _; rw [if_neg h8, fup_fov]⟩⟩
    ·
      refine q_aload_n dX8_readsBlock_11 rfl ?_
      refine q_aload_n dX8_readsBlock_12 rfl ?_
      refine q_geti (j := 18) dX8_readsBlock_13 fl_8_127 rfl rfl rfl ?_
      rw [rdM_18]
      refine q_V1 dX8_readsBlock_16 ml_8_133 md_X8_isWrongAt (m_isWrongAt (by (first | (unfold zR; omega) | (unfold zLR; omega) | omega | (simp only [zR, qup] at *; omega) | (simp [zR, qup]; omega) | (simp [zR, qup]; done)))) rfl rfl rfl (by first | decide | omega) (Nat.le_of_ble_eq_true rfl) (Nat.le_of_ble_eq_true rfl) (qk_v ?_)
      refine q_return dX8_readsBlock_19 ?_
      exact ⟨rfl, G, p, p, by rw [if_pos rfl], Or.inr ⟨by omega, hp0, hp1, hp0, hp1, fun w k => by show (if p = n then rwr n else k (p + 1) (fup w b (src p))) = _; rw [if_pos h8, h8]⟩⟩
  | succ l ih =>
    intro hl b p G hb0 hb1 hp0 hp1
    have hb1' : b < p4 ((L : Int) - ((l : Int) + 1)) := by rw [show (L : Int) - ((l : Int) + 1) = (L : Int) - ((l + 1 : Nat) : Int) by omega]; exact hb1
    have hpl := p4_in (l : Int)
    have hkid : ∀ j : Nat, j < 4 → 0 ≤ 4 * b + (j : Int) ∧ 4 * b + (j : Int) < p4 ((L : Int) - l) := fun j hj => p4_kid (l := l) (L := L) (x := b) (by omega) hL ⟨hb0, hb1'⟩ hj
    have hp4 : p4 ((l + 1 : Nat) : Int) = 4 * p4 l := by rw [show ((l + 1 : Nat) : Int) = (l : Int) + 1 by omega]; exact p4_s (by omega)
    obtain ⟨lo, hlo⟩ : ∃ lo, p4 l * (4 * b) = lo := ⟨_, rfl⟩
    have hlo2 : p4 ((l + 1 : Nat) : Int) * b = lo := by rw [hp4, ← hlo, Int.mul_left_comm, ← Int.mul_assoc]
    refine q_intro (own := 8) (L := [some (.ref 37), some (.int (zI ((l + 1 : Nat) : Int))), some (.int (zI b)), none, none, none, none, none]) md_X8_readsBlock rfl rfl rfl (Nat.le_of_ble_eq_true rfl) (fun X => ?_)
    refine q_aload_n dX8_readsBlock_0 rfl ?_
    refine q_geti (j := 18) dX8_readsBlock_1 fl_8_127 rfl rfl rfl ?_
    rw [rdM_18]
    refine q_aload_n dX8_readsBlock_4 rfl ?_
    refine q_geti (j := 17) dX8_readsBlock_5 fl_8_130 rfl rfl rfl ?_
    rw [rdM_37 (by decide) (by decide), h17]
    refine q_icmp_ne (tgt := 20) dX8_readsBlock_8 rfl (by (first | (unfold zR; omega) | (unfold zLR; omega) | omega | (simp only [zR, qup] at *; omega) | (simp [zR, qup]; omega) | (simp [zR, qup]; done))) (by (first | (unfold zR; omega) | (unfold zLR; omega) | omega | (simp only [zR, qup] at *; omega) | (simp [zR, qup]; omega) | (simp [zR, qup]; done))) (fun h8 => ?_) (fun h8 => ?_)
    ·
      refine q_aload_n dX8_readsBlock_20 rfl ?_
      refine q_getr dX8_readsBlock_21 fl_8_38 rfl rfl ?_
      refine q_aload_n dX8_readsBlock_24 rfl ?_
      refine q_geti (j := 18) dX8_readsBlock_25 fl_8_127 rfl rfl rfl ?_
      rw [rdM_18]
      have hsp := hsr p hp0 (by omega)
      have hrc : ∀ w k, rc n src (l + 1) b p w k = qif (hdOk (src p)) (rl (rc n src l) l b (src p) 4 (p + 1) w k) (rwr p) := fun w k => by show (if p = n then rwr n else qif (hdOk (src p)) (rl (rc n src l) l b (src p) 4 (p + 1) w k) (rwr p)) = _; rw [if_neg h8]
      refine q_iald dX8_readsBlock_28 rfl (by (first | (unfold zR; omega) | (unfold zLR; omega) | omega | (simp only [zR, qup] at *; omega) | (simp [zR, qup]; omega) | (simp [zR, qup]; done))) (Nat.le_of_ble_eq_true rfl) ?_
      rw [rdM_o (by decide) (by decide), hsp.1]
      refine q_istore_n dX8_readsBlock_29 (Nat.le_of_ble_eq_true rfl) rfl ?_
      refine q_aload_n dX8_readsBlock_30 rfl ?_
      refine q_dup dX8_readsBlock_31 rfl ?_
      refine q_geti (j := 18) dX8_readsBlock_32 fl_8_127 rfl rfl rfl ?_
      rw [rdM_18]
      refine q_iconst dX8_readsBlock_35 ?_
      refine q_iadd dX8_readsBlock_36 ?_
      refine q_puti (j := 18) dX8_readsBlock_37 fl_8_127 rfl rfl rfl rfl rfl ?_
      rw [rdM_u18]
      refine q_iload_n dX8_readsBlock_40 rfl ?_
      refine q_if_ne (tgt := 52) dX8_readsBlock_41 rfl (by (first | (unfold zR; omega) | (unfold zLR; omega) | omega | (simp only [zR, qup] at *; omega) | (simp [zR, qup]; omega) | (simp [zR, qup]; done))) (fun h41 => ?_) (fun h41 => absurd h41 (by omega))
      refine q_iload_n dX8_readsBlock_52 rfl ?_
      refine q_S1 dX8_readsBlock_53 ml_8_136 md_X8_isHead (m_isHead hsp.2) rfl (by first | decide | omega) (Nat.le_of_ble_eq_true rfl) (Nat.le_of_ble_eq_true rfl) (qk_e ?_)
      refine q_if_ne (tgt := 70) dX8_readsBlock_56 rfl (by exact zb_R _) (fun h56 => ?_) (fun h56 => ?_)
      ·
        refine q_iconst dX8_readsBlock_70 ?_
        refine q_istore dX8_readsBlock_71 (Nat.le_of_ble_eq_true rfl) rfl ?_
        refine q_iconst dX8_readsBlock_73 ?_
        refine q_istore dX8_readsBlock_74 (Nat.le_of_ble_eq_true rfl) rfl ?_
        have hhd : hdOk (src p) := zb_1.1 (by have := zb_01 (hdOk (src p)); omega)
        have hpn : p < n := by omega
        generalize src p = v at hsp hrc hhd
        have hrc2 : ∀ w k, rc n src (l + 1) b p w k = rl (rc n src l) l b v 4 (p + 1) w k := fun w k => by rw [hrc, qif_t hhd]
        refine q_lp (α := Nat × (Int → Int) × Int × Int) (fun x => 5 - x.1) (fun x => x.1 ≤ 4 ∧ rbI M n src l b v p lo G x.1 x.2.1 x.2.2.1 x.2.2.2) (fun x => [some (.ref 37), some (.int (zI ((l + 1 : Nat) : Int))), some (.int (zI b)), some (.int (zI v)), some (.int (zI (lastB b v x.1))), some (.int (zI (x.1 : Int))), none, none]) (fun x => rdM M x.2.1 x.2.2.1 x.2.2.2) (0, G, p + 1, -1) rfl rfl ⟨by dsimp only; omega, Or.inl ⟨rfl, by dsimp only; omega, by dsimp only; omega, fun _ => 0, fun j j0 j1 => ⟨Int.le_refl 0, by show (0 : Int) < 256; decide⟩, by
            dsimp only
            rw [show p4 (l : Int) * ((0 : Nat) : Int) = 0 by rw [show ((0 : Nat) : Int) = 0 from rfl, Int.mul_zero], fov_0], fun w k => by
            dsimp only
            rw [show p4 (l : Int) * ((0 : Nat) : Int) = 0 by rw [show ((0 : Nat) : Int) = 0 from rfl, Int.mul_zero], fov_0]⟩⟩ (fun x hx ih2 => ?_)
        obtain ⟨i, G1, P, E⟩ := x
        obtain ⟨hi, hI⟩ := hx
        dsimp only at hi hI ih2 ⊢
        have hER : zR E := by rcases hI with h | h <;> (unfold zR; omega)
        refine q_iload dX8_readsBlock_76 rfl ?_
        refine q_iconst dX8_readsBlock_78 ?_
        refine q_icmp_ge (tgt := 173) dX8_readsBlock_79 rfl (by (first | (unfold zR; omega) | (unfold zLR; omega) | omega | (simp only [zR, qup] at *; omega) | (simp [zR, qup]; omega) | (simp [zR, qup]; done))) (by (first | (unfold zR; omega) | (unfold zLR; omega) | omega | (simp only [zR, qup] at *; omega) | (simp [zR, qup]; omega) | (simp [zR, qup]; done))) (fun h79 => ?_) (fun h79 => ?_)
        ·
          refine q_return dX8_readsBlock_173 ?_
          have hi4 : i = 4 := by omega
          subst hi4
          refine ⟨rfl, G1, P, E, rfl, ?_⟩
          have e4 : p4 (l : Int) * ((4 : Nat) : Int) = p4 ((l + 1 : Nat) : Int) := by rw [hp4]; omega
          rcases hI with ⟨e1, e2, e3, g, f1, f2, f3⟩ | ⟨e1, e2, e3, f1, f2, f3⟩
          · rw [e4] at f1 f2 f3
            refine Or.inl ⟨e1, e2, e3, g, ?_, ?_, fun w k => ?_⟩
            · rw [hlo2]; exact f1
            · rw [hlo2]; exact f2
            · rw [hrc2, f3, hlo2]; rfl
          · exact Or.inr ⟨e1, e2, e3, f1, f2, fun w k => by rw [hrc2, f3]⟩
        ·
          refine q_aload_n dX8_readsBlock_82 rfl ?_
          refine q_geti (j := 19) dX8_readsBlock_83 fl_8_124 rfl rfl rfl ?_
          rw [rdM_19]
          refine q_iconst dX8_readsBlock_86 ?_
          refine q_icmp_ne (tgt := 173) dX8_readsBlock_87 rfl (by (first | (unfold zR; omega) | (unfold zLR; omega) | omega | (simp only [zR, qup] at *; omega) | (simp [zR, qup]; omega) | (simp [zR, qup]; done))) (by (first | (unfold zR; omega) | (unfold zLR; omega) | omega | (simp only [zR, qup] at *; omega) | (simp [zR, qup]; omega) | (simp [zR, qup]; done))) (fun h87 => ?_) (fun h87 => ?_)
          ·
            refine q_return dX8_readsBlock_173 ?_
            refine ⟨rfl, G1, P, E, rfl, ?_⟩
            obtain ⟨e1, e2, e3, f1, f2, f3⟩ := hI.resolve_left (fun h => h87 h.1)
            exact Or.inr ⟨e1, e2, e3, f1, f2, fun w k => by rw [hrc2, f3]⟩
          ·
            obtain ⟨e1, hP0, hP1, g, hg, hG, hR⟩ := hI.resolve_right (fun h => h.1 h87)
            subst e1
            have hhc := hcode_in v i
            have hlt := lastT_in v i
            have hk := hkid i (by omega)
            have e1 : p4 (l : Int) * (4 * b + (i : Int)) = lo + p4 l * i := by rw [Int.mul_add, hlo]
            have hm : 0 ≤ p4 (l : Int) * (i : Int) := Int.mul_nonneg (by omega) (by omega)
            have hbi := blk_in hL (show (0 : Int) ≤ (l : Int) ∧ (l : Int) ≤ L by omega) hk
            have hls : lastB b v (i + 1) = if hcode v i = 2 then 4 * b + (i : Int) else lastB b v i := by
              unfold lastB
              rw [lastT]
              by_cases e : hcode v i = 2
              · rw [if_pos e, if_pos e, if_neg (by omega)]
              · rw [if_neg e, if_neg e]
            have hlq : lastT v i ≠ -1 → lastB b v i = 4 * b + lastT v i ∧ lo ≤ p4 (l : Int) * (4 * b + lastT v i) ∧ p4 (l : Int) * (4 * b + lastT v i) + p4 l ≤ lo + p4 l * i ∧ 0 ≤ 4 * b + lastT v i ∧ 4 * b + lastT v i < p4 ((L : Int) - l) := fun h => by
              have hlt2 := hlt.resolve_left h
              have h1 : 0 ≤ p4 (l : Int) * lastT v i := Int.mul_nonneg (by omega) hlt2.1
              have h2 : p4 (l : Int) * (lastT v i + 1) ≤ p4 l * i := Int.mul_le_mul_of_nonneg_left (by omega) (by omega)
              rw [Int.mul_add, Int.mul_one] at h2
              have hk2 := hkid (lastT v i).toNat (by omega)
              rw [show (((lastT v i).toNat : Nat) : Int) = lastT v i by omega] at hk2
              refine ⟨?_, ?_, ?_, hk2.1, hk2.2⟩
              · unfold lastB; rw [if_neg h]
              · rw [Int.mul_add, hlo]; omega
              · rw [Int.mul_add, hlo]; omega
            refine q_iconst dX8_readsBlock_90 ?_
            refine q_iload_n dX8_readsBlock_91 rfl ?_
            refine q_imul dX8_readsBlock_92 ?_
            refine q_iload dX8_readsBlock_93 rfl ?_
            refine q_iadd dX8_readsBlock_95 ?_
            refine q_istore dX8_readsBlock_96 (Nat.le_of_ble_eq_true rfl) rfl ?_
            refine q_iload_n dX8_readsBlock_98 rfl ?_
            refine q_iconst dX8_readsBlock_99 ?_
            refine q_iload dX8_readsBlock_100 rfl ?_
            refine q_imul dX8_readsBlock_102 ?_
            refine q_ishr dX8_readsBlock_103 ?_
            refine q_iconst dX8_readsBlock_104 ?_
            refine q_iand dX8_readsBlock_105 ?_
            rw [hcode_shr (by omega) (by omega)]
            refine q_istore dX8_readsBlock_106 (Nat.le_of_ble_eq_true rfl) rfl ?_
            refine q_iload dX8_readsBlock_108 rfl ?_
            refine q_iconst dX8_readsBlock_110 ?_
            refine q_icmp_ge (tgt := 132) dX8_readsBlock_111 rfl (by (first | (unfold zR; omega) | (unfold zLR; omega) | omega | (simp only [zR, qup] at *; omega) | (simp [zR, qup]; omega) | (simp [zR, qup]; done))) (by (first | (unfold zR; omega) | (unfold zLR; omega) | omega | (simp only [zR, qup] at *; omega) | (simp [zR, qup]; omega) | (simp [zR, qup]; done))) (fun h111 => ?_) (fun h111 => ?_)
            ·
              refine q_iload dX8_readsBlock_132 rfl ?_
              refine q_iconst dX8_readsBlock_134 ?_
              refine q_icmp_ne (tgt := 152) dX8_readsBlock_135 rfl (by (first | (unfold zR; omega) | (unfold zLR; omega) | omega | (simp only [zR, qup] at *; omega) | (simp [zR, qup]; omega) | (simp [zR, qup]; done))) (by (first | (unfold zR; omega) | (unfold zLR; omega) | omega | (simp only [zR, qup] at *; omega) | (simp [zR, qup]; omega) | (simp [zR, qup]; done))) (fun h135 => ?_) (fun h135 => ?_)
              ·
                refine q_aload_n dX8_readsBlock_152 rfl ?_
                refine q_iload_n dX8_readsBlock_153 rfl ?_
                refine q_iconst dX8_readsBlock_154 ?_
                refine q_isub dX8_readsBlock_155 ?_
                rw [show ((l + 1 : Nat) : Int) - 1 = l by omega]
                have hla : lastB b v i = -1 ∨ (0 ≤ lastB b v i ∧ lastB b v i < p4 ((L : Int) - l) ∧ lastB b v i ≠ 4 * b + (i : Int) ∧ ∀ j, p4 (l : Int) * lastB b v i ≤ j → j < p4 l * lastB b v i + p4 l → 0 ≤ G1 j ∧ G1 j < 256) := by
                  by_cases e : lastT v i = -1
                  · exact Or.inl (by unfold lastB; rw [if_pos e])
                  · have hlb := hlq e
                    have hlt2 := hlt.resolve_left e
                    right
                    rw [hlb.1]
                    exact ⟨hlb.2.2.2.1, hlb.2.2.2.2, by omega, fun j j0 j1 => by rw [hG, fov_at ⟨by omega, by omega⟩]; exact hg j (by omega) (by omega)⟩
                refine q_iload dX8_readsBlock_156 rfl ?_
                refine q_iload dX8_readsBlock_158 rfl ?_
                refine q_V3 dX8_readsBlock_160 ml_8_146 md_X8_readsQuarter (m_readsQuarter (L := L) (l := l) hL (by omega) hn (fun b p G a0 a1 a2 a3 => ih (by omega) b p G a0 a1 a2 a3) (4 * b + (i : Int)) P (lastB b v i) G1 hk.1 hk.2 (by omega) hP1 hla) rfl rfl rfl (by first | decide | omega) (Nat.le_of_ble_eq_true rfl) (Nat.le_of_ble_eq_true rfl) (qk_h (fun N160 hq160 => ?_))
                refine q_iload dX8_readsBlock_163 rfl ?_
                refine q_istore dX8_readsBlock_165 (Nat.le_of_ble_eq_true rfl) rfl ?_
                refine q_iinc dX8_readsBlock_167 rfl (Nat.le_of_ble_eq_true rfl) rfl ?_
                refine q_goto (tgt := 76) dX8_readsBlock_170 rfl ?_
                obtain ⟨G2, P2, E2, rfl, hQ⟩ := hq160
                have hc2 : hcode v i = 2 := by omega
                have hR2 : ∀ w k, rl (rc n src l) l b v 4 (p + 1) w k = rc n src l (4 * b + i) P (fov lo (p4 l * i) g w) (fun p' w' => qif (bad w' l (4 * b + i) (lastB b v i)) (rwr (p' - 1)) (rl (rc n src l) l b v (4 - (i + 1)) p' w' k)) := fun w k => by rw [hR, rl_i _ _ _ _ (by omega), if_neg (by omega), if_neg (by omega)]
                have hbad : ∀ (h w : Int → Int), bad (fov (p4 l * (4 * b + (i : Int))) (p4 l) h (fov lo (p4 l * i) g w)) l (4 * b + i) (lastB b v i) ↔ bad (fov (p4 l * (4 * b + (i : Int))) (p4 l) h (fov lo (p4 l * i) g G)) l (4 * b + i) (lastB b v i) := fun h w => by
                  rw [e1, fov_ext hm (by omega), fov_ext hm (by omega)]
                  refine badb_c (fun j j0 j1 => ?_) (fun hn1 j j0 j1 => ?_)
                  · exact fov_w (by omega)
                  · have hlb := hlq (fun e => hn1 (by unfold lastB; rw [if_pos e]))
                    rw [hlb.1]
                    exact fov_w (by omega)
                refine q_wk _ ?_ (ih2 (i + 1, G2, P2, E2) _ _ ⟨by dsimp only; omega, ?_⟩ (by dsimp only; omega) rfl rfl)
                · rw [hls, if_pos hc2]
                  simp only [wkB]
                  (repeat (first | exact rfl | exact trivial | refine ⟨rfl, ?_⟩))
                · dsimp only
                  rcases hQ with ⟨q1, q2, q3, h, q4, q5, q6, q7⟩ | ⟨q1, q2, q3, q4, q5, q6⟩
                  · subst q1
                    rw [q5, hG] at q6 ⊢
                    refine rbI_up hlo hg (fun j j0 j1 => q4 j (by omega) (by omega)) (by omega) q3 (fun w k => ?_)
                    rw [hR2, q7, qif_f (fun u => q6 ((hbad h w).1 u))]
                  · refine Or.inr ⟨q1, q2, q3, q4, q5, fun w k => ?_⟩
                    rcases q6 with q6 | ⟨h, q7, q8, q9⟩
                    · rw [hR2, q6]
                    · rw [hG] at q8
                      rw [hR2, q9, qif_t ((hbad h w).2 q8), q7]
              ·
                refine q_aload_n dX8_readsBlock_138 rfl ?_
                refine q_iload_n dX8_readsBlock_139 rfl ?_
                refine q_iconst dX8_readsBlock_140 ?_
                refine q_isub dX8_readsBlock_141 ?_
                rw [show ((l + 1 : Nat) : Int) - 1 = l by omega]
                have hln := hhd i (by omega) h135
                have hlb := hlq hln
                rw [hlb.1]
                refine q_iload dX8_readsBlock_142 rfl ?_
                refine q_iload dX8_readsBlock_144 rfl ?_
                refine q_V3 dX8_readsBlock_146 ml_8_143 md_X8_copiesBlock (m_copiesBlock (L := L) hL (by omega) ⟨hlb.2.2.2.1, hlb.2.2.2.2⟩ hk) rfl rfl rfl (by first | decide | omega) (Nat.le_of_ble_eq_true rfl) (Nat.le_of_ble_eq_true rfl) (qk_v ?_)
                refine q_goto (tgt := 167) dX8_readsBlock_149 rfl ?_
                refine q_iinc dX8_readsBlock_167 rfl (Nat.le_of_ble_eq_true rfl) rfl ?_
                refine q_goto (tgt := 76) dX8_readsBlock_170 rfl ?_
                rw [rdM_row, rdM_42]
                refine q_wk _ ?_ (ih2 (i + 1, fcpy G1 (p4 l * (4 * b + lastT v i)) (p4 l * (4 * b + (i : Int))) (p4 l), P, -1) _ _ ⟨by dsimp only; omega, ?_⟩ (by dsimp only; omega) rfl rfl)
                · rw [hls, if_neg (by omega), hlb.1]
                  simp only [wkB]
                  (repeat (first | exact rfl | exact trivial | refine ⟨rfl, ?_⟩))
                · dsimp only
                  have hcp : ∀ w, fcpy (fov lo (p4 l * i) g w) (p4 l * (4 * b + lastT v i)) (p4 l * (4 * b + (i : Int))) (p4 l) = fov (p4 l * (4 * b + (i : Int))) (p4 l) (fun j => g (p4 l * (4 * b + lastT v i) + (j - p4 l * (4 * b + (i : Int))))) (fov lo (p4 l * i) g w) := fun w => by
                    rw [fcpy_fov]
                    refine fov_c (fun j j0 j1 => ?_)
                    rw [fov_at (by omega)]
                  rw [hG, hcp]
                  refine rbI_up hlo hg (fun j j0 j1 => hg _ (by omega) (by omega)) hP0 hP1 (fun w k => ?_)
                  rw [hR, rl_i _ _ _ _ (by omega), if_neg (by omega), if_pos h135, hcp]
            ·
              refine q_aload_n dX8_readsBlock_114 rfl ?_
              refine q_iload_n dX8_readsBlock_115 rfl ?_
              refine q_iconst dX8_readsBlock_116 ?_
              refine q_isub dX8_readsBlock_117 ?_
              rw [show ((l + 1 : Nat) : Int) - 1 = l by omega]
              refine q_iload dX8_readsBlock_118 rfl ?_
              refine q_sipush dX8_readsBlock_120 rfl ?_
              refine q_iload dX8_readsBlock_123 rfl ?_
              refine q_imul dX8_readsBlock_125 ?_
              refine q_V3 dX8_readsBlock_126 ml_8_139 md_X8_makesAll (m_makesAll (L := L) (v := 255 * hcode v i) hL (by omega) hk) rfl rfl rfl (by first | decide | omega) (Nat.le_of_ble_eq_true rfl) (Nat.le_of_ble_eq_true rfl) (qk_v ?_)
              refine q_goto (tgt := 167) dX8_readsBlock_129 rfl ?_
              refine q_iinc dX8_readsBlock_167 rfl (Nat.le_of_ble_eq_true rfl) rfl ?_
              refine q_goto (tgt := 76) dX8_readsBlock_170 rfl ?_
              rw [rdM_row, rdM_42]
              refine q_wk _ ?_ (ih2 (i + 1, fset G1 (p4 l * (4 * b + (i : Int))) (p4 l) (255 * hcode v i), P, -1) _ _ ⟨by dsimp only; omega, ?_⟩ (by dsimp only; omega) rfl rfl)
              · rw [hls, if_neg (by omega)]
                simp only [wkB]
                (repeat (first | exact rfl | exact trivial | refine ⟨rfl, ?_⟩))
              · dsimp only
                rw [hG, fset_fov]
                refine rbI_up hlo hg (fun j j0 j1 => by omega) hP0 hP1 (fun w k => ?_)
                rw [hR, rl_i _ _ _ _ (by omega), if_pos h111, fset_fov]
      ·
        refine q_aload_n dX8_readsBlock_59 rfl ?_
        refine q_aload_n dX8_readsBlock_60 rfl ?_
        refine q_geti (j := 18) dX8_readsBlock_61 fl_8_127 rfl rfl rfl ?_
        rw [rdM_18]
        refine q_iconst dX8_readsBlock_64 ?_
        refine q_isub dX8_readsBlock_65 ?_
        refine q_V1 dX8_readsBlock_66 ml_8_133 md_X8_isWrongAt (m_isWrongAt (by (first | (unfold zR; omega) | (unfold zLR; omega) | omega | (simp only [zR, qup] at *; omega) | (simp [zR, qup]; omega) | (simp [zR, qup]; done)))) rfl rfl rfl (by first | decide | omega) (Nat.le_of_ble_eq_true rfl) (Nat.le_of_ble_eq_true rfl) (qk_v ?_)
        refine q_return dX8_readsBlock_69 ?_
        exact ⟨rfl, G, p + 1, p, by rw [if_pos rfl, show p + 1 - 1 = p by omega], Or.inr ⟨by omega, hp0, hp1, by omega, by omega, fun w k => by rw [hrc, qif_f (zb_0.1 h56)]⟩⟩
    ·
      refine q_aload_n dX8_readsBlock_11 rfl ?_
      refine q_aload_n dX8_readsBlock_12 rfl ?_
      refine q_geti (j := 18) dX8_readsBlock_13 fl_8_127 rfl rfl rfl ?_
      rw [rdM_18]
      refine q_V1 dX8_readsBlock_16 ml_8_133 md_X8_isWrongAt (m_isWrongAt (by (first | (unfold zR; omega) | (unfold zLR; omega) | omega | (simp only [zR, qup] at *; omega) | (simp [zR, qup]; omega) | (simp [zR, qup]; done)))) rfl rfl rfl (by first | decide | omega) (Nat.le_of_ble_eq_true rfl) (Nat.le_of_ble_eq_true rfl) (qk_v ?_)
      refine q_return dX8_readsBlock_19 ?_
      exact ⟨rfl, G, p, p, by rw [if_pos rfl], Or.inr ⟨by omega, hp0, hp1, hp0, hp1, fun w k => by show (if p = n then rwr n else qif (hdOk (src p)) (rl (rc n src l) l b (src p) 4 (p + 1) w k) (rwr p)) = _; rw [if_pos h8, h8]⟩⟩
end MRB


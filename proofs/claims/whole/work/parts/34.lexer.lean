/-! Tokens of the bytes I, n of them: where one that is looked for from p on begins, ends, its sort, its value. -/
def skp (P : Int → Bool) (I : Int → Int) (p : Int) : Nat → Int
  | 0 => p
  | k + 1 => if P (I p) = true then skp P I (p + 1) k else p
theorem skp_in {P : Int → Bool} {I : Int → Int} : ∀ (k : Nat) (p : Int), p ≤ skp P I p k ∧ skp P I p k ≤ p + k := by
  intro k
  induction k with
  | zero => intro p; simp [skp]
  | succ k ih =>
    intro p
    rw [skp]
    have := ih (p + 1)
    by_cases h : P (I p) = true
    · rw [if_pos h]; omega
    · rw [if_neg h]; omega
theorem skp_no {P : Int → Bool} {I : Int → Int} : ∀ (k : Nat) (p : Int), skp P I p k < p + k → ¬ P (I (skp P I p k)) = true := by
  intro k
  induction k with
  | zero => intro p h; simp [skp] at h
  | succ k ih =>
    intro p h
    rw [skp] at h ⊢
    by_cases g : P (I p) = true
    · rw [if_pos g] at h ⊢; exact ih (p + 1) (by omega)
    · rw [if_neg g] at h ⊢; exact g
theorem skp_all {P : Int → Bool} {I : Int → Int} : ∀ (k : Nat) (p j : Int), p ≤ j → j < skp P I p k → P (I j) = true := by
  intro k
  induction k with
  | zero => intro p j h1 h2; simp [skp] at h2; omega
  | succ k ih =>
    intro p j h1 h2
    rw [skp] at h2
    by_cases g : P (I p) = true
    · rw [if_pos g] at h2
      by_cases e : j = p
      · rw [e]; exact g
      · exact ih (p + 1) j (by omega) h2
    · rw [if_neg g] at h2; omega
theorem skp_go {P : Int → Bool} {I : Int → Int} {n p : Int} (hp : p < n) (h : P (I p) = true) : skp P I p (n - p).toNat = skp P I (p + 1) (n - (p + 1)).toNat := by
  rw [show (n - p).toNat = (n - (p + 1)).toNat + 1 by omega, skp, if_pos h]
theorem skp_end {P : Int → Bool} {I : Int → Int} {n p : Int} (hp : n ≤ p) : skp P I p (n - p).toNat = p := by
  rw [show (n - p).toNat = 0 by omega, skp]
theorem skp_st {P : Int → Bool} {I : Int → Int} {n p : Int} (hp : p < n) (h : ¬ P (I p) = true) : skp P I p (n - p).toNat = p := by
  rw [show (n - p).toNat = (n - (p + 1)).toNat + 1 by omega, skp, if_neg h]
def isBl (c : Int) : Bool := decide (c = 32)
def isLt (c : Int) : Bool := decide (97 ≤ c ∧ c ≤ 122)
def isDg (c : Int) : Bool := decide (48 ≤ c ∧ c ≤ 57)
theorem isBl_i {c : Int} : isBl c = true ↔ c = 32 := by unfold isBl; simp
theorem isLt_i {c : Int} : isLt c = true ↔ 97 ≤ c ∧ c ≤ 122 := by unfold isLt; simp
theorem isDg_i {c : Int} : isDg c = true ↔ 48 ≤ c ∧ c ≤ 57 := by unfold isDg; simp
def wc (I : Int → Int) (s : Int) : Nat → Int
  | 0 => 0
  | k + 1 => zor (zshl (wc I s k) 5) (I (s + k) - 97 + 1)
def nc (I : Int → Int) (s : Int) : Nat → Int
  | 0 => 0
  | k + 1 => 10 * nc I s k + I (s + k) - 48
def tS (I : Int → Int) (n p : Int) : Int := skp isBl I p (n - p).toNat
def tE (I : Int → Int) (n p : Int) : Int := if n ≤ tS I n p then tS I n p else if isLt (I (tS I n p)) = true then skp isLt I (tS I n p) (n - tS I n p).toNat else if isDg (I (tS I n p)) = true then skp isDg I (tS I n p) (n - tS I n p).toNat else tS I n p + 1
def tK (I : Int → Int) (n p : Int) : Int := if n ≤ tS I n p then 0 else if isLt (I (tS I n p)) = true then (if tE I n p - tS I n p ≤ 6 then 1 else 4) else if isDg (I (tS I n p)) = true then (if tE I n p - tS I n p ≤ 4 then 2 else 4) else if I (tS I n p) = 59 then 3 else 4
def tV (I : Int → Int) (n p : Int) : Int := if n ≤ tS I n p then 0 else if isLt (I (tS I n p)) = true then wc I (tS I n p) (tE I n p - tS I n p).toNat else if isDg (I (tS I n p)) = true then nc I (tS I n p) (tE I n p - tS I n p).toNat else 0
theorem tS_in {I : Int → Int} {n p : Int} (hp : p ≤ n) : p ≤ tS I n p ∧ tS I n p ≤ n := by
  have := skp_in (P := isBl) (I := I) (n - p).toNat p
  unfold tS
  omega
theorem tE_in {I : Int → Int} {n p : Int} (hp : p ≤ n) : tS I n p ≤ tE I n p ∧ tE I n p ≤ n ∧ (tS I n p < n → tS I n p < tE I n p) := by
  have h := tS_in (I := I) hp
  unfold tE
  by_cases h0 : n ≤ tS I n p
  · rw [if_pos h0]; omega
  · rw [if_neg h0]
    by_cases h1 : isLt (I (tS I n p)) = true
    · rw [if_pos h1, skp_go (by omega) h1]
      have := skp_in (P := isLt) (I := I) (n - (tS I n p + 1)).toNat (tS I n p + 1)
      omega
    · rw [if_neg h1]
      by_cases h2 : isDg (I (tS I n p)) = true
      · rw [if_pos h2, skp_go (by omega) h2]
        have := skp_in (P := isDg) (I := I) (n - (tS I n p + 1)).toNat (tS I n p + 1)
        omega
      · rw [if_neg h2]; omega
theorem tK_in (I : Int → Int) (n p : Int) : 0 ≤ tK I n p ∧ tK I n p ≤ 4 := by
  unfold tK
  by_cases h0 : n ≤ tS I n p
  · rw [if_pos h0]; omega
  · rw [if_neg h0]
    by_cases h1 : isLt (I (tS I n p)) = true
    · rw [if_pos h1]
      by_cases h2 : tE I n p - tS I n p ≤ 6
      · rw [if_pos h2]; omega
      · rw [if_neg h2]; omega
    · rw [if_neg h1]
      by_cases h2 : isDg (I (tS I n p)) = true
      · rw [if_pos h2]
        by_cases h3 : tE I n p - tS I n p ≤ 4
        · rw [if_pos h3]; omega
        · rw [if_neg h3]; omega
      · rw [if_neg h2]
        by_cases h3 : I (tS I n p) = 59
        · rw [if_pos h3]; omega
        · rw [if_neg h3]; omega
theorem tK_0 {I : Int → Int} {n p : Int} : tK I n p = 0 ↔ n ≤ tS I n p := by
  constructor
  · intro h
    unfold tK at h
    by_cases h0 : n ≤ tS I n p
    · exact h0
    · rw [if_neg h0] at h
      by_cases h1 : isLt (I (tS I n p)) = true
      · rw [if_pos h1] at h
        by_cases h2 : tE I n p - tS I n p ≤ 6
        · rw [if_pos h2] at h; omega
        · rw [if_neg h2] at h; omega
      · rw [if_neg h1] at h
        by_cases h2 : isDg (I (tS I n p)) = true
        · rw [if_pos h2] at h
          by_cases h3 : tE I n p - tS I n p ≤ 4
          · rw [if_pos h3] at h; omega
          · rw [if_neg h3] at h; omega
        · rw [if_neg h2] at h
          by_cases h3 : I (tS I n p) = 59
          · rw [if_pos h3] at h; omega
          · rw [if_neg h3] at h; omega
  · intro h
    unfold tK
    rw [if_pos h]
/-- the parser's token -/
def qlx (M : qM) (a t s v : Int) : qM := fun o k => if o = 25 ∧ k = 5 then a else if o = 25 ∧ k = 6 then t else if o = 25 ∧ k = 7 then s else if o = 25 ∧ k = 8 then v else M o k
section LX
variable {M : qM} {a t s v z : Int}
theorem qlx_id (M : qM) : M = qlx M (M 25 5) (M 25 6) (M 25 7) (M 25 8) := by
  funext o k
  simp only [qlx]
  by_cases h : o = 25
  · subst h
    by_cases h5 : k = 5
    · subst h5; simp
    · by_cases h6 : k = 6
      · subst h6; simp
      · by_cases h7 : k = 7
        · subst h7; simp
        · by_cases h8 : k = 8
          · subst h8; simp
          · simp [*]
  · simp [h]
theorem qlx_5 : qlx M a t s v 25 5 = a := by simp [qlx]
theorem qlx_6 : qlx M a t s v 25 6 = t := by simp [qlx]
theorem qlx_7 : qlx M a t s v 25 7 = s := by simp [qlx]
theorem qlx_8 : qlx M a t s v 25 8 = v := by simp [qlx]
theorem qlx_4 : qlx M a t s v 25 4 = M 25 4 := by simp [qlx]
theorem qlx_o {o : Nat} {k : Int} (h : o ≠ 25) : qlx M a t s v o k = M o k := by simp [qlx, h]
theorem qlx_f {k : Int} (h : k < 5 ∨ 8 < k) : qlx M a t s v 25 k = M 25 k := by
  simp only [qlx]
  rw [if_neg (by omega), if_neg (by omega), if_neg (by omega), if_neg (by omega)]
theorem qlx_u5 : qup (qlx M a t s v) 25 5 z = qlx M z t s v := by
  funext o k
  simp only [qup, qlx]
  by_cases h : o = 25 ∧ k = 5
  · simp [h]
  · simp [h]
theorem qlx_u6 : qup (qlx M a t s v) 25 6 z = qlx M a z s v := by
  funext o k
  simp only [qup, qlx]
  by_cases h : o = 25 ∧ k = 6
  · simp [h]
  · simp [h]
theorem qlx_u7 : qup (qlx M a t s v) 25 7 z = qlx M a t z v := by
  funext o k
  simp only [qup, qlx]
  by_cases h : o = 25 ∧ k = 7
  · simp [h]
  · simp [h]
theorem qlx_u8 : qup (qlx M a t s v) 25 8 z = qlx M a t s z := by
  funext o k
  simp only [qup, qlx]
  by_cases h : o = 25 ∧ k = 8
  · simp [h]
  · simp [h]
theorem qlx_qlx {a' t' s' v' : Int} : qlx (qlx M a t s v) a' t' s' v' = qlx M a' t' s' v' := by
  funext o k
  simp only [qlx]
  by_cases h5 : o = 25 ∧ k = 5
  · simp only [if_pos h5]
  · by_cases h6 : o = 25 ∧ k = 6
    · simp only [if_neg h5, if_pos h6]
    · by_cases h7 : o = 25 ∧ k = 7
      · simp only [if_neg h5, if_neg h6, if_pos h7]
      · by_cases h8 : o = 25 ∧ k = 8
        · simp only [if_neg h5, if_neg h6, if_neg h7, if_pos h8]
        · simp only [if_neg h5, if_neg h6, if_neg h7, if_neg h8]
end LX
/-- the bytes I lie in the input buffer -/
def inB (M : qM) (I : Int → Int) (n : Int) : Prop := 0 ≤ n ∧ n ≤ M 1 1 ∧ M 1 1 ≤ 700 ∧ ∀ i, 0 ≤ i → i < n → M 2 i = I i ∧ 0 ≤ I i ∧ I i < 256
theorem inB_g {M : qM} {I : Int → Int} {n a t s v i : Int} (h : inB M I n) (hi : 0 ≤ i ∧ i < n) : bgetV (qlx M a t s v) 1 2 i = I i := by
  unfold bgetV
  rw [qlx_o (by decide), qlx_o (by decide), if_pos (by have := h.2.1; omega)]
  exact (h.2.2.2 i hi.1 hi.2).1
set_option maxHeartbeats 1000000 in
theorem c_isLetter {c : Int} {M : qM} (hc : zR c) : qCt mX3_isLetter 0 0 [.int (zI c)] M (qpe (zb (isLt c = true)) M) := by
  refine q_intro (own := 3) (L := [some (.int (zI c))]) md_X3_isLetter rfl rfl rfl (Nat.le_of_ble_eq_true rfl) (fun X => ?_)
  refine q_iload_n dX3_isLetter_0 rfl ?_
  refine q_bipush dX3_isLetter_1 rfl ?_
  refine q_icmp_lt (tgt := 16) dX3_isLetter_3 rfl (by exact hc) (by (first | (unfold zR; omega) | (unfold zLR; omega) | omega | (simp only [zR, qup] at *; omega) | (simp [zR, qup]; omega) | (simp [zR, qup]; done))) (fun h3 => ?_) (fun h3 => ?_)
  ·
    refine q_iconst dX3_isLetter_16 ?_
    refine q_zreturn (by first | exact Or.inl rfl | exact Or.inr rfl) dX3_isLetter_17 ?_
    exact ⟨by rw [zb_f (fun q => by have := isLt_i.mp q; omega)], rfl⟩
  ·
    refine q_iload_n dX3_isLetter_6 rfl ?_
    refine q_bipush dX3_isLetter_7 rfl ?_
    refine q_icmp_gt (tgt := 16) dX3_isLetter_9 rfl (by exact hc) (by (first | (unfold zR; omega) | (unfold zLR; omega) | omega | (simp only [zR, qup] at *; omega) | (simp [zR, qup]; omega) | (simp [zR, qup]; done))) (fun h9 => ?_) (fun h9 => ?_)
    ·
      refine q_iconst dX3_isLetter_16 ?_
      refine q_zreturn (by first | exact Or.inl rfl | exact Or.inr rfl) dX3_isLetter_17 ?_
      exact ⟨by rw [zb_f (fun q => by have := isLt_i.mp q; omega)], rfl⟩
    ·
      refine q_iconst dX3_isLetter_12 ?_
      refine q_goto (tgt := 17) dX3_isLetter_13 rfl ?_
      refine q_zreturn (by first | exact Or.inl rfl | exact Or.inr rfl) dX3_isLetter_17 ?_
      exact ⟨by rw [zb_t (isLt_i.mpr ⟨h3, h9⟩)], rfl⟩
set_option maxHeartbeats 1000000 in
theorem c_isDigit {c : Int} {M : qM} (hc : zR c) : qCt mX3_isDigit 0 0 [.int (zI c)] M (qpe (zb (isDg c = true)) M) := by
  refine q_intro (own := 3) (L := [some (.int (zI c))]) md_X3_isDigit rfl rfl rfl (Nat.le_of_ble_eq_true rfl) (fun X => ?_)
  refine q_iload_n dX3_isDigit_0 rfl ?_
  refine q_bipush dX3_isDigit_1 rfl ?_
  refine q_icmp_lt (tgt := 16) dX3_isDigit_3 rfl (by exact hc) (by (first | (unfold zR; omega) | (unfold zLR; omega) | omega | (simp only [zR, qup] at *; omega) | (simp [zR, qup]; omega) | (simp [zR, qup]; done))) (fun h3 => ?_) (fun h3 => ?_)
  ·
    refine q_iconst dX3_isDigit_16 ?_
    refine q_zreturn (by first | exact Or.inl rfl | exact Or.inr rfl) dX3_isDigit_17 ?_
    exact ⟨by rw [zb_f (fun q => by have := isDg_i.mp q; omega)], rfl⟩
  ·
    refine q_iload_n dX3_isDigit_6 rfl ?_
    refine q_bipush dX3_isDigit_7 rfl ?_
    refine q_icmp_gt (tgt := 16) dX3_isDigit_9 rfl (by exact hc) (by (first | (unfold zR; omega) | (unfold zLR; omega) | omega | (simp only [zR, qup] at *; omega) | (simp [zR, qup]; omega) | (simp [zR, qup]; done))) (fun h9 => ?_) (fun h9 => ?_)
    ·
      refine q_iconst dX3_isDigit_16 ?_
      refine q_zreturn (by first | exact Or.inl rfl | exact Or.inr rfl) dX3_isDigit_17 ?_
      exact ⟨by rw [zb_f (fun q => by have := isDg_i.mp q; omega)], rfl⟩
    ·
      refine q_iconst dX3_isDigit_12 ?_
      refine q_goto (tgt := 17) dX3_isDigit_13 rfl ?_
      refine q_zreturn (by first | exact Or.inl rfl | exact Or.inr rfl) dX3_isDigit_17 ?_
      exact ⟨by rw [zb_t (isDg_i.mpr ⟨h3, h9⟩)], rfl⟩
set_option maxHeartbeats 1000000 in
theorem c_withLetter {v c : Int} {M : qM} : qCt mX3_withLetter 0 0 [.int (zI v), .int (zI c)] M (qpe (zor (zshl v 5) (c - 97 + 1)) M) := by
  refine q_intro (own := 3) (L := [some (.int (zI v)), some (.int (zI c))]) md_X3_withLetter rfl rfl rfl (Nat.le_of_ble_eq_true rfl) (fun X => ?_)
  refine q_iload_n dX3_withLetter_0 rfl ?_
  refine q_iconst dX3_withLetter_1 ?_
  refine q_ishl dX3_withLetter_2 ?_
  refine q_iload_n dX3_withLetter_3 rfl ?_
  refine q_bipush dX3_withLetter_4 rfl ?_
  refine q_isub dX3_withLetter_6 ?_
  refine q_iconst dX3_withLetter_7 ?_
  refine q_iadd dX3_withLetter_8 ?_
  refine q_ior dX3_withLetter_9 ?_
  refine q_ireturn dX3_withLetter_10 ?_
  exact ⟨rfl, rfl⟩
set_option maxHeartbeats 4000000 in
theorem adv_40 {X : qX} {M : qM} {I : Int → Int} {n p a t0 s0 v0 : Int} (hB : inB M I n) (hend : M 25 4 = n) (ha : tS I n p = a) (ha2 : 0 ≤ a ∧ a ≤ n) : QW X (3, cX3_advance, 2, none, 0, 1) (qpv (qlx M (tE I n p) (tK I n p) (tS I n p) (tV I n p))) 0 40 [some (.ref 25), none] [] (qlx M a t0 s0 v0) := by
  have hn := hB.1
  have hl1 := hB.2.1
  have hl2 := hB.2.2.1
  have ho : ∀ {a t s v : Int}, 0 ≤ qlx M a t s v 1 1 ∧ qlx M a t s v 1 1 ≤ ((700 : Nat) : Int) := fun {a t s v} => by rw [qlx_o (by decide)]; omega
  have ia : a < n → 0 ≤ I a ∧ I a < 256 := fun h => ⟨(hB.2.2.2 a ha2.1 h).2.1, (hB.2.2.2 a ha2.1 h).2.2⟩
  refine q_aload_n dX3_advance_40 rfl ?_
  refine q_aload_n dX3_advance_41 rfl ?_
  refine q_geti (j := 5) dX3_advance_42 fl_3_58 rfl rfl rfl ?_
  rw [qlx_5]
  refine q_puti (j := 7) dX3_advance_45 fl_3_55 rfl rfl rfl rfl rfl ?_
  rw [qlx_u7]
  refine q_aload_n dX3_advance_48 rfl ?_
  refine q_iconst dX3_advance_49 ?_
  refine q_puti (j := 8) dX3_advance_50 fl_3_61 rfl rfl rfl rfl rfl ?_
  rw [qlx_u8]
  refine q_aload_n dX3_advance_53 rfl ?_
  refine q_getr dX3_advance_54 fl_3_20 rfl rfl ?_
  refine q_aload_n dX3_advance_57 rfl ?_
  refine q_geti (j := 5) dX3_advance_58 fl_3_58 rfl rfl rfl ?_
  rw [qlx_5]
  refine q_V1 dX3_advance_61 ml_3_166 md_X1_get (c_bget (o := 1) (r := 2) (n := 700) rfl rfl (by omega) ho (by (first | (unfold zR; omega) | (unfold zLR; omega) | omega | (simp only [zR, qup] at *; omega) | (simp [zR, qup]; omega) | (simp [zR, qup]; done)))) rfl rfl rfl (by first | decide | omega) (Nat.le_of_ble_eq_true rfl) (Nat.le_of_ble_eq_true rfl) (qk_e ?_)
  refine q_istore_n dX3_advance_64 (Nat.le_of_ble_eq_true rfl) rfl ?_
  refine q_aload_n dX3_advance_65 rfl ?_
  refine q_geti (j := 5) dX3_advance_66 fl_3_58 rfl rfl rfl ?_
  rw [qlx_5]
  refine q_aload_n dX3_advance_69 rfl ?_
  refine q_geti (j := 4) dX3_advance_70 fl_3_145 rfl rfl rfl ?_
  rw [qlx_4, hend]
  refine q_icmp_lt (tgt := 84) dX3_advance_73 rfl (by (first | (unfold zR; omega) | (unfold zLR; omega) | omega | (simp only [zR, qup] at *; omega) | (simp [zR, qup]; omega) | (simp [zR, qup]; done))) (by (first | (unfold zR; omega) | (unfold zLR; omega) | omega | (simp only [zR, qup] at *; omega) | (simp [zR, qup]; omega) | (simp [zR, qup]; done))) (fun h73 => ?_) (fun h73 => ?_)
  rotate_left
  ·
    refine q_aload_n dX3_advance_76 rfl ?_
    refine q_iconst dX3_advance_77 ?_
    refine q_puti (j := 6) dX3_advance_78 fl_3_52 rfl rfl rfl rfl rfl ?_
    rw [qlx_u6]
    refine q_goto (tgt := 304) dX3_advance_81 rfl ?_
    refine q_return dX3_advance_304 ?_
    have e0 : n ≤ tS I n p := by omega
    exact ⟨rfl, by unfold tE tK tV; rw [if_pos e0, if_pos e0, if_pos e0, ha]⟩
  rw [inB_g hB ⟨ha2.1, h73⟩]
  have e0 : ¬ n ≤ tS I n p := by omega
  have hia := ia h73
  refine q_iload_n dX3_advance_84 rfl ?_
  refine q_S1 dX3_advance_85 ml_3_169 md_X3_isLetter (c_isLetter (by (first | (unfold zR; omega) | (unfold zLR; omega) | omega | (simp only [zR, qup] at *; omega) | (simp [zR, qup]; omega) | (simp [zR, qup]; done)))) rfl (by first | decide | omega) (Nat.le_of_ble_eq_true rfl) (Nat.le_of_ble_eq_true rfl) (qk_e ?_)
  refine q_if_eq (tgt := 180) dX3_advance_88 rfl (by have := zb_01 (isLt (I a) = true); unfold zR; omega) (fun h88 => ?_) (fun h88 => ?_)
  rotate_left
  ·
    have hL : isLt (I (tS I n p)) = true := by rw [ha]; exact zb_1.mp (by have := zb_01 (isLt (I a) = true); omega)
    have eE : tE I n p = skp isLt I a (n - a).toNat := by unfold tE; rw [if_neg e0, if_pos hL, ha]
    have eV : tV I n p = wc I a (tE I n p - a).toNat := by unfold tV; rw [if_neg e0, if_pos hL, ha]
    have eK : tK I n p = if tE I n p - a ≤ 6 then 1 else 4 := by unfold tK; rw [if_neg e0, if_pos hL, ha]
    refine q_wk [some (.ref 25), none] (by (simp only [wkB]; repeat (first | exact rfl | exact trivial | refine ⟨rfl, ?_⟩))) ?_
    refine q_lp (fun j : Nat => (n - a).toNat + 1 - j) (fun j => a + j ≤ n ∧ skp isLt I (a + j) (n - (a + j)).toNat = tE I n p) (fun _ => [some (.ref 25), none]) (fun j => qlx M (a + j) t0 a (wc I a j)) 0 rfl (by rw [show a + ((0 : Nat) : Int) = a by omega]; rfl) ⟨by omega, by rw [show a + ((0 : Nat) : Int) = a by omega, eE]⟩ (fun j hj ih => ?_)
    obtain ⟨hj1, hj2⟩ := hj
    refine q_aload_n dX3_advance_91 rfl ?_
    refine q_geti (j := 5) dX3_advance_92 fl_3_58 rfl rfl rfl ?_
    rw [qlx_5]
    refine q_aload_n dX3_advance_95 rfl ?_
    refine q_geti (j := 4) dX3_advance_96 fl_3_145 rfl rfl rfl ?_
    rw [qlx_4, hend]
    refine q_icmp_ge (tgt := 154) dX3_advance_99 rfl (by (first | (unfold zR; omega) | (unfold zLR; omega) | omega | (simp only [zR, qup] at *; omega) | (simp [zR, qup]; omega) | (simp [zR, qup]; done))) (by (first | (unfold zR; omega) | (unfold zLR; omega) | omega | (simp only [zR, qup] at *; omega) | (simp [zR, qup]; omega) | (simp [zR, qup]; done))) (fun h99 => ?_) (fun h99 => ?_)
    ·
      refine q_aload_n dX3_advance_154 rfl ?_
      refine q_aload_n dX3_advance_155 rfl ?_
      refine q_geti (j := 5) dX3_advance_156 fl_3_58 rfl rfl rfl ?_
      rw [qlx_5]
      refine q_aload_n dX3_advance_159 rfl ?_
      refine q_geti (j := 7) dX3_advance_160 fl_3_55 rfl rfl rfl ?_
      rw [qlx_7]
      refine q_isub dX3_advance_163 ?_
      refine q_bipush dX3_advance_164 rfl ?_
      refine q_icmp_gt (tgt := 173) dX3_advance_166 rfl (by (first | (unfold zR; omega) | (unfold zLR; omega) | omega | (simp only [zR, qup] at *; omega) | (simp [zR, qup]; omega) | (simp [zR, qup]; done))) (by (first | (unfold zR; omega) | (unfold zLR; omega) | omega | (simp only [zR, qup] at *; omega) | (simp [zR, qup]; omega) | (simp [zR, qup]; done))) (fun h166 => ?_) (fun h166 => ?_)
      ·
        refine q_iconst dX3_advance_173 ?_
        refine q_puti (j := 6) dX3_advance_174 fl_3_52 rfl rfl rfl rfl rfl ?_
        rw [qlx_u6]
        refine q_goto (tgt := 304) dX3_advance_177 rfl ?_
        refine q_return dX3_advance_304 ?_
        have ee : tE I n p = a + j := by rw [← hj2, skp_end h99]
        exact ⟨rfl, by rw [eK, eV, ee, ha, if_neg (by omega), show (a + (j : Int) - a).toNat = j by omega]⟩
      ·
        refine q_iconst dX3_advance_169 ?_
        refine q_goto (tgt := 174) dX3_advance_170 rfl ?_
        refine q_puti (j := 6) dX3_advance_174 fl_3_52 rfl rfl rfl rfl rfl ?_
        rw [qlx_u6]
        refine q_goto (tgt := 304) dX3_advance_177 rfl ?_
        refine q_return dX3_advance_304 ?_
        have ee : tE I n p = a + j := by rw [← hj2, skp_end h99]
        exact ⟨rfl, by rw [eK, eV, ee, ha, if_pos (by omega), show (a + (j : Int) - a).toNat = j by omega]⟩
    ·
      refine q_aload_n dX3_advance_102 rfl ?_
      refine q_getr dX3_advance_103 fl_3_20 rfl rfl ?_
      refine q_aload_n dX3_advance_106 rfl ?_
      refine q_geti (j := 5) dX3_advance_107 fl_3_58 rfl rfl rfl ?_
      rw [qlx_5]
      refine q_V1 dX3_advance_110 ml_3_166 md_X1_get (c_bget (o := 1) (r := 2) (n := 700) rfl rfl (by omega) ho (by (first | (unfold zR; omega) | (unfold zLR; omega) | omega | (simp only [zR, qup] at *; omega) | (simp [zR, qup]; omega) | (simp [zR, qup]; done)))) rfl rfl rfl (by first | decide | omega) (Nat.le_of_ble_eq_true rfl) (Nat.le_of_ble_eq_true rfl) (qk_e ?_)
      rw [inB_g hB (by omega)]
      have hij : 0 ≤ I (a + j) ∧ I (a + j) < 256 := ⟨(hB.2.2.2 _ (by omega) h99).2.1, (hB.2.2.2 _ (by omega) h99).2.2⟩
      refine q_S1 dX3_advance_113 ml_3_169 md_X3_isLetter (c_isLetter (by (first | (unfold zR; omega) | (unfold zLR; omega) | omega | (simp only [zR, qup] at *; omega) | (simp [zR, qup]; omega) | (simp [zR, qup]; done)))) rfl (by first | decide | omega) (Nat.le_of_ble_eq_true rfl) (Nat.le_of_ble_eq_true rfl) (qk_e ?_)
      refine q_if_eq (tgt := 154) dX3_advance_116 rfl (by have := zb_01 (isLt (I (a + j)) = true); unfold zR; omega) (fun h116 => ?_) (fun h116 => ?_)
      ·
        refine q_aload_n dX3_advance_154 rfl ?_
        refine q_aload_n dX3_advance_155 rfl ?_
        refine q_geti (j := 5) dX3_advance_156 fl_3_58 rfl rfl rfl ?_
        rw [qlx_5]
        refine q_aload_n dX3_advance_159 rfl ?_
        refine q_geti (j := 7) dX3_advance_160 fl_3_55 rfl rfl rfl ?_
        rw [qlx_7]
        refine q_isub dX3_advance_163 ?_
        refine q_bipush dX3_advance_164 rfl ?_
        refine q_icmp_gt (tgt := 173) dX3_advance_166 rfl (by (first | (unfold zR; omega) | (unfold zLR; omega) | omega | (simp only [zR, qup] at *; omega) | (simp [zR, qup]; omega) | (simp [zR, qup]; done))) (by (first | (unfold zR; omega) | (unfold zLR; omega) | omega | (simp only [zR, qup] at *; omega) | (simp [zR, qup]; omega) | (simp [zR, qup]; done))) (fun h166 => ?_) (fun h166 => ?_)
        ·
          refine q_iconst dX3_advance_173 ?_
          refine q_puti (j := 6) dX3_advance_174 fl_3_52 rfl rfl rfl rfl rfl ?_
          rw [qlx_u6]
          refine q_goto (tgt := 304) dX3_advance_177 rfl ?_
          refine q_return dX3_advance_304 ?_
          have ee : tE I n p = a + j := by rw [← hj2, skp_st h99 (zb_0.mp h116)]
          exact ⟨rfl, by rw [eK, eV, ee, ha, if_neg (by omega), show (a + (j : Int) - a).toNat = j by omega]⟩
        ·
          refine q_iconst dX3_advance_169 ?_
          refine q_goto (tgt := 174) dX3_advance_170 rfl ?_
          refine q_puti (j := 6) dX3_advance_174 fl_3_52 rfl rfl rfl rfl rfl ?_
          rw [qlx_u6]
          refine q_goto (tgt := 304) dX3_advance_177 rfl ?_
          refine q_return dX3_advance_304 ?_
          have ee : tE I n p = a + j := by rw [← hj2, skp_st h99 (zb_0.mp h116)]
          exact ⟨rfl, by rw [eK, eV, ee, ha, if_pos (by omega), show (a + (j : Int) - a).toNat = j by omega]⟩
      ·
        refine q_aload_n dX3_advance_119 rfl ?_
        refine q_aload_n dX3_advance_120 rfl ?_
        refine q_geti (j := 8) dX3_advance_121 fl_3_61 rfl rfl rfl ?_
        rw [qlx_8]
        refine q_aload_n dX3_advance_124 rfl ?_
        refine q_getr dX3_advance_125 fl_3_20 rfl rfl ?_
        refine q_aload_n dX3_advance_128 rfl ?_
        refine q_geti (j := 5) dX3_advance_129 fl_3_58 rfl rfl rfl ?_
        rw [qlx_5]
        refine q_V1 dX3_advance_132 ml_3_166 md_X1_get (c_bget (o := 1) (r := 2) (n := 700) rfl rfl (by omega) ho (by (first | (unfold zR; omega) | (unfold zLR; omega) | omega | (simp only [zR, qup] at *; omega) | (simp [zR, qup]; omega) | (simp [zR, qup]; done)))) rfl rfl rfl (by first | decide | omega) (Nat.le_of_ble_eq_true rfl) (Nat.le_of_ble_eq_true rfl) (qk_e ?_)
        rw [inB_g hB (by omega)]
        refine q_S2 dX3_advance_135 ml_3_163 md_X3_withLetter (c_withLetter) rfl (by first | decide | omega) (Nat.le_of_ble_eq_true rfl) (Nat.le_of_ble_eq_true rfl) (qk_e ?_)
        refine q_puti (j := 8) dX3_advance_138 fl_3_61 rfl rfl rfl rfl rfl ?_
        rw [qlx_u8]
        refine q_aload_n dX3_advance_141 rfl ?_
        refine q_dup dX3_advance_142 rfl ?_
        refine q_geti (j := 5) dX3_advance_143 fl_3_58 rfl rfl rfl ?_
        rw [qlx_5]
        refine q_iconst dX3_advance_146 ?_
        refine q_iadd dX3_advance_147 ?_
        refine q_puti (j := 5) dX3_advance_148 fl_3_58 rfl rfl rfl rfl rfl ?_
        rw [qlx_u5]
        refine q_goto (tgt := 91) dX3_advance_151 rfl ?_
        have g : isLt (I (a + j)) = true := zb_1.mp (by have := zb_01 (isLt (I (a + j)) = true); omega)
        refine ih (j + 1) _ _ ⟨by omega, ?_⟩ (by omega) rfl ?_
        · rw [← hj2, skp_go h99 g, show a + ((j + 1 : Nat) : Int) = a + j + 1 by omega]
        · rw [show a + ((j + 1 : Nat) : Int) = a + j + 1 by omega]; rfl
  have hL : ¬ isLt (I (tS I n p)) = true := by rw [ha]; exact zb_0.mp h88
  refine q_iload_n dX3_advance_180 rfl ?_
  refine q_S1 dX3_advance_181 ml_3_172 md_X3_isDigit (c_isDigit (by (first | (unfold zR; omega) | (unfold zLR; omega) | omega | (simp only [zR, qup] at *; omega) | (simp [zR, qup]; omega) | (simp [zR, qup]; done)))) rfl (by first | decide | omega) (Nat.le_of_ble_eq_true rfl) (Nat.le_of_ble_eq_true rfl) (qk_e ?_)
  refine q_if_eq (tgt := 279) dX3_advance_184 rfl (by have := zb_01 (isDg (I a) = true); unfold zR; omega) (fun h184 => ?_) (fun h184 => ?_)
  rotate_left
  ·
    have hD : isDg (I (tS I n p)) = true := by rw [ha]; exact zb_1.mp (by have := zb_01 (isDg (I a) = true); omega)
    have eE : tE I n p = skp isDg I a (n - a).toNat := by unfold tE; rw [if_neg e0, if_neg hL, if_pos hD, ha]
    have eV : tV I n p = nc I a (tE I n p - a).toNat := by unfold tV; rw [if_neg e0, if_neg hL, if_pos hD, ha]
    have eK : tK I n p = if tE I n p - a ≤ 4 then 2 else 4 := by unfold tK; rw [if_neg e0, if_neg hL, if_pos hD, ha]
    refine q_wk [some (.ref 25), none] (by (simp only [wkB]; repeat (first | exact rfl | exact trivial | refine ⟨rfl, ?_⟩))) ?_
    refine q_lp (fun j : Nat => (n - a).toNat + 1 - j) (fun j => a + j ≤ n ∧ skp isDg I (a + j) (n - (a + j)).toNat = tE I n p) (fun _ => [some (.ref 25), none]) (fun j => qlx M (a + j) t0 a (nc I a j)) 0 rfl (by rw [show a + ((0 : Nat) : Int) = a by omega]; rfl) ⟨by omega, by rw [show a + ((0 : Nat) : Int) = a by omega, eE]⟩ (fun j hj ih => ?_)
    obtain ⟨hj1, hj2⟩ := hj
    refine q_aload_n dX3_advance_187 rfl ?_
    refine q_geti (j := 5) dX3_advance_188 fl_3_58 rfl rfl rfl ?_
    rw [qlx_5]
    refine q_aload_n dX3_advance_191 rfl ?_
    refine q_geti (j := 4) dX3_advance_192 fl_3_145 rfl rfl rfl ?_
    rw [qlx_4, hend]
    refine q_icmp_ge (tgt := 254) dX3_advance_195 rfl (by (first | (unfold zR; omega) | (unfold zLR; omega) | omega | (simp only [zR, qup] at *; omega) | (simp [zR, qup]; omega) | (simp [zR, qup]; done))) (by (first | (unfold zR; omega) | (unfold zLR; omega) | omega | (simp only [zR, qup] at *; omega) | (simp [zR, qup]; omega) | (simp [zR, qup]; done))) (fun h195 => ?_) (fun h195 => ?_)
    ·
      refine q_aload_n dX3_advance_254 rfl ?_
      refine q_aload_n dX3_advance_255 rfl ?_
      refine q_geti (j := 5) dX3_advance_256 fl_3_58 rfl rfl rfl ?_
      rw [qlx_5]
      refine q_aload_n dX3_advance_259 rfl ?_
      refine q_geti (j := 7) dX3_advance_260 fl_3_55 rfl rfl rfl ?_
      rw [qlx_7]
      refine q_isub dX3_advance_263 ?_
      refine q_iconst dX3_advance_264 ?_
      refine q_icmp_gt (tgt := 272) dX3_advance_265 rfl (by (first | (unfold zR; omega) | (unfold zLR; omega) | omega | (simp only [zR, qup] at *; omega) | (simp [zR, qup]; omega) | (simp [zR, qup]; done))) (by (first | (unfold zR; omega) | (unfold zLR; omega) | omega | (simp only [zR, qup] at *; omega) | (simp [zR, qup]; omega) | (simp [zR, qup]; done))) (fun h265 => ?_) (fun h265 => ?_)
      ·
        refine q_iconst dX3_advance_272 ?_
        refine q_puti (j := 6) dX3_advance_273 fl_3_52 rfl rfl rfl rfl rfl ?_
        rw [qlx_u6]
        refine q_goto (tgt := 304) dX3_advance_276 rfl ?_
        refine q_return dX3_advance_304 ?_
        have ee : tE I n p = a + j := by rw [← hj2, skp_end h195]
        exact ⟨rfl, by rw [eK, eV, ee, ha, if_neg (by omega), show (a + (j : Int) - a).toNat = j by omega]⟩
      ·
        refine q_iconst dX3_advance_268 ?_
        refine q_goto (tgt := 273) dX3_advance_269 rfl ?_
        refine q_puti (j := 6) dX3_advance_273 fl_3_52 rfl rfl rfl rfl rfl ?_
        rw [qlx_u6]
        refine q_goto (tgt := 304) dX3_advance_276 rfl ?_
        refine q_return dX3_advance_304 ?_
        have ee : tE I n p = a + j := by rw [← hj2, skp_end h195]
        exact ⟨rfl, by rw [eK, eV, ee, ha, if_pos (by omega), show (a + (j : Int) - a).toNat = j by omega]⟩
    ·
      refine q_aload_n dX3_advance_198 rfl ?_
      refine q_getr dX3_advance_199 fl_3_20 rfl rfl ?_
      refine q_aload_n dX3_advance_202 rfl ?_
      refine q_geti (j := 5) dX3_advance_203 fl_3_58 rfl rfl rfl ?_
      rw [qlx_5]
      refine q_V1 dX3_advance_206 ml_3_166 md_X1_get (c_bget (o := 1) (r := 2) (n := 700) rfl rfl (by omega) ho (by (first | (unfold zR; omega) | (unfold zLR; omega) | omega | (simp only [zR, qup] at *; omega) | (simp [zR, qup]; omega) | (simp [zR, qup]; done)))) rfl rfl rfl (by first | decide | omega) (Nat.le_of_ble_eq_true rfl) (Nat.le_of_ble_eq_true rfl) (qk_e ?_)
      rw [inB_g hB (by omega)]
      have hij : 0 ≤ I (a + j) ∧ I (a + j) < 256 := ⟨(hB.2.2.2 _ (by omega) h195).2.1, (hB.2.2.2 _ (by omega) h195).2.2⟩
      refine q_S1 dX3_advance_209 ml_3_172 md_X3_isDigit (c_isDigit (by (first | (unfold zR; omega) | (unfold zLR; omega) | omega | (simp only [zR, qup] at *; omega) | (simp [zR, qup]; omega) | (simp [zR, qup]; done)))) rfl (by first | decide | omega) (Nat.le_of_ble_eq_true rfl) (Nat.le_of_ble_eq_true rfl) (qk_e ?_)
      refine q_if_eq (tgt := 254) dX3_advance_212 rfl (by have := zb_01 (isDg (I (a + j)) = true); unfold zR; omega) (fun h212 => ?_) (fun h212 => ?_)
      ·
        refine q_aload_n dX3_advance_254 rfl ?_
        refine q_aload_n dX3_advance_255 rfl ?_
        refine q_geti (j := 5) dX3_advance_256 fl_3_58 rfl rfl rfl ?_
        rw [qlx_5]
        refine q_aload_n dX3_advance_259 rfl ?_
        refine q_geti (j := 7) dX3_advance_260 fl_3_55 rfl rfl rfl ?_
        rw [qlx_7]
        refine q_isub dX3_advance_263 ?_
        refine q_iconst dX3_advance_264 ?_
        refine q_icmp_gt (tgt := 272) dX3_advance_265 rfl (by (first | (unfold zR; omega) | (unfold zLR; omega) | omega | (simp only [zR, qup] at *; omega) | (simp [zR, qup]; omega) | (simp [zR, qup]; done))) (by (first | (unfold zR; omega) | (unfold zLR; omega) | omega | (simp only [zR, qup] at *; omega) | (simp [zR, qup]; omega) | (simp [zR, qup]; done))) (fun h265 => ?_) (fun h265 => ?_)
        ·
          refine q_iconst dX3_advance_272 ?_
          refine q_puti (j := 6) dX3_advance_273 fl_3_52 rfl rfl rfl rfl rfl ?_
          rw [qlx_u6]
          refine q_goto (tgt := 304) dX3_advance_276 rfl ?_
          refine q_return dX3_advance_304 ?_
          have ee : tE I n p = a + j := by rw [← hj2, skp_st h195 (zb_0.mp h212)]
          exact ⟨rfl, by rw [eK, eV, ee, ha, if_neg (by omega), show (a + (j : Int) - a).toNat = j by omega]⟩
        ·
          refine q_iconst dX3_advance_268 ?_
          refine q_goto (tgt := 273) dX3_advance_269 rfl ?_
          refine q_puti (j := 6) dX3_advance_273 fl_3_52 rfl rfl rfl rfl rfl ?_
          rw [qlx_u6]
          refine q_goto (tgt := 304) dX3_advance_276 rfl ?_
          refine q_return dX3_advance_304 ?_
          have ee : tE I n p = a + j := by rw [← hj2, skp_st h195 (zb_0.mp h212)]
          exact ⟨rfl, by rw [eK, eV, ee, ha, if_pos (by omega), show (a + (j : Int) - a).toNat = j by omega]⟩
      ·
        refine q_aload_n dX3_advance_215 rfl ?_
        refine q_bipush dX3_advance_216 rfl ?_
        refine q_aload_n dX3_advance_218 rfl ?_
        refine q_geti (j := 8) dX3_advance_219 fl_3_61 rfl rfl rfl ?_
        rw [qlx_8]
        refine q_imul dX3_advance_222 ?_
        refine q_aload_n dX3_advance_223 rfl ?_
        refine q_getr dX3_advance_224 fl_3_20 rfl rfl ?_
        refine q_aload_n dX3_advance_227 rfl ?_
        refine q_geti (j := 5) dX3_advance_228 fl_3_58 rfl rfl rfl ?_
        rw [qlx_5]
        refine q_V1 dX3_advance_231 ml_3_166 md_X1_get (c_bget (o := 1) (r := 2) (n := 700) rfl rfl (by omega) ho (by (first | (unfold zR; omega) | (unfold zLR; omega) | omega | (simp only [zR, qup] at *; omega) | (simp [zR, qup]; omega) | (simp [zR, qup]; done)))) rfl rfl rfl (by first | decide | omega) (Nat.le_of_ble_eq_true rfl) (Nat.le_of_ble_eq_true rfl) (qk_e ?_)
        rw [inB_g hB (by omega)]
        refine q_iadd dX3_advance_234 ?_
        refine q_bipush dX3_advance_235 rfl ?_
        refine q_isub dX3_advance_237 ?_
        refine q_puti (j := 8) dX3_advance_238 fl_3_61 rfl rfl rfl rfl rfl ?_
        rw [qlx_u8]
        refine q_aload_n dX3_advance_241 rfl ?_
        refine q_dup dX3_advance_242 rfl ?_
        refine q_geti (j := 5) dX3_advance_243 fl_3_58 rfl rfl rfl ?_
        rw [qlx_5]
        refine q_iconst dX3_advance_246 ?_
        refine q_iadd dX3_advance_247 ?_
        refine q_puti (j := 5) dX3_advance_248 fl_3_58 rfl rfl rfl rfl rfl ?_
        rw [qlx_u5]
        refine q_goto (tgt := 187) dX3_advance_251 rfl ?_
        have g : isDg (I (a + j)) = true := zb_1.mp (by have := zb_01 (isDg (I (a + j)) = true); omega)
        refine ih (j + 1) _ _ ⟨by omega, ?_⟩ (by omega) rfl ?_
        · rw [← hj2, skp_go h195 g, show a + ((j + 1 : Nat) : Int) = a + j + 1 by omega]
        · rw [show a + ((j + 1 : Nat) : Int) = a + j + 1 by omega]; rfl
  have hD : ¬ isDg (I (tS I n p)) = true := by rw [ha]; exact zb_0.mp h184
  refine q_aload_n dX3_advance_279 rfl ?_
  refine q_iload_n dX3_advance_280 rfl ?_
  refine q_bipush dX3_advance_281 rfl ?_
  refine q_icmp_ne (tgt := 290) dX3_advance_283 rfl (by (first | (unfold zR; omega) | (unfold zLR; omega) | omega | (simp only [zR, qup] at *; omega) | (simp [zR, qup]; omega) | (simp [zR, qup]; done))) (by (first | (unfold zR; omega) | (unfold zLR; omega) | omega | (simp only [zR, qup] at *; omega) | (simp [zR, qup]; omega) | (simp [zR, qup]; done))) (fun h283 => ?_) (fun h283 => ?_)
  ·
    refine q_iconst dX3_advance_290 ?_
    refine q_puti (j := 6) dX3_advance_291 fl_3_52 rfl rfl rfl rfl rfl ?_
    rw [qlx_u6]
    refine q_aload_n dX3_advance_294 rfl ?_
    refine q_dup dX3_advance_295 rfl ?_
    refine q_geti (j := 5) dX3_advance_296 fl_3_58 rfl rfl rfl ?_
    rw [qlx_5]
    refine q_iconst dX3_advance_299 ?_
    refine q_iadd dX3_advance_300 ?_
    refine q_puti (j := 5) dX3_advance_301 fl_3_58 rfl rfl rfl rfl rfl ?_
    rw [qlx_u5]
    refine q_return dX3_advance_304 ?_
    exact ⟨rfl, by unfold tE tK tV; rw [if_neg e0, if_neg e0, if_neg e0, if_neg hL, if_neg hL, if_neg hL, if_neg hD, if_neg hD, if_neg hD, ha, if_neg h283]⟩
  ·
    refine q_iconst dX3_advance_286 ?_
    refine q_goto (tgt := 291) dX3_advance_287 rfl ?_
    refine q_puti (j := 6) dX3_advance_291 fl_3_52 rfl rfl rfl rfl rfl ?_
    rw [qlx_u6]
    refine q_aload_n dX3_advance_294 rfl ?_
    refine q_dup dX3_advance_295 rfl ?_
    refine q_geti (j := 5) dX3_advance_296 fl_3_58 rfl rfl rfl ?_
    rw [qlx_5]
    refine q_iconst dX3_advance_299 ?_
    refine q_iadd dX3_advance_300 ?_
    refine q_puti (j := 5) dX3_advance_301 fl_3_58 rfl rfl rfl rfl rfl ?_
    rw [qlx_u5]
    refine q_return dX3_advance_304 ?_
    exact ⟨rfl, by unfold tE tK tV; rw [if_neg e0, if_neg e0, if_neg e0, if_neg hL, if_neg hL, if_neg hL, if_neg hD, if_neg hD, if_neg hD, ha, if_pos h283]⟩
set_option maxHeartbeats 2000000 in
theorem c_advance {M : qM} {I : Int → Int} {n p : Int} (hB : inB M I n) (hend : M 25 4 = n) (hp : M 25 5 = p) (hp2 : 0 ≤ p ∧ p ≤ n) : qCt mX3_advance 0 1 [.ref 25] M (qpv (qlx M (tE I n p) (tK I n p) (tS I n p) (tV I n p))) := by
  have hn := hB.1
  have hl1 := hB.2.1
  have hl2 := hB.2.2.1
  have ho : ∀ {a t s v : Int}, 0 ≤ qlx M a t s v 1 1 ∧ qlx M a t s v 1 1 ≤ ((700 : Nat) : Int) := fun {a t s v} => by rw [qlx_o (by decide)]; omega
  refine q_intro (own := 3) (L := [some (.ref 25), none]) md_X3_advance rfl rfl rfl (Nat.le_of_ble_eq_true rfl) (fun X => ?_)
  refine q_lp (fun a : Int => (n + 1 - a).toNat) (fun a => 0 ≤ a ∧ a ≤ n ∧ tS I n a = tS I n p) (fun _ => [some (.ref 25), none]) (fun a => qlx M a (M 25 6) (M 25 7) (M 25 8)) p rfl (by rw [← hp]; exact qlx_id M) ⟨hp2.1, hp2.2, rfl⟩ (fun a ha ih => ?_)
  obtain ⟨ha0, ha1, ha2⟩ := ha
  refine q_aload_n dX3_advance_0 rfl ?_
  refine q_geti (j := 5) dX3_advance_1 fl_3_58 rfl rfl rfl ?_
  rw [qlx_5]
  refine q_aload_n dX3_advance_4 rfl ?_
  refine q_geti (j := 4) dX3_advance_5 fl_3_145 rfl rfl rfl ?_
  rw [qlx_4, hend]
  refine q_icmp_ge (tgt := 40) dX3_advance_8 rfl (by (first | (unfold zR; omega) | (unfold zLR; omega) | omega | (simp only [zR, qup] at *; omega) | (simp [zR, qup]; omega) | (simp [zR, qup]; done))) (by (first | (unfold zR; omega) | (unfold zLR; omega) | omega | (simp only [zR, qup] at *; omega) | (simp [zR, qup]; omega) | (simp [zR, qup]; done))) (fun h8 => ?_) (fun h8 => ?_)
  ·
    exact adv_40 hB hend (by rw [← ha2]; exact skp_end h8) ⟨ha0, ha1⟩
  ·
    refine q_aload_n dX3_advance_11 rfl ?_
    refine q_getr dX3_advance_12 fl_3_20 rfl rfl ?_
    refine q_aload_n dX3_advance_15 rfl ?_
    refine q_geti (j := 5) dX3_advance_16 fl_3_58 rfl rfl rfl ?_
    rw [qlx_5]
    refine q_V1 dX3_advance_19 ml_3_166 md_X1_get (c_bget (o := 1) (r := 2) (n := 700) rfl rfl (by omega) ho (by (first | (unfold zR; omega) | (unfold zLR; omega) | omega | (simp only [zR, qup] at *; omega) | (simp [zR, qup]; omega) | (simp [zR, qup]; done)))) rfl rfl rfl (by first | decide | omega) (Nat.le_of_ble_eq_true rfl) (Nat.le_of_ble_eq_true rfl) (qk_e ?_)
    rw [inB_g hB ⟨ha0, h8⟩]
    have hij : 0 ≤ I a ∧ I a < 256 := ⟨(hB.2.2.2 _ ha0 h8).2.1, (hB.2.2.2 _ ha0 h8).2.2⟩
    refine q_bipush dX3_advance_22 rfl ?_
    refine q_icmp_ne (tgt := 40) dX3_advance_24 rfl (by (first | (unfold zR; omega) | (unfold zLR; omega) | omega | (simp only [zR, qup] at *; omega) | (simp [zR, qup]; omega) | (simp [zR, qup]; done))) (by (first | (unfold zR; omega) | (unfold zLR; omega) | omega | (simp only [zR, qup] at *; omega) | (simp [zR, qup]; omega) | (simp [zR, qup]; done))) (fun h24 => ?_) (fun h24 => ?_)
    ·
      exact adv_40 hB hend (by rw [← ha2]; exact skp_st (P := isBl) h8 (fun q => h24 (isBl_i.mp q))) ⟨ha0, ha1⟩
    ·
      refine q_aload_n dX3_advance_27 rfl ?_
      refine q_dup dX3_advance_28 rfl ?_
      refine q_geti (j := 5) dX3_advance_29 fl_3_58 rfl rfl rfl ?_
      rw [qlx_5]
      refine q_iconst dX3_advance_32 ?_
      refine q_iadd dX3_advance_33 ?_
      refine q_puti (j := 5) dX3_advance_34 fl_3_58 rfl rfl rfl rfl rfl ?_
      rw [qlx_u5]
      refine q_goto (tgt := 0) dX3_advance_37 rfl ?_
      exact ih (a + 1) _ _ ⟨by omega, by omega, by rw [← ha2]; exact (skp_go (P := isBl) h8 (isBl_i.mpr h24)).symm⟩ (by omega) rfl rfl


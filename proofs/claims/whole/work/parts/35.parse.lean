/-! What a text is: lines, as functions of the bytes I, n of them. p is where the token at hand is looked for from. -/
def mn (N : Int → Int) (v : Int) : Nat → Int
  | 0 => -1
  | k + 1 => if mn N v k ≠ -1 then mn N v k else if N k = v then k else -1
theorem mn_in (N : Int → Int) (v : Int) : ∀ m : Nat, mn N v m = -1 ∨ (0 ≤ mn N v m ∧ mn N v m < m) := by
  intro m
  induction m with
  | zero => exact Or.inl rfl
  | succ m ih =>
    rw [mn]
    by_cases h : mn N v m ≠ -1
    · rw [if_pos h]; omega
    · rw [if_neg h]
      by_cases g : N m = v
      · rw [if_pos g]; omega
      · rw [if_neg g]; omega
theorem mn_c {N N' : Int → Int} {v : Int} : ∀ m : Nat, (∀ k : Int, 0 ≤ k → k < m → N' k = N k) → mn N' v m = mn N v m := by
  intro m
  induction m with
  | zero => intro _; rfl
  | succ m ih => intro h; rw [mn, mn, ih (fun k a b => h k a (by omega)), h m (by omega) (by omega)]
theorem mn_none {N : Int → Int} {v : Int} : ∀ m : Nat, mn N v m = -1 → ∀ k : Int, 0 ≤ k → k < m → N k ≠ v := by
  intro m
  induction m with
  | zero => intro _ k h0 h1; omega
  | succ m ih =>
    intro h k h0 h1
    rw [mn] at h
    by_cases g : mn N v m ≠ -1
    · rw [if_pos g] at h; exact absurd h g
    · rw [if_neg g] at h
      by_cases e : k = m
      · subst e
        intro e2
        rw [if_pos e2] at h
        omega
      · exact ih (Classical.byContradiction g) k h0 (by omega)
theorem mn_first {N : Int → Int} {v : Int} {j : Nat} (h : N j = v) (hn : ∀ k : Int, 0 ≤ k → k < j → N k ≠ v) : ∀ m : Nat, j < m → mn N v m = j := by
  have h0 : ∀ m : Nat, m ≤ j → mn N v m = -1 := by
    intro m
    induction m with
    | zero => intro _; rfl
    | succ m ih => intro hm; rw [mn, if_neg (fun q => q (ih (by omega))), if_neg (hn m (by omega) (by omega))]
  intro m
  induction m with
  | zero => intro hm; omega
  | succ m ih =>
    intro hm
    rw [mn]
    by_cases e : j = m
    · subst e
      rw [if_neg (fun q => q (h0 j (Nat.le_refl j))), if_pos h]
    · rw [ih (by omega), if_pos (by omega)]
def wcw (i : Nat) : Nat → Int
  | 0 => 0
  | k + 1 => zor (zshl (wcw i k) 5) (chW i k - 97 + 1)
/-- a word of the grammar as a number -/
def wordV (i : Nat) : Int := wcw i (qWl.getD i 0)
abbrev qσ : Type := Int × Int × (Int → Int) × (Int → Int → Int)
abbrev qρ : Type := Sum (Int × Int) qσ
section PSPEC
variable (I : Int → Int) (n : Int)
def flS (c p : Int) : qρ := .inl (c, tS I n p)
def tMap (N : Int → Int) (m p : Int) (k : Int → Int → qρ) : qρ := if tK I n p ≠ 1 then flS I n 1 p else if mn N (tV I n p) m.toNat = -1 then flS I n 3 p else k (mn N (tV I n p) m.toNat) (tE I n p)
def tNum (least most p : Int) (k : Int → Int → qρ) : qρ := if tK I n p ≠ 2 then flS I n 1 p else if tV I n p < least ∨ most < tV I n p then flS I n 2 p else k (tV I n p) (tE I n p)
def lnMap (σ : qσ) : qρ := if 6 ≤ σ.2.1 then flS I n 4 σ.1 else if tK I n (tE I n σ.1) ≠ 1 then flS I n 1 (tE I n σ.1) else if mn σ.2.2.1 (tV I n (tE I n σ.1)) σ.2.1.toNat ≠ -1 then flS I n 3 (tE I n σ.1) else .inr (tE I n (tE I n σ.1), σ.2.1 + 1, fup σ.2.2.1 σ.2.1 (tV I n (tE I n σ.1)), fun k => if k = σ.2.1 then fun _ => 0 else σ.2.2.2 k)
def lnRng (L : Nat) (b : Int) (σ : qσ) : qρ := tMap I n σ.2.2.1 σ.2.1 (tE I n σ.1) (fun k p2 => tNum I n 0 (8 * p4 L - 1) p2 (fun f p3 => tNum I n f (8 * p4 L - 1) p3 (fun t p5 => .inr (p5, σ.2.1, σ.2.2.1, fun j => if j = k then (if b = 2 then flpF (σ.2.2.2 k) f t else covF (σ.2.2.2 k) f t b) else σ.2.2.2 j))))
def lnOr (σ : qσ) : qρ := tMap I n σ.2.2.1 σ.2.1 (tE I n σ.1) (fun a p2 => tMap I n σ.2.2.1 σ.2.1 p2 (fun b p3 => .inr (p3, σ.2.1, σ.2.2.1, fun j => if j = a then fun i => mgF 0 (σ.2.2.2 a i) (σ.2.2.2 b i) else σ.2.2.2 j)))
/-- the numbers one behind the other, from that at p2 on -/
def np (p2 : Int) : Nat → Int
  | 0 => p2
  | i + 1 => tE I n (np p2 i)
def srcS (p2 : Int) : Int → Int := fun i => tV I n (np I n p2 i.toNat)
/-- what the first j of them are as a tree -/
noncomputable def oj (src : Int → Int) (L : Nat) (j : Int) : qR := rc j src L 0 0 (fun _ => 0) (rfin j L)
noncomputable def trF (L : Nat) (a p2 : Int) (σ : qσ) (i : Nat) : qρ := if tK I n (np I n p2 i) ≠ 3 ∧ tK I n (np I n p2 i) ≠ 0 then flS I n 1 (np I n p2 i) else if (oj (srcS I n p2) L i).1 = -1 then .inr (np I n p2 i, σ.2.1, σ.2.2.1, fun j => if j = a then (oj (srcS I n p2) L i).2 else σ.2.2.2 j) else flS I n 5 (np I n p2 i)
noncomputable def trS (L : Nat) (a p2 : Int) (σ : qσ) : Nat → Nat → qρ
  | 0, i => trF I n L a p2 σ i
  | k + 1, i => if tK I n (np I n p2 i) = 2 then (if 255 < tV I n (np I n p2 i) then flS I n 2 (np I n p2 i) else if (oj (srcS I n p2) L ((i : Int) + 1)).1 ≠ -1 ∧ (oj (srcS I n p2) L ((i : Int) + 1)).1 < (i : Int) + 1 then flS I n 5 (np I n p2 i) else trS L a p2 σ k (i + 1)) else trF I n L a p2 σ i
noncomputable def lnTree (L : Nat) (σ : qσ) : qρ := tMap I n σ.2.2.1 σ.2.1 (tE I n σ.1) (fun a p2 => if tK I n p2 ≠ 2 then flS I n 1 p2 else trS I n L a p2 σ n.toNat 0)
def isW (p : Int) (i : Nat) : Prop := tK I n p = 1 ∧ tV I n p = wordV i
noncomputable def rif (p : Prop) (a b : qρ) : qρ := @ite qρ p (Classical.propDecidable p) a b
noncomputable def lineS (L : Nat) (σ : qσ) : qρ := rif (isW I n σ.1 1) (lnMap I n σ) (rif (isW I n σ.1 2) (lnRng I n L 1 σ) (rif (isW I n σ.1 3) (lnRng I n L 0 σ) (rif (isW I n σ.1 4) (lnRng I n L 2 σ) (rif (isW I n σ.1 5) (lnOr I n σ) (rif (isW I n σ.1 6) (lnTree I n L σ) (flS I n 1 σ.1))))))
noncomputable def linesS (L : Nat) : Nat → qσ → qρ
  | 0, σ => if tK I n σ.1 = 0 then .inr σ else flS I n 1 σ.1
  | k + 1, σ => if tK I n σ.1 = 0 then .inr σ else if tK I n σ.1 ≠ 3 then flS I n 1 σ.1 else (lineS I n L (tE I n σ.1, σ.2)).elim Sum.inl (linesS L k)
noncomputable def parseS : qρ := rif (isW I n 0 0) (tNum I n 1 4 (tE I n 0) (fun L p2 => linesS I n L.toNat n.toNat (p2, 0, fun _ => 0, fun _ _ => 0))) (flS I n 1 0)
end PSPEC
theorem rif_t {p : Prop} {a b : qρ} (h : p) : rif p a b = a := by unfold rif; exact if_pos h
theorem rif_f {p : Prop} {a b : qρ} (h : ¬ p) : rif p a b = b := by unfold rif; exact if_neg h
theorem wc_R (I : Int → Int) (s : Int) : ∀ k, zR (wc I s k) := by
  intro k
  cases k with
  | zero => exact zR0
  | succ k => exact zor_R _ _
theorem wcw_R (i : Nat) : ∀ k, zR (wcw i k) := by
  intro k
  cases k with
  | zero => exact zR0
  | succ k => exact zor_R _ _
theorem tok_word {I : Int → Int} {n p : Int} (h : tK I n p = 1) : tS I n p < n ∧ isLt (I (tS I n p)) = true ∧ tE I n p - tS I n p ≤ 6 ∧ tV I n p = wc I (tS I n p) (tE I n p - tS I n p).toNat ∧ tE I n p = skp isLt I (tS I n p) (n - tS I n p).toNat := by
  unfold tK at h
  by_cases h0 : n ≤ tS I n p
  · rw [if_pos h0] at h; omega
  · rw [if_neg h0] at h
    by_cases h1 : isLt (I (tS I n p)) = true
    · rw [if_pos h1] at h
      by_cases h2 : tE I n p - tS I n p ≤ 6
      · refine ⟨by omega, h1, h2, ?_, ?_⟩
        · unfold tV; rw [if_neg h0, if_pos h1]
        · unfold tE; rw [if_neg h0, if_pos h1]
      · rw [if_neg h2] at h; omega
    · rw [if_neg h1] at h
      by_cases h2 : isDg (I (tS I n p)) = true
      · rw [if_pos h2] at h
        by_cases h3 : tE I n p - tS I n p ≤ 4
        · rw [if_pos h3] at h; omega
        · rw [if_neg h3] at h; omega
      · rw [if_neg h2] at h
        by_cases h3 : I (tS I n p) = 59
        · rw [if_pos h3] at h; omega
        · rw [if_neg h3] at h; omega
theorem tok_num {I : Int → Int} {n p : Int} (h : tK I n p = 2) : tS I n p < n ∧ ¬ isLt (I (tS I n p)) = true ∧ isDg (I (tS I n p)) = true ∧ tE I n p - tS I n p ≤ 4 ∧ tV I n p = nc I (tS I n p) (tE I n p - tS I n p).toNat ∧ tE I n p = skp isDg I (tS I n p) (n - tS I n p).toNat := by
  unfold tK at h
  by_cases h0 : n ≤ tS I n p
  · rw [if_pos h0] at h; omega
  · rw [if_neg h0] at h
    by_cases h1 : isLt (I (tS I n p)) = true
    · rw [if_pos h1] at h
      by_cases h2 : tE I n p - tS I n p ≤ 6
      · rw [if_pos h2] at h; omega
      · rw [if_neg h2] at h; omega
    · rw [if_neg h1] at h
      by_cases h2 : isDg (I (tS I n p)) = true
      · rw [if_pos h2] at h
        by_cases h3 : tE I n p - tS I n p ≤ 4
        · refine ⟨by omega, h1, h2, h3, ?_, ?_⟩
          · unfold tV; rw [if_neg h0, if_neg h1, if_pos h2]
          · unfold tE; rw [if_neg h0, if_neg h1, if_pos h2]
        · rw [if_neg h3] at h; omega
      · rw [if_neg h2] at h
        by_cases h3 : I (tS I n p) = 59
        · rw [if_pos h3] at h; omega
        · rw [if_neg h3] at h; omega
theorem nc_in {I : Int → Int} {s : Int} {k : Nat} (h : ∀ j : Nat, j < k → isDg (I (s + j)) = true) : 0 ≤ nc I s k ∧ nc I s k < 10 ^ k := by
  induction k with
  | zero => simp [nc]
  | succ k ih =>
    have h1 := ih (fun j hj => h j (by omega))
    have h2 := isDg_i.mp (h k (by omega))
    rw [nc, Int.pow_succ]
    generalize (10 : Int) ^ k = q at *
    omega
theorem num_in {I : Int → Int} {n p : Int} (hp : p ≤ n) (h : tK I n p = 2) : 0 ≤ tV I n p ∧ tV I n p < 10000 := by
  obtain ⟨h0, h1, h2, h3, h4, h5⟩ := tok_num h
  have hE := tE_in (I := I) hp
  have hs := tS_in (I := I) hp
  rw [h4]
  have hk := nc_in (I := I) (s := tS I n p) (k := (tE I n p - tS I n p).toNat) (fun j hj => skp_all (P := isDg) (n - tS I n p).toNat (tS I n p) _ (by omega) (by rw [← h5]; omega))
  have hp10 : ∀ k : Nat, k ≤ 4 → (10 : Int) ^ k ≤ 10000 := by
    intro k hk
    have : k = 0 ∨ k = 1 ∨ k = 2 ∨ k = 3 ∨ k = 4 := by omega
    rcases this with e | e | e | e | e <;> subst e <;> decide
  have := hp10 (tE I n p - tS I n p).toNat (by omega)
  omega
theorem word_R {I : Int → Int} {n p : Int} (h : tK I n p = 1) : zR (tV I n p) := by rw [(tok_word h).2.2.2.1]; exact wc_R _ _ _
/-- the parser's token is that looked for from p on -/
def cur (M : qM) (I : Int → Int) (n p : Int) : Prop := M 25 5 = tE I n p ∧ M 25 6 = tK I n p ∧ M 25 7 = tS I n p ∧ M 25 8 = tV I n p
theorem cur_qlx {M : qM} {I : Int → Int} {n p : Int} : cur (qlx M (tE I n p) (tK I n p) (tS I n p) (tV I n p)) I n p := ⟨qlx_5, qlx_6, qlx_7, qlx_8⟩
def flx (M : qM) (c s : Int) : qM := qup (qup M 25 11 c) 25 12 s
def adv (M : qM) (I : Int → Int) (n p : Int) : qM := qlx M (tE I n p) (tK I n p) (tS I n p) (tV I n p)
def tmP (M : qM) (I : Int → Int) (n : Int) (N : Int → Int) (m p : Int) : Int → qM → Prop := fun z M' => (z = -1 ∧ ∃ c, c ≠ 0 ∧ (∀ k, tMap I n N m p k = flS I n c p) ∧ M' = flx M c (tS I n p)) ∨ (0 ≤ z ∧ z < m ∧ (∀ k, tMap I n N m p k = k z (tE I n p)) ∧ M' = adv M I n (tE I n p))
def tnP (M : qM) (I : Int → Int) (n a b p : Int) : Int → qM → Prop := fun z M' => (z = -1 ∧ ∃ c, c ≠ 0 ∧ (∀ k, tNum I n a b p k = flS I n c p) ∧ M' = flx M c (tS I n p)) ∨ (0 ≤ z ∧ a ≤ z ∧ z ≤ b ∧ (∀ k, tNum I n a b p k = k z (tE I n p)) ∧ M' = adv M I n (tE I n p))
section PC
variable {M : qM} {I : Int → Int} {n p m : Int}
set_option maxHeartbeats 1000000 in
theorem c_fail {c : Int} : qCt mX3_fail 0 0 [.ref 25, .int (zI c)] M (qpe 0 (flx M c (M 25 7))) := by
  refine q_intro (own := 3) (L := [some (.ref 25), some (.int (zI c))]) md_X3_fail rfl rfl rfl (Nat.le_of_ble_eq_true rfl) (fun X => ?_)
  refine q_aload_n dX3_fail_0 rfl ?_
  refine q_iload_n dX3_fail_1 rfl ?_
  refine q_puti (j := 11) dX3_fail_2 fl_3_43 rfl rfl rfl rfl rfl ?_
  refine q_aload_n dX3_fail_5 rfl ?_
  refine q_aload_n dX3_fail_6 rfl ?_
  refine q_geti (j := 7) dX3_fail_7 fl_3_55 rfl rfl rfl ?_
  rw [show qup M 25 11 c 25 7 = M 25 7 by simp [qup]]
  refine q_puti (j := 12) dX3_fail_10 fl_3_46 rfl rfl rfl rfl rfl ?_
  refine q_iconst dX3_fail_13 ?_
  refine q_zreturn (by first | exact Or.inl rfl | exact Or.inr rfl) dX3_fail_14 ?_
  exact ⟨rfl, rfl⟩
set_option maxHeartbeats 1000000 in
theorem c_mapNamed {v : Int} (hm : M 25 10 = m) (hm2 : 0 ≤ m ∧ m ≤ 6) (hv : zR v) (hN : ∀ k, 0 ≤ k → k < m → zR (M 27 k)) : qCt mX3_mapNamed 0 1 [.ref 25, .int (zI v)] M (qpe (mn (M 27) v m.toNat) M) := by
  refine q_intro (own := 3) (L := [some (.ref 25), some (.int (zI v)), none]) md_X3_mapNamed rfl rfl rfl (Nat.le_of_ble_eq_true rfl) (fun X => ?_)
  refine q_iconst dX3_mapNamed_0 ?_
  refine q_istore_n dX3_mapNamed_1 (Nat.le_of_ble_eq_true rfl) rfl ?_
  refine q_lp (fun i : Nat => 7 - i) (fun i => (i : Int) ≤ m ∧ ∀ k : Int, 0 ≤ k → k < i → M 27 k ≠ v) (fun i => [some (.ref 25), some (.int (zI v)), some (.int (zI (i : Int)))]) (fun _ => M) 0 rfl rfl ⟨by omega, fun k h0 h1 => by omega⟩ (fun i hi ih => ?_)
  obtain ⟨hi1, hi2⟩ := hi
  refine q_iload_n dX3_mapNamed_2 rfl ?_
  refine q_aload_n dX3_mapNamed_3 rfl ?_
  refine q_geti (j := 10) dX3_mapNamed_4 fl_3_36 rfl rfl rfl ?_
  rw [hm]
  refine q_icmp_ge (tgt := 30) dX3_mapNamed_7 rfl (by (first | (unfold zR; omega) | (unfold zLR; omega) | omega | (simp only [zR, qup] at *; omega) | (simp [zR, qup]; omega) | (simp [zR, qup]; done))) (by (first | (unfold zR; omega) | (unfold zLR; omega) | omega | (simp only [zR, qup] at *; omega) | (simp [zR, qup]; omega) | (simp [zR, qup]; done))) (fun h7 => ?_) (fun h7 => ?_)
  ·
    refine q_iconst dX3_mapNamed_30 ?_
    refine q_ireturn dX3_mapNamed_31 ?_
    have e : mn (M 27) v m.toNat = -1 := by
      rcases mn_in (M 27) v m.toNat with h | h
      · exact h
      · exfalso
        have : ∀ q : Nat, q ≤ m.toNat → mn (M 27) v q = -1 := by
          intro q
          induction q with
          | zero => intro _; rfl
          | succ q ihq => intro hq; rw [mn, if_neg (fun w => w (ihq (by omega))), if_neg (hi2 q (by omega) (by omega))]
        have := this m.toNat (Nat.le_refl _)
        omega
    exact ⟨by rw [e], rfl⟩
  ·
    refine q_aload_n dX3_mapNamed_10 rfl ?_
    refine q_getr dX3_mapNamed_11 fl_3_14 rfl rfl ?_
    refine q_iload_n dX3_mapNamed_14 rfl ?_
    refine q_V1 dX3_mapNamed_15 ml_3_39 md_X5_get (c_rget (o := 26) (r := 27) (n := 6) rfl rfl (by omega) (by omega)) rfl rfl rfl (by first | decide | omega) (Nat.le_of_ble_eq_true rfl) (Nat.le_of_ble_eq_true rfl) (qk_e ?_)
    refine q_iload_n dX3_mapNamed_18 rfl ?_
    refine q_icmp_ne (tgt := 24) dX3_mapNamed_19 rfl (by exact hN i (by omega) h7) (by exact hv) (fun h19 => ?_) (fun h19 => ?_)
    ·
      refine q_iinc dX3_mapNamed_24 rfl (Nat.le_of_ble_eq_true rfl) rfl ?_
      refine q_goto (tgt := 2) dX3_mapNamed_27 rfl ?_
      exact ih (i + 1) _ _ ⟨by omega, fun k h0 h1 => by
        by_cases e : k = i
        · rw [e]; exact h19
        · exact hi2 k h0 (by omega)⟩ (by omega) rfl rfl
    ·
      refine q_iload_n dX3_mapNamed_22 rfl ?_
      refine q_ireturn dX3_mapNamed_23 ?_
      exact ⟨by rw [mn_first h19 hi2 m.toNat (by omega)], rfl⟩
set_option maxHeartbeats 1000000 in
theorem c_isWord {i : Nat} (hi : i < 7) (hc : cur M I n p) : qCt mX3_isWord 0 4 [.ref 25, .ref (100 + i)] M (qpe (zb (isW I n p i)) M) := by
  have hk := tK_in I n p
  have hw := wl_in ⟨i, hi⟩
  simp only at hw
  refine q_intro (own := 3) (L := [some (.ref 25), some (.ref (100 + i)), none, none]) md_X3_isWord rfl rfl rfl (Nat.le_of_ble_eq_true rfl) (fun X => ?_)
  refine q_iconst dX3_isWord_0 ?_
  refine q_istore_n dX3_isWord_1 (Nat.le_of_ble_eq_true rfl) rfl ?_
  refine q_iconst dX3_isWord_2 ?_
  refine q_istore_n dX3_isWord_3 (Nat.le_of_ble_eq_true rfl) rfl ?_
  refine q_lp (fun k : Nat => 7 - k) (fun k => k ≤ qWl.getD i 0) (fun k => [some (.ref 25), some (.ref (100 + i)), some (.int (zI (wcw i k))), some (.int (zI (k : Int)))]) (fun _ => M) 0 rfl rfl (by omega) (fun k hk ih => ?_)
  refine q_iload_n dX3_isWord_4 rfl ?_
  refine q_aload_n dX3_isWord_5 rfl ?_
  refine q_callVS (av := []) dX3_isWord_6 ml_3_154 md_J0_length_8abf5 (c_strlen hi) rfl rfl hi rfl rfl (by decide) (by decide) (Nat.le_of_ble_eq_true rfl) (qk_e ?_)
  refine q_icmp_ge (tgt := 28) dX3_isWord_9 rfl (by (first | (unfold zR; omega) | (unfold zLR; omega) | omega | (simp only [zR, qup] at *; omega) | (simp [zR, qup]; omega) | (simp [zR, qup]; done))) (by (first | (unfold zR; omega) | (unfold zLR; omega) | omega | (simp only [zR, qup] at *; omega) | (simp [zR, qup]; omega) | (simp [zR, qup]; done))) (fun h9 => ?_) (fun h9 => ?_)
  rotate_left
  ·
    refine q_iload_n dX3_isWord_12 rfl ?_
    refine q_aload_n dX3_isWord_13 rfl ?_
    refine q_iload_n dX3_isWord_14 rfl ?_
    refine q_callVS (av := [.int (zI (k : Int))]) dX3_isWord_15 ml_3_159 md_J0_charAt_5068e (c_strchar hi (by omega)) rfl rfl hi rfl rfl (by decide) (by decide) (Nat.le_of_ble_eq_true rfl) (qk_e ?_)
    refine q_S2 dX3_isWord_18 ml_3_163 md_X3_withLetter c_withLetter rfl (by first | decide | omega) (Nat.le_of_ble_eq_true rfl) (Nat.le_of_ble_eq_true rfl) (qk_e ?_)
    refine q_istore_n dX3_isWord_21 (Nat.le_of_ble_eq_true rfl) rfl ?_
    refine q_iinc dX3_isWord_22 rfl (Nat.le_of_ble_eq_true rfl) rfl ?_
    refine q_goto (tgt := 4) dX3_isWord_25 rfl ?_
    exact ih (k + 1) _ _ (by omega) (by omega) rfl rfl
  have hkk : k = qWl.getD i 0 := by omega
  subst hkk
  refine q_aload_n dX3_isWord_28 rfl ?_
  refine q_geti (j := 6) dX3_isWord_29 fl_3_52 rfl rfl rfl ?_
  refine q_iconst dX3_isWord_32 ?_
  rw [hc.2.1]
  refine q_icmp_ne (tgt := 48) dX3_isWord_33 rfl (by (first | (unfold zR; omega) | (unfold zLR; omega) | omega | (simp only [zR, qup] at *; omega) | (simp [zR, qup]; omega) | (simp [zR, qup]; done))) (by (first | (unfold zR; omega) | (unfold zLR; omega) | omega | (simp only [zR, qup] at *; omega) | (simp [zR, qup]; omega) | (simp [zR, qup]; done))) (fun h33 => ?_) (fun h33 => ?_)
  ·
    refine q_iconst dX3_isWord_48 ?_
    refine q_zreturn (by first | exact Or.inl rfl | exact Or.inr rfl) dX3_isWord_49 ?_
    exact ⟨by rw [zb_f (fun q => h33 q.1)], rfl⟩
  ·
    refine q_aload_n dX3_isWord_36 rfl ?_
    refine q_geti (j := 8) dX3_isWord_37 fl_3_61 rfl rfl rfl ?_
    refine q_iload_n dX3_isWord_40 rfl ?_
    rw [hc.2.2.2]
    refine q_icmp_ne (tgt := 48) dX3_isWord_41 rfl (by exact word_R h33) (by exact wcw_R _ _) (fun h41 => ?_) (fun h41 => ?_)
    ·
      refine q_iconst dX3_isWord_48 ?_
      refine q_zreturn (by first | exact Or.inl rfl | exact Or.inr rfl) dX3_isWord_49 ?_
      exact ⟨by rw [zb_f (fun q => h41 q.2)], rfl⟩
    ·
      refine q_iconst dX3_isWord_44 ?_
      refine q_goto (tgt := 49) dX3_isWord_45 rfl ?_
      refine q_zreturn (by first | exact Or.inl rfl | exact Or.inr rfl) dX3_isWord_49 ?_
      exact ⟨by rw [zb_t (show isW I n p i from ⟨h33, h41⟩)], rfl⟩
set_option maxHeartbeats 1000000 in
theorem c_takeMap {N : Int → Int} (hB : inB M I n) (hend : M 25 4 = n) (hc : cur M I n p) (hp : 0 ≤ p ∧ p ≤ n) (hm : M 25 10 = m) (hm2 : 0 ≤ m ∧ m ≤ 6) (hN : ∀ k, 0 ≤ k → k < m → M 27 k = N k ∧ zR (M 27 k)) : qCt mX3_takeMap 0 2 [.ref 25] M (qpg (tmP M I n N m p)) := by
  have hk := tK_in I n p
  have hE := tE_in (I := I) hp.2
  have hS := tS_in (I := I) hp.2
  have emn : mn (M 27) (tV I n p) m.toNat = mn N (tV I n p) m.toNat := mn_c _ (fun k h0 h1 => (hN k h0 (by omega)).1)
  refine q_intro (own := 3) (L := [some (.ref 25), none]) md_X3_takeMap rfl rfl rfl (Nat.le_of_ble_eq_true rfl) (fun X => ?_)
  refine q_aload_n dX3_takeMap_0 rfl ?_
  refine q_geti (j := 6) dX3_takeMap_1 fl_3_52 rfl rfl rfl ?_
  refine q_iconst dX3_takeMap_4 ?_
  rw [hc.2.1]
  refine q_icmp_eq (tgt := 16) dX3_takeMap_5 rfl (by (first | (unfold zR; omega) | (unfold zLR; omega) | omega | (simp only [zR, qup] at *; omega) | (simp [zR, qup]; omega) | (simp [zR, qup]; done))) (by (first | (unfold zR; omega) | (unfold zLR; omega) | omega | (simp only [zR, qup] at *; omega) | (simp [zR, qup]; omega) | (simp [zR, qup]; done))) (fun h5 => ?_) (fun h5 => ?_)
  rotate_left
  ·
    refine q_aload_n dX3_takeMap_8 rfl ?_
    refine q_iconst dX3_takeMap_9 ?_
    refine q_V1 dX3_takeMap_10 ml_3_73 md_X3_fail c_fail rfl rfl rfl (by first | decide | omega) (Nat.le_of_ble_eq_true rfl) (Nat.le_of_ble_eq_true rfl) (qk_e ?_)
    rw [hc.2.2.1]
    refine q_pop dX3_takeMap_13 rfl ?_
    refine q_iconst dX3_takeMap_14 ?_
    refine q_ireturn dX3_takeMap_15 ?_
    exact ⟨_, rfl, Or.inl ⟨rfl, 1, by omega, fun k => if_pos h5, rfl⟩⟩
  refine q_aload_n dX3_takeMap_16 rfl ?_
  refine q_aload_n dX3_takeMap_17 rfl ?_
  refine q_geti (j := 8) dX3_takeMap_18 fl_3_61 rfl rfl rfl ?_
  rw [hc.2.2.2]
  have hR := word_R h5
  have hmn := mn_in N (tV I n p) m.toNat
  refine q_V1 dX3_takeMap_21 ml_3_111 md_X3_mapNamed (c_mapNamed hm hm2 hR (fun k h0 h1 => (hN k h0 h1).2)) rfl rfl rfl (by first | decide | omega) (Nat.le_of_ble_eq_true rfl) (Nat.le_of_ble_eq_true rfl) (qk_e ?_)
  rw [emn]
  refine q_istore_n dX3_takeMap_24 (Nat.le_of_ble_eq_true rfl) rfl ?_
  refine q_iload_n dX3_takeMap_25 rfl ?_
  refine q_iconst dX3_takeMap_26 ?_
  refine q_icmp_ne (tgt := 38) dX3_takeMap_27 rfl (by (first | (unfold zR; omega) | (unfold zLR; omega) | omega | (simp only [zR, qup] at *; omega) | (simp [zR, qup]; omega) | (simp [zR, qup]; done))) (by (first | (unfold zR; omega) | (unfold zLR; omega) | omega | (simp only [zR, qup] at *; omega) | (simp [zR, qup]; omega) | (simp [zR, qup]; done))) (fun h27 => ?_) (fun h27 => ?_)
  rotate_left
  ·
    refine q_aload_n dX3_takeMap_30 rfl ?_
    refine q_iconst dX3_takeMap_31 ?_
    refine q_V1 dX3_takeMap_32 ml_3_73 md_X3_fail c_fail rfl rfl rfl (by first | decide | omega) (Nat.le_of_ble_eq_true rfl) (Nat.le_of_ble_eq_true rfl) (qk_e ?_)
    rw [hc.2.2.1]
    refine q_pop dX3_takeMap_35 rfl ?_
    refine q_iconst dX3_takeMap_36 ?_
    refine q_ireturn dX3_takeMap_37 ?_
    exact ⟨_, rfl, Or.inl ⟨rfl, 3, by omega, fun k => by unfold tMap; rw [if_neg (fun q => q h5), if_pos h27], rfl⟩⟩
  refine q_aload_n dX3_takeMap_38 rfl ?_
  refine q_V0 dX3_takeMap_39 ml_3_77 md_X3_advance (c_advance hB hend hc.1 (by omega)) rfl rfl rfl (by first | decide | omega) (Nat.le_of_ble_eq_true rfl) (Nat.le_of_ble_eq_true rfl) (qk_v ?_)
  refine q_iload_n dX3_takeMap_42 rfl ?_
  refine q_ireturn dX3_takeMap_43 ?_
  exact ⟨_, rfl, Or.inr ⟨by omega, by omega, fun k => by unfold tMap; rw [if_neg (fun q => q h5), if_neg h27], rfl⟩⟩
set_option maxHeartbeats 1000000 in
theorem c_takeNumber {a b : Int} (hB : inB M I n) (hend : M 25 4 = n) (hc : cur M I n p) (hp : 0 ≤ p ∧ p ≤ n) (ha : zR a) (hb : zR b) : qCt mX3_takeNumber 0 2 [.ref 25, .int (zI a), .int (zI b)] M (qpg (tnP M I n a b p)) := by
  have hk := tK_in I n p
  have hE := tE_in (I := I) hp.2
  have hS := tS_in (I := I) hp.2
  refine q_intro (own := 3) (L := [some (.ref 25), some (.int (zI a)), some (.int (zI b)), none]) md_X3_takeNumber rfl rfl rfl (Nat.le_of_ble_eq_true rfl) (fun X => ?_)
  refine q_aload_n dX3_takeNumber_0 rfl ?_
  refine q_geti (j := 6) dX3_takeNumber_1 fl_3_52 rfl rfl rfl ?_
  refine q_iconst dX3_takeNumber_4 ?_
  rw [hc.2.1]
  refine q_icmp_eq (tgt := 16) dX3_takeNumber_5 rfl (by (first | (unfold zR; omega) | (unfold zLR; omega) | omega | (simp only [zR, qup] at *; omega) | (simp [zR, qup]; omega) | (simp [zR, qup]; done))) (by (first | (unfold zR; omega) | (unfold zLR; omega) | omega | (simp only [zR, qup] at *; omega) | (simp [zR, qup]; omega) | (simp [zR, qup]; done))) (fun h5 => ?_) (fun h5 => ?_)
  rotate_left
  ·
    refine q_aload_n dX3_takeNumber_8 rfl ?_
    refine q_iconst dX3_takeNumber_9 ?_
    refine q_V1 dX3_takeNumber_10 ml_3_73 md_X3_fail c_fail rfl rfl rfl (by first | decide | omega) (Nat.le_of_ble_eq_true rfl) (Nat.le_of_ble_eq_true rfl) (qk_e ?_)
    rw [hc.2.2.1]
    refine q_pop dX3_takeNumber_13 rfl ?_
    refine q_iconst dX3_takeNumber_14 ?_
    refine q_ireturn dX3_takeNumber_15 ?_
    exact ⟨_, rfl, Or.inl ⟨rfl, 1, by omega, fun k => if_pos h5, rfl⟩⟩
  refine q_aload_n dX3_takeNumber_16 rfl ?_
  refine q_geti (j := 8) dX3_takeNumber_17 fl_3_61 rfl rfl rfl ?_
  rw [hc.2.2.2]
  have hv := num_in hp.2 h5
  refine q_istore_n dX3_takeNumber_20 (Nat.le_of_ble_eq_true rfl) rfl ?_
  refine q_iload_n dX3_takeNumber_21 rfl ?_
  refine q_iload_n dX3_takeNumber_22 rfl ?_
  refine q_icmp_lt (tgt := 31) dX3_takeNumber_23 rfl (by (first | (unfold zR; omega) | (unfold zLR; omega) | omega | (simp only [zR, qup] at *; omega) | (simp [zR, qup]; omega) | (simp [zR, qup]; done))) (by exact ha) (fun h23 => ?_) (fun h23 => ?_)
  ·
    refine q_aload_n dX3_takeNumber_31 rfl ?_
    refine q_iconst dX3_takeNumber_32 ?_
    refine q_V1 dX3_takeNumber_33 ml_3_73 md_X3_fail c_fail rfl rfl rfl (by first | decide | omega) (Nat.le_of_ble_eq_true rfl) (Nat.le_of_ble_eq_true rfl) (qk_e ?_)
    rw [hc.2.2.1]
    refine q_pop dX3_takeNumber_36 rfl ?_
    refine q_iconst dX3_takeNumber_37 ?_
    refine q_ireturn dX3_takeNumber_38 ?_
    exact ⟨_, rfl, Or.inl ⟨rfl, 2, by omega, fun k => by unfold tNum; rw [if_neg (fun q => q h5), if_pos (Or.inl h23)], rfl⟩⟩
  ·
    refine q_iload_n dX3_takeNumber_26 rfl ?_
    refine q_iload_n dX3_takeNumber_27 rfl ?_
    refine q_icmp_le (tgt := 39) dX3_takeNumber_28 rfl (by (first | (unfold zR; omega) | (unfold zLR; omega) | omega | (simp only [zR, qup] at *; omega) | (simp [zR, qup]; omega) | (simp [zR, qup]; done))) (by exact hb) (fun h28 => ?_) (fun h28 => ?_)
    ·
      refine q_aload_n dX3_takeNumber_39 rfl ?_
      refine q_V0 dX3_takeNumber_40 ml_3_77 md_X3_advance (c_advance hB hend hc.1 (by omega)) rfl rfl rfl (by first | decide | omega) (Nat.le_of_ble_eq_true rfl) (Nat.le_of_ble_eq_true rfl) (qk_v ?_)
      refine q_iload_n dX3_takeNumber_43 rfl ?_
      refine q_ireturn dX3_takeNumber_44 ?_
      exact ⟨_, rfl, Or.inr ⟨by omega, by omega, by omega, fun k => by unfold tNum; rw [if_neg (fun q => q h5), if_neg (by omega)], rfl⟩⟩
    ·
      refine q_aload_n dX3_takeNumber_31 rfl ?_
      refine q_iconst dX3_takeNumber_32 ?_
      refine q_V1 dX3_takeNumber_33 ml_3_73 md_X3_fail c_fail rfl rfl rfl (by first | decide | omega) (Nat.le_of_ble_eq_true rfl) (Nat.le_of_ble_eq_true rfl) (qk_e ?_)
      rw [hc.2.2.1]
      refine q_pop dX3_takeNumber_36 rfl ?_
      refine q_iconst dX3_takeNumber_37 ?_
      refine q_ireturn dX3_takeNumber_38 ?_
      exact ⟨_, rfl, Or.inl ⟨rfl, 2, by omega, fun k => by unfold tNum; rw [if_neg (fun q => q h5), if_pos (Or.inr h28)], rfl⟩⟩
end PC


/-! The model: the tree is laid. -/
def mtw (M : qM) (T K F S : Int → Int) (n : Int) : qM := fun o j => if o = 43 then T j else if o = 44 then K j else if o = 45 then F j else if o = 46 then S j else if o = 37 ∧ j = 12 then n else M o j
section MW
variable {M : qM} {T K F S : Int → Int} {n : Int}
theorem mtw_id (M : qM) : M = mtw M (M 43) (M 44) (M 45) (M 46) (M 37 12) := by
  funext o j
  unfold mtw
  by_cases h : o = 43
  · rw [if_pos h, h]
  · rw [if_neg h]
    by_cases h : o = 44
    · rw [if_pos h, h]
    · rw [if_neg h]
      by_cases h : o = 45
      · rw [if_pos h, h]
      · rw [if_neg h]
        by_cases h : o = 46
        · rw [if_pos h, h]
        · rw [if_neg h]
          by_cases h : o = 37 ∧ j = 12
          · rw [if_pos h, h.1, h.2]
          · rw [if_neg h]
theorem mtw_43 (k v : Int) : qup (mtw M T K F S n) 43 k v = mtw M (fup T k v) K F S n := by
  funext o j
  simp only [qup, mtw, fup]
  by_cases h : o = 43
  · subst h; by_cases g : j = k <;> simp [g]
  · simp [h]
theorem mtw_44 (k v : Int) : qup (mtw M T K F S n) 44 k v = mtw M T (fup K k v) F S n := by
  funext o j
  simp only [qup, mtw, fup]
  by_cases h : o = 44
  · subst h; by_cases g : j = k <;> simp [g]
  · simp [h]
theorem mtw_45 (k v : Int) : qup (mtw M T K F S n) 45 k v = mtw M T K (fup F k v) S n := by
  funext o j
  simp only [qup, mtw, fup]
  by_cases h : o = 45
  · subst h; by_cases g : j = k <;> simp [g]
  · simp [h]
theorem mtw_46 (k v : Int) : qup (mtw M T K F S n) 46 k v = mtw M T K F (fup S k v) n := by
  funext o j
  simp only [qup, mtw, fup]
  by_cases h : o = 46
  · subst h; by_cases g : j = k <;> simp [g]
  · simp [h]
theorem mtw_n (v : Int) : qup (mtw M T K F S n) 37 12 v = mtw M T K F S v := by
  funext o j
  simp only [qup, mtw]
  by_cases h : o = 37
  · subst h; by_cases g : j = 12 <;> simp [g]
  · simp [h]
theorem mtw_9 : mtw M T K F S n 37 9 = M 37 9 := by simp [mtw]
theorem mtw_42 : mtw M T K F S n 42 = M 42 := by funext j; simp [mtw]
theorem mtw_12 : mtw M T K F S n 37 12 = n := by simp [mtw]
end MW
def LyN (c : Int → Int) (L : Nat) (K F S : Int → Int) (d : Nat) (x : Int) : Prop := K (off d + x) = bcode c L d x ∧ F (off d + x) = sr c L 0 d x ∧ S (off d + x) = (if sr c L 0 d x ≠ -1 then tsz c (L - d) x else -1)
def LyM (K F S : Int → Int) (d : Nat) (x : Int) : Prop := K (off d + x) = -1 ∧ F (off d + x) = -1 ∧ S (off d + x) = -1
def Ly3 (K F S K' F' S' : Int → Int) (d : Nat) (x : Int) : Prop := K' (off d + x) = K (off d + x) ∧ F' (off d + x) = F (off d + x) ∧ S' (off d + x) = S (off d + x)
def LyP (c : Int → Int) (L d0 l : Nat) (b n : Int) (T K F S T' K' F' S' : Int → Int) : Prop :=
  (∀ j, (j < n ∨ n + tsz c l b ≤ j) → T' j = T j) ∧ lay c l b T' n ∧ (∀ (d : Nat) (x : Int), d ≤ L → 0 ≤ x → x < p4 d → d0 < d → anc (d - d0) x = b → LyN c L K' F' S' d x) ∧ (K' (off d0 + b) = K (off d0 + b) ∧ F' (off d0 + b) = n ∧ S' (off d0 + b) = tsz c l b) ∧ (∀ (d : Nat) (x : Int), d ≤ L → 0 ≤ x → x < p4 d → ¬ (d0 ≤ d ∧ anc (d - d0) x = b) → Ly3 K F S K' F' S' d x) ∧ ∀ k, off (L + 1) ≤ k → K' k = K k
def LyI (c : Int → Int) (L d0 l : Nat) (b n : Int) (i : Nat) (T K F S T1 K1 F1 S1 : Int → Int) : Prop :=
  (∀ j, (j < n ∨ n + 1 + tsum c (tsz c l) l b i ≤ j) → T1 j = T j) ∧ T1 n = thd c l b i ∧ (∀ q : Nat, q < i → qcode c l b q = 2 → lay c l (4 * b + q) T1 (n + 1 + tsum c (tsz c l) l b q)) ∧ (∀ (d : Nat) (x : Int), d ≤ L → 0 ≤ x → x < p4 d → d0 < d → 4 * b ≤ anc (d - d0 - 1) x → anc (d - d0 - 1) x < 4 * b + i → LyN c L K1 F1 S1 d x) ∧ (∀ (d : Nat) (x : Int), d ≤ L → 0 ≤ x → x < p4 d → d0 < d → 4 * b + i ≤ anc (d - d0 - 1) x → anc (d - d0 - 1) x < 4 * b + 4 → LyM K1 F1 S1 d x) ∧ (K1 (off d0 + b) = K (off d0 + b) ∧ F1 (off d0 + b) = n) ∧ (∀ (d : Nat) (x : Int), d ≤ L → 0 ≤ x → x < p4 d → ¬ (d0 ≤ d ∧ anc (d - d0) x = b) → Ly3 K F S K1 F1 S1 d x) ∧ ∀ k, off (L + 1) ≤ k → K1 k = K k
theorem off_lt {d L : Nat} (hd : d ≤ L) {x : Int} (hx : x < p4 d) : off d + x < off (L + 1) := by
  have h : ∀ n : Nat, off d + p4 d ≤ off (d + 1 + n) := by
    intro n
    induction n with
    | zero => exact Int.le_refl _
    | succ n ih =>
      have := p4_in ((d + 1 + n : Nat) : Int)
      show off d + p4 d ≤ off (d + 1 + n) + p4 ((d + 1 + n : Nat) : Int)
      omega
  have := h (L - d)
  rw [show d + 1 + (L - d) = L + 1 by omega] at this
  omega
theorem anc_q {d d0 : Nat} (h : d0 < d) (x : Int) : anc (d - d0) x = anc (d - d0 - 1) x / 4 := by
  have := anc_add 1 (d - d0 - 1) x
  rw [show 1 + (d - d0 - 1) = d - d0 by omega] at this
  exact this
/-- below a block that is not told nothing is told -/
theorem En_dead {c : Int → Int} {L d1 : Nat} {K F S : Int → Int} {y : Int} (h : sr c L 0 d1 y = -1) {d : Nat} (hd : d1 < d) (hL : d ≤ L) {x : Int} (ha : anc (d - d1) x = y) (he : LyM K F S d x) : LyN c L K F S d x := by
  have hs : ∀ k : Nat, d1 + k ≤ L → ∀ x, anc k x = y → sr c L 0 (d1 + k) x = -1 := fun k hk x hx => Classical.byContradiction fun q => (sr_anc (Int.le_refl 0) d1 k hk x q).1 (by rw [hx]; exact h)
  have e1 : sr c L 0 d x = -1 := by
    have := hs (d - d1) (by omega) x ha
    rw [show d1 + (d - d1) = d by omega] at this
    exact this
  have e2 : sr c L 0 (d - 1) (x / 4) = -1 := by
    have := hs (d - d1 - 1) (by omega) (x / 4) (by
      rw [show d - d1 = (d - d1 - 1) + 1 by omega] at ha
      exact ha)
    rw [show d1 + (d - d1 - 1) = d - 1 by omega] at this
    exact this
  refine ⟨he.1.trans ?_, he.2.1.trans e1.symm, he.2.2.trans ?_⟩
  · rw [show d = (d - 1) + 1 by omega, bcode, if_neg (fun q => q e2)]
  · rw [if_neg (fun q => q e1)]
section ML
variable {c : Int → Int} {L d0 l : Nat} {b n : Int} {T K F S T1 K1 F1 S1 : Int → Int}
theorem LI_0 (hd : d0 ≤ L) (hL : L ≤ 4) (hb : 0 ≤ b ∧ b < p4 d0) (hpre : ∀ (d : Nat) (x : Int), d ≤ L → 0 ≤ x → x < p4 d → d0 < d → anc (d - d0) x = b → LyM K F S d x) : LyI c L d0 l b n 0 T K F S (fup T n 0) K (fup F (off d0 + b) n) S := by
  refine ⟨fun j hj => fup_n _ (by simp [tsum] at hj; omega), fup_s _ _ _, fun q hq => by omega, fun d x _ _ _ _ h1 h2 => by omega, fun d x h1 h2 h3 h4 h5 h6 => ?_, ⟨rfl, fup_s _ _ _⟩, fun d x h1 h2 h3 h4 => ?_, fun k hk => rfl⟩
  · have he := hpre d x h1 h2 h3 h4 (by rw [anc_q h4]; omega)
    refine ⟨he.1, ?_, he.2.2⟩
    rw [fup_n _ (fun q => by have := (off_inj (by omega) (by omega) ⟨h2, h3⟩ hb q).1; omega)]
    exact he.2.1
  · refine ⟨rfl, ?_, rfl⟩
    rw [fup_n _ (fun q => ?_)]
    obtain ⟨e1, e2⟩ := off_inj (by omega) (by omega) ⟨h2, h3⟩ hb q
    exact h4 ⟨by omega, by rw [e1, e2, Nat.sub_self]; rfl⟩
theorem LI_end (hdl : d0 + (l + 1) = L) (h : LyI c L d0 l b n 4 T K F S T1 K1 F1 S1) (hL : L ≤ 4) (hb : 0 ≤ b ∧ b < p4 d0) : LyP c L d0 (l + 1) b n T K F S T1 K1 F1 (fup S1 (off d0 + b) (tsz c (l + 1) b)) := by
  obtain ⟨h1, h2, h3, h4, h5, h6, h7, h8⟩ := h
  refine ⟨fun j hj => h1 j (by rw [tsz] at hj; omega), ⟨h2, fun i hi q => h3 i hi q⟩, fun d x a1 a2 a3 a4 a5 => ?_, ⟨h6.1, h6.2, fup_s _ _ _⟩, fun d x a1 a2 a3 a4 => ?_, h8⟩
  · rw [anc_q a4] at a5
    have he := h4 d x a1 a2 a3 a4 (by omega) (by omega)
    refine ⟨he.1, he.2.1, ?_⟩
    rw [fup_n _ (fun q => by have := (off_inj (by omega) (by omega) ⟨a2, a3⟩ hb q).1; omega)]
    exact he.2.2
  · have he := h7 d x a1 a2 a3 a4
    refine ⟨he.1, he.2.1, ?_⟩
    rw [fup_n _ (fun q => ?_)]
    · exact he.2.2
    · obtain ⟨e1, e2⟩ := off_inj (by omega) (by omega) ⟨a2, a3⟩ hb q
      exact a4 ⟨by omega, by rw [e1, e2, Nat.sub_self]; rfl⟩
theorem kid_in (hdl : d0 + (l + 1) = L) (hL : L ≤ 4) (hb : 0 ≤ b ∧ b < p4 d0) {i : Nat} (hi : i < 4) : 0 ≤ 4 * b + (i : Int) ∧ 4 * b + (i : Int) < p4 ((d0 + 1 : Nat) : Int) := by
  have := p4_s (l := (d0 : Int)) (by omega)
  rw [show ((d0 + 1 : Nat) : Int) = (d0 : Int) + 1 by omega]
  omega
theorem kid_code (hdl : d0 + (l + 1) = L) (hs : sr c L 0 d0 b ≠ -1) {i : Nat} (hi : i < 4) : bcode c L (d0 + 1) (4 * b + i) = qcode c l b i := by
  rw [bcode, show (4 * b + (i : Int)) / 4 = b by omega, if_pos hs, show (4 * b + (i : Int)) % 4 = i by omega, Int.toNat_natCast, show (L : Int) - d0 - 1 = l by omega]
theorem kid_sr (hdl : d0 + (l + 1) = L) (hs : sr c L 0 d0 b = n) (hn : n ≠ -1) {i : Nat} (hi : i < 4) : sr c L 0 (d0 + 1) (4 * b + i) = if qcode c l b i = 2 then n + 1 + tsum c (tsz c l) l b i else -1 := by
  rw [sr_s, show (4 * b + (i : Int)) / 4 = b by omega, show (4 * b + (i : Int)) % 4 = i by omega, Int.toNat_natCast, show (L : Int) - d0 - 1 = l by omega, show L - d0 - 1 = l by omega, hs]
  by_cases g : qcode c l b i = 2
  · rw [if_pos ⟨hn, g⟩, if_pos g]
  · rw [if_neg (fun q => g q.2), if_neg g]
/-- a quarter that is left out -/
theorem LI_no (hdl : d0 + (l + 1) = L) (hL : L ≤ 4) (hb : 0 ≤ b ∧ b < p4 d0) (hs : sr c L 0 d0 b = n) (hn : n ≠ -1) {i : Nat} (hi : i < 4) (hq : qcode c l b i ≠ 2) (h : LyI c L d0 l b n i T K F S T1 K1 F1 S1) : LyI c L d0 l b n (i + 1) T K F S (fup T1 n (thd c l b (i + 1))) (fup K1 (off (d0 + 1) + (4 * b + i)) (qcode c l b i)) F1 S1 := by
  obtain ⟨h1, h2, h3, h4, h5, h6, h7, h8⟩ := h
  have hts : tsum c (tsz c l) l b (i + 1) = tsum c (tsz c l) l b i := by rw [tsum, if_neg hq, Int.add_zero]
  have hsz : ∀ x, 1 ≤ tsz c l x := fun x => (tsz_in c l x).1
  have ht0 : ∀ j : Nat, 0 ≤ tsum c (tsz c l) l b j := fun j => (tsum_in (m := tmax l) (fun x => tsz_in c l x) j).1
  have hk := kid_in hdl hL hb hi
  have hks := kid_sr hdl hs hn hi
  rw [if_neg hq] at hks
  refine ⟨fun j hj => ?_, fup_s _ _ _, fun q hq1 hq2 => ?_, fun d x a1 a2 a3 a4 a5 a6 => ?_, fun d x a1 a2 a3 a4 a5 a6 => ?_, ⟨?_, h6.2⟩, fun d x a1 a2 a3 a4 => ?_, fun k hk2 => by rw [fup_n _ (by have := off_lt (show d0 + 1 ≤ L by omega) hk.2; omega)]; exact h8 k hk2⟩
  · have := ht0 (i + 1)
    rw [fup_n _ (by omega)]
    exact h1 j (by omega)
  · have hqi : q ≠ i := fun e => hq (by rw [← e]; exact hq2)
    refine lay_congr l _ _ _ _ (h3 q (by omega) hq2) (fun j j0 j1 => ?_)
    have := ht0 q
    exact fup_n _ (by omega)
  · by_cases g : anc (d - d0 - 1) x < 4 * b + i
    · have he := h4 d x a1 a2 a3 a4 a5 g
      refine ⟨?_, he.2⟩
      rw [fup_n _ (fun q => ?_)]
      · exact he.1
      · obtain ⟨e1, e2⟩ := off_inj (by omega) (by omega) ⟨a2, a3⟩ hk q
        rw [e1, e2, show d0 + 1 - d0 - 1 = 0 by omega, anc] at g
        omega
    · have ga : anc (d - d0 - 1) x = 4 * b + i := by omega
      have he := h5 d x a1 a2 a3 a4 (by omega) (by omega)
      by_cases gd : d = d0 + 1
      · subst gd
        rw [show d0 + 1 - d0 - 1 = 0 by omega, anc] at ga
        subst ga
        exact ⟨by rw [fup_s, kid_code hdl (by omega) hi], he.2.1.trans hks.symm, he.2.2.trans (by rw [if_neg (fun q => q hks)])⟩
      · have he2 : LyM (fup K1 (off (d0 + 1) + (4 * b + i)) (qcode c l b i)) F1 S1 d x := ⟨by rw [fup_n _ (fun q => gd (off_inj (by omega) (by omega) ⟨a2, a3⟩ hk q).1)]; exact he.1, he.2⟩
        exact En_dead hks (by omega) a1 (by rw [show d - (d0 + 1) = d - d0 - 1 by omega]; exact ga) he2
  · have he := h5 d x a1 a2 a3 a4 (by omega) a6
    refine ⟨?_, he.2⟩
    rw [fup_n _ (fun q => ?_)]
    · exact he.1
    · obtain ⟨e1, e2⟩ := off_inj (by omega) (by omega) ⟨a2, a3⟩ hk q
      rw [e1, e2, show d0 + 1 - d0 - 1 = 0 by omega, anc] at a5
      omega
  · rw [fup_n _ (fun q => by have := (off_inj (by omega) (by omega) hb hk q).1; omega)]
    exact h6.1
  · have he := h7 d x a1 a2 a3 a4
    refine ⟨?_, he.2⟩
    rw [fup_n _ (fun q => ?_)]
    · exact he.1
    · obtain ⟨e1, e2⟩ := off_inj (by omega) (by omega) ⟨a2, a3⟩ hk q
      exact a4 ⟨by omega, by rw [e1, e2, show d0 + 1 - d0 = 1 by omega]; show (4 * b + (i : Int)) / 4 = b; omega⟩
end ML


/-! The class's answers are the model's: values of cells that are alike. -/
theorem frst_e {P P' : Int → Prop} {a n z : Int} (h : ∀ i, a ≤ i → i < n → (P i ↔ P' i)) (hf : frst P a n z) : frst P' a n z := by
  rcases hf with ⟨e, g⟩ | ⟨g1, g2, g3, g4⟩
  · exact Or.inl ⟨e, fun p p0 p1 q => g p p0 p1 ((h p p0 p1).2 q)⟩
  · exact Or.inr ⟨g1, g2, (h z g1 g2).1 g3, fun p p0 p1 q => g4 p p0 p1 ((h p p0 (by omega)).2 q)⟩
theorem bst_e {f g : Int → Int} {sk a : Int} (ha : 0 ≤ a) : ∀ n : Nat, (∀ i, a ≤ i → i < a + n → f i = g i) → bst f sk a n = bst g sk a n := by
  intro n
  induction n with
  | zero => intro _; rfl
  | succ n ih =>
    intro h
    have e := ih (fun i i0 i1 => h i i0 (by omega))
    have hb := bst_in g sk ha n
    rw [bst, bst, e, h (a + n) (by omega) (by omega)]
    by_cases q : bst g sk a n = -1
    · rw [q]
      by_cases w : a + (n : Int) ≠ sk
      · rw [if_pos ⟨w, Or.inl rfl⟩, if_pos ⟨w, Or.inl rfl⟩]
      · rw [if_neg (fun u => w u.1), if_neg (fun u => w u.1)]
    · rw [h (bst g sk a n) (by omega) (by omega)]
section VAL
variable {c c' e e' : Int → Int} {L : Nat} {b f t p q l x : Int}
theorem v_ones (h : cE c c' L) (hf : 0 ≤ f) (hft : f ≤ t) (ht : t < 8 * p4 L) : onesI c f t = zsum (bitP c') f (t - f + 1).toNat := by
  have hpL := p4_in (L : Int)
  rw [onesI_z hf hft (by omega)]
  exact zsum_bit_e h hf (by omega)
theorem v_all (h : cE c c' L) : onesI c 0 (8 * p4 L - 1) = zsum (bitP c') 0 (8 * p4 L).toNat := by
  have hpL := p4_in (L : Int)
  rw [v_ones h (Int.le_refl 0) (by omega) (by omega), show 8 * p4 (L : Int) - 1 - 0 + 1 = 8 * p4 (L : Int) by omega]
theorem v_runs (h : cE c c' L) : zsum (runsF c b) 0 (8 * p4 L).toNat = zsum (runsF c' b) 0 (8 * p4 L).toNat := by
  have hpL := p4_in (L : Int)
  refine zsum_congr (fun i i0 i1 => ?_)
  unfold runsF
  rw [cE_bit h i0 (by omega)]
  by_cases g : i = 0
  · exact zb_c ⟨fun w => ⟨w.1, Or.inl g⟩, fun w => ⟨w.1, Or.inl g⟩⟩
  · rw [cE_bit h (q := i - 1) (by omega) (by omega)]
theorem v_most (h : cE c c' L) : ∀ n : Nat, (n : Int) ≤ 8 * p4 L → runF c b n = runF c' b n ∧ mostF c b n = mostF c' b n := by
  intro n
  induction n with
  | zero => intro _; exact ⟨rfl, rfl⟩
  | succ n ih =>
    intro hn
    obtain ⟨h1, h2⟩ := ih (by omega)
    have e : runF c b (n + 1) = runF c' b (n + 1) := by rw [runF, runF, cE_bit h (q := (n : Int)) (by omega) (by omega), h1]
    exact ⟨e, by rw [mostF, mostF, h2, e]⟩
theorem v_byte {N N' : Int → Int} {i : Int} (hL : L ≤ 4) (h : cE c c' L) (h1 : lay c L 0 N 0) (h2 : lay c' L 0 N' 0) (hi : 0 ≤ i ∧ i < tsz c' L 0) : N i = N' i := by
  have h3 := lay_e L hL 0 N 0 (Int.le_refl 0) (cE_blk hL h ⟨by omega, Int.le_refl _⟩ ⟨Int.le_refl 0, by rw [show (L : Int) - L = 0 by omega]; decide⟩) h1
  have h4 := lay_un L 0 N N' 0 0 h3 h2 i hi.1 hi.2
  rw [Int.zero_add] at h4
  exact h4
theorem v_tcl (hL : L ≤ 4) (h : cE c c' L) : tcl c L = tcl c' L := zsum_congr (fun x x0 x1 => by
  have hpL := p4_in (L : Int)
  rw [sr_e hL h L (Nat.le_refl L) x x0 (by omega)])
theorem v_part (hL : L ≤ 4) (h : cE c c' L) : partF c L q = partF c' L q := by
  unfold partF
  rw [v_tcl hL h, tsz_eL hL h]
  have e : cwith c L (q - 2) L = cwith c' L (q - 2) L := zsum_congr (fun l l0 l1 => zsum_congr (fun x x0 x1 => by
    have hpl := p4_in ((L : Int) - l)
    rw [bcode_e hL h (d := ((L : Int) - l).toNat) (by omega) ⟨x0, by rw [show ((((L : Int) - l).toNat : Nat) : Int) = (L : Int) - l by omega]; omega⟩]))
  rw [e]
theorem v_blk (hL : L ≤ 4) (h : cE c c' L) (hl : 0 ≤ l ∧ l ≤ L) (hx : 0 ≤ x ∧ x < p4 ((L : Int) - l)) : blkF c L l x q = blkF c' L l x q := by
  obtain ⟨m, rfl⟩ := Int.eq_ofNat_of_zero_le hl.1
  have hbi := blk_in hL hl hx
  have hpL := p4_in (L : Int)
  have hpm := p4_in (m : Int)
  have hxd : 0 ≤ x ∧ x < p4 ((L - m : Nat) : Int) := ⟨hx.1, by rw [show ((L - m : Nat) : Int) = (L : Int) - m by omega]; exact hx.2⟩
  have hmul : 8 * p4 (m : Int) * x = 8 * (p4 (m : Int) * x) := Int.mul_assoc _ _ _
  unfold blkF
  rw [Int.toNat_natCast, bcode_e hL h (by omega) hxd, sr_e hL h (L - m) (by omega) x hxd.1 hxd.2, tsz_e hL h (l := m) (by omega) hx, v_ones h (by omega) (by omega) (by omega), onesI_z (c := c') (by omega) (by omega) (by omega)]
theorem v_tell (hL : L ≤ 4) (h : cE c c' L) {cell : Int} (hc : 0 ≤ cell) : ∀ (l : Nat), l ≤ L → ∀ b, 0 ≤ b → b < p4 ((L : Int) - l) → tellF c L cell l b = tellF c' L cell l b := by
  intro l
  induction l with
  | zero => intro _ b b0 b1; exact sr_e hL h L (Nat.le_refl L) b b0 (by rw [show (L : Int) - ((0 : Nat) : Int) = L by omega] at b1; exact b1)
  | succ l ih =>
    intro hl b b0 b1
    have b1' : b < p4 ((L : Int) - ((l : Int) + 1)) := by rw [show (L : Int) - ((l : Int) + 1) = (L : Int) - ((l + 1 : Nat) : Int) by omega]; exact b1
    have hbk : blkE c c' ((l : Int) + 1) b := cE_blk hL h (by omega) ⟨b0, b1'⟩
    have hq : 0 ≤ cell / p4 (l : Int) % 4 ∧ cell / p4 (l : Int) % 4 < 4 := by omega
    rw [tellF, tellF]
    generalize cell / p4 (l : Int) % 4 = qz at hq ⊢
    obtain ⟨qn, rfl⟩ := Int.eq_ofNat_of_zero_le hq.1
    rw [Int.toNat_natCast, qcode_e (by omega) b0 hbk (i := qn) (by omega), (qlast_c (by omega) b0 hbk qn (by omega)).1, show L - l - 1 = L - (l + 1) by omega, sr_e hL h (L - (l + 1)) (by omega) b b0 (by rw [show ((L - (l + 1) : Nat) : Int) = (L : Int) - ((l : Int) + 1) by omega]; exact b1')]
    have hkid := fun (j : Nat) (hj : j < 4) => p4_kid (l := l) (L := L) (x := b) (by omega) hL ⟨b0, b1'⟩ hj
    by_cases g : qcode c' (l : Int) b qn < 2
    · rw [if_pos g, if_pos g]
    · rw [if_neg g, if_neg g]
      by_cases g2 : qcode c' (l : Int) b qn = 2
      · rw [if_pos g2]
        have := hkid qn (by omega)
        exact ih (by omega) _ this.1 this.2
      · rw [if_neg g2]
        have hq3 := qcode_in c' (l : Int) b qn
        have h3 := qcode_3 (show qcode c' (l : Int) b qn = 3 by omega)
        have hli := (qlast_in c' (l : Int) b qn).resolve_left h3
        have := hkid (qlast c' (l : Int) b qn - 4 * b).toNat (by omega)
        rw [show 4 * b + (((qlast c' (l : Int) b qn - 4 * b).toNat : Nat) : Int) = qlast c' (l : Int) b qn by omega] at this
        exact ih (by omega) _ this.1 this.2
theorem v_teller (hL : L ≤ 4) (h : cE c c' L) {cell : Int} (hc : 0 ≤ cell) : tellF c L cell L 0 = tellF c' L cell L 0 := v_tell hL h hc L (Nat.le_refl L) 0 (Int.le_refl 0) (by rw [show (L : Int) - L = 0 by omega]; decide)
theorem v_low {z z' : Int} (hL : L ≤ 4) (h : cE c c' L) (h1 : lowP c L z) (h2 : lowP c' L z') : z = z' := by
  obtain ⟨l, rfl, hl, ⟨x, x0, x1, hx⟩, hlo⟩ := h1
  obtain ⟨l', rfl, hl', ⟨x', x0', x1', hx'⟩, hlo'⟩ := h2
  have e : ∀ (k : Nat), k ≤ L → ∀ y, 0 ≤ y → y < p4 ((L : Int) - k) → sr c L 0 (L - k) y = sr c' L 0 (L - k) y := fun k hk y y0 y1 => sr_e hL h (L - k) (by omega) y y0 (by rw [show ((L - k : Nat) : Int) = (L : Int) - k by omega]; exact y1)
  by_cases g : l < l'
  · exact absurd (hlo' l g x x0 x1) (by rw [← e l hl x x0 x1]; exact hx)
  · by_cases g2 : l' < l
    · exact absurd (hlo l' g2 x' x0' x1') (by rw [e l' hl' x' x0' x1']; exact hx')
    · omega
theorem v_big {v z z' : Int} (hL : L ≤ 4) (h : cE c c' L) (h1 : bigF c L v z) (h2 : bigF c' L v z') : z = z' := by
  obtain ⟨f, hf, rfl⟩ := h1
  obtain ⟨f', hf', rfl⟩ := h2
  have e : ∀ (d : Nat), d ≤ L → ∀ y, 0 ≤ y → y < p4 d → bcode c L d y = bcode c' L d y := fun d hd y y0 y1 => bcode_e hL h hd ⟨y0, y1⟩
  have key : f = f' := by
    rcases hf with ⟨rfl, hn⟩ | ⟨d, b, d0, d1, b0, b1, hb, rfl, hlo, hup⟩
    · rcases hf' with ⟨rfl, _⟩ | ⟨d', b', d0', d1', b0', b1', hb', rfl, _, _⟩
      · rfl
      · exact absurd hb' (by rw [← e d' d1' b' b0' b1']; exact hn d' b' d0' d1' b0' b1')
    · rcases hf' with ⟨rfl, hn'⟩ | ⟨d', b', d0', d1', b0', b1', hb', rfl, hlo', hup'⟩
      · exact absurd hb (by rw [e d d1 b b0 b1]; exact hn' d b d0 d1 b0 b1)
      · have ed : d = d' := by
          by_cases g : d < d'
          · exact absurd hb (by rw [e d d1 b b0 b1]; exact hup' d b d0 g b0 b1)
          · by_cases g2 : d' < d
            · exact absurd hb' (by rw [← e d' d1' b' b0' b1']; exact hup d' b' d0' g2 b0' b1')
            · omega
        subst ed
        have eb : b = b' := by
          by_cases g : b < b'
          · exact absurd hb (by rw [e d d1 b b0 b1]; exact hlo' b b0 g)
          · by_cases g2 : b' < b
            · exact absurd hb' (by rw [← e d d1 b' b0' b1']; exact hlo b' b0' g2)
            · omega
        rw [eb]
  rw [key]
theorem v_unl (h : cE c c' L) (h2 : cE e e' L) {g m : Int} (hf : 0 ≤ f ∧ f + m ≤ p4 L) (hg : 0 ≤ g ∧ g + m ≤ p4 L) (hm : 0 ≤ m) : unl c e f g m = unl c' e' f g m := by
  refine zsum_congr (fun i i0 i1 => ?_)
  rw [h (f + i) (by omega) (by omega), h2 (g + i) (by omega) (by omega)]
/-- nothing stands behind the cells of the level -/
def zE (c : Int → Int) (L : Nat) : Prop := ∀ i, p4 L ≤ i → i < 256 → c i = 0
theorem zsum_cut {F : Int → Int} (n m : Nat) (hn : n ≤ m) (h : ∀ i : Int, (n : Int) ≤ i → i < m → F i = 0) : zsum F 0 m = zsum F 0 n := by
  rw [show m = n + (m - n) by omega, zsum_add, zsum_0 (f := F) (a := 0 + (n : Int)) (fun i i0 i1 => h i (by omega) (by omega))]
  omega
theorem v_dist (h : cE c c' L) (h2 : cE e e' L) (z1 : zE c' L) (z2 : zE e' L) : unl c e 0 0 (p4 L) = unl c' e' 0 0 256 := by
  have hpL := p4_in (L : Int)
  rw [v_unl h h2 (by omega) (by omega) (by omega)]
  unfold unl
  refine (zsum_cut (F := fun i => zpop (zxor (c' (0 + i)) (e' (0 + i)))) (p4 (L : Int)).toNat 256 (by omega) (fun i i0 i1 => ?_)).symm
  rw [Int.zero_add, z1 i (by omega) (by omega), z2 i (by omega) (by omega)]
  decide
theorem zsum_pop (c : Int → Int) (hb : ∀ i, 0 ≤ i → i < 256 → 0 ≤ c i ∧ c i < 256) : ∀ n : Nat, n ≤ 256 → zsum (fun i => zpop (c i)) 0 n = zsum (bitP c) 0 (8 * n) := by
  intro n
  induction n with
  | zero => intro _; rfl
  | succ n ih =>
    intro hn
    rw [zsum, show 8 * (n + 1) = 8 * n + 8 by omega, zsum_add, ← ih (by omega), zsum_8, Int.zero_add]
    have hj : ∀ j : Int, 0 ≤ j → j < 8 → bitP c (((8 * n : Nat) : Int) + j) = zbit (c n) j := fun j j0 j1 => by
      rw [show ((8 * n : Nat) : Int) + j = 8 * (n : Int) + j by omega]
      exact bitP_at c j0 j1
    have h0 := hj 0 (by omega) (by omega)
    rw [Int.add_zero] at h0
    rw [show (0 : Int) + ((8 * n : Nat) : Int) = ((8 * n : Nat) : Int) by omega, h0, hj 1 (by omega) (by omega), hj 2 (by omega) (by omega), hj 3 (by omega) (by omega), hj 4 (by omega) (by omega), hj 5 (by omega) (by omega), hj 6 (by omega) (by omega), hj 7 (by omega) (by omega)]
    rfl
theorem v_mg (h : cE c c' L) (h2 : cE e e' L) : cE (fun i => mgF q (c i) (e i)) (fun i => mgF q (c' i) (e' i)) L := fun i i0 i1 => by
  dsimp only
  rw [h i i0 i1, h2 i i0 i1]
theorem v_common (h : cE c c' L) (h2 : cE e e' L) (z1 : zE c' L) (b1 : ∀ i, 0 ≤ i → i < 256 → 0 ≤ c' i ∧ c' i < 256) (b2 : ∀ i, 0 ≤ i → i < 256 → 0 ≤ e' i ∧ e' i < 256) : onesI (fun i => mgF 1 (c i) (e i)) 0 (8 * p4 L - 1) = zsum (fun i => zpop (zand (c' i) (e' i))) 0 256 := by
  have hpL := p4_in (L : Int)
  rw [v_all (v_mg (q := 1) h h2)]
  have hb : ∀ i, 0 ≤ i → i < 256 → 0 ≤ (fun i => zand (c' i) (e' i)) i ∧ (fun i => zand (c' i) (e' i)) i < 256 := fun i i0 i1 => zand_in (b1 i i0 i1) (b2 i i0 i1)
  have e1 := zsum_pop (fun i => zand (c' i) (e' i)) hb (p4 (L : Int)).toNat (by omega)
  rw [show (8 * p4 (L : Int)).toNat = 8 * (p4 (L : Int)).toNat by omega]
  refine Eq.trans ?_ (e1.symm.trans (zsum_cut (F := fun i => zpop (zand (c' i) (e' i))) (p4 (L : Int)).toNat 256 (by omega) (fun i i0 i1 => ?_)).symm)
  · rfl
  · rw [z1 i (by omega) (by omega), zand_byte ⟨Int.le_refl 0, by decide⟩ (b2 i (by omega) (by omega))]
    have : ofBits (fun j => zbit 0 j * zbit (e' i) j) = 0 := by
      have e0 : ∀ j, 0 ≤ j → j < 8 → (fun j => zbit 0 j * zbit (e' i) j) j = (fun _ => (0 : Int)) j := fun j j0 j1 => by
        dsimp only
        have hz : zbit 0 j = 0 := by unfold zbit; rw [Int.zero_ediv]; rfl
        rw [hz, Int.zero_mul]
      rw [ofBits_congr e0]
      decide
    rw [this]
    decide
theorem v_within (h : cE c c' L) (h2 : cE e e' L) (z1 : zE c' L) (b1 : ∀ i, 0 ≤ i → i < 256 → 0 ≤ c' i ∧ c' i < 256) (b2 : ∀ i, 0 ≤ i → i < 256 → 0 ≤ e' i ∧ e' i < 256) : zb (onesI (fun i => mgF 2 (c i) (e i)) 0 (8 * p4 L - 1) = 0) = zb (∀ i, 0 ≤ i → i < 256 → zand (c' i) (zxor (e' i) (-1)) = 0) := by
  have hpL := p4_in (L : Int)
  refine zb_c ?_
  rw [v_all (v_mg (q := 2) h h2)]
  have hb : ∀ i, 0 ≤ i → i < 256 → 0 ≤ (fun i => zand (c' i) (zxor (e' i) (-1))) i ∧ (fun i => zand (c' i) (zxor (e' i) (-1))) i < 256 := fun i i0 i1 => zandn_in (b1 i i0 i1) (b2 i i0 i1)
  rw [show zsum (bitP (fun i => mgF 2 (c' i) (e' i))) 0 (8 * p4 (L : Int)).toNat = 0 ↔ ∀ i, (0 : Int) ≤ i → i < 0 + (((8 * p4 (L : Int)).toNat : Nat) : Int) → bitP (fun i => mgF 2 (c' i) (e' i)) i = 0 from zsum_00 (fun i _ _ => by have := bitP_01 (fun i => mgF 2 (c' i) (e' i)) i; omega)]
  constructor
  · intro q i i0 i1
    by_cases g : i < p4 L
    · refine byte_ext (hb i i0 i1) ⟨Int.le_refl 0, by decide⟩ (fun j j0 j1 => ?_)
      have hq := q (8 * i + j) (by omega) (by omega)
      rw [bitP_at _ j0 j1] at hq
      have hz : zbit 0 j = 0 := by unfold zbit; rw [Int.zero_ediv]; rfl
      rw [hz]
      exact hq
    · rw [z1 i (by omega) i1]
      have : ∀ y : Int, 0 ≤ y ∧ y < 256 → zand 0 (zxor y (-1)) = 0 := fun y hy => by
        have hin := zandn_in (a := 0) (b := y) ⟨Int.le_refl 0, by decide⟩ hy
        rw [zandn_byte ⟨Int.le_refl 0, by decide⟩ hy]
        have e0 : ∀ j, 0 ≤ j → j < 8 → (fun j => zbit 0 j - zbit 0 j * zbit y j) j = (fun _ => (0 : Int)) j := fun j j0 j1 => by
          dsimp only
          have hz : zbit 0 j = 0 := by unfold zbit; rw [Int.zero_ediv]; rfl
          rw [hz, Int.zero_mul]
          rfl
        rw [ofBits_congr e0]
        decide
      exact this _ (b2 i i0 i1)
  · intro q i i0 i1
    unfold bitP
    have e0 : mgF 2 (c' (i / 8)) (e' (i / 8)) = 0 := q (i / 8) (by omega) (by omega)
    dsimp only
    rw [e0]
    unfold zbit
    rw [Int.zero_ediv]
    rfl
theorem v_alike (hL : L ≤ 4) (h : cE c c' L) (h2 : cE e e' L) (hl : 0 ≤ l ∧ l ≤ L) : zsum (fun x => zb (∀ j, 0 ≤ j → j < p4 l → c (p4 l * x + j) = e (p4 l * x + j))) 0 (p4 ((L : Int) - l)).toNat = zsum (fun x => zb (∀ j, 0 ≤ j → j < p4 l → c' (p4 l * x + j) = e' (p4 l * x + j))) 0 (p4 ((L : Int) - l)).toNat := by
  have hpd := p4_in ((L : Int) - l)
  refine zsum_congr (fun x x0 x1 => zb_c ?_)
  have hbi := blk_in hL hl (x := x) ⟨x0, by omega⟩
  constructor
  · intro q j j0 j1; rw [← h _ (by omega) (by omega), ← h2 _ (by omega) (by omega)]; exact q j j0 j1
  · intro q j j0 j1; rw [h _ (by omega) (by omega), h2 _ (by omega) (by omega)]; exact q j j0 j1
theorem v_bil (h : cE c c' L) (hf : 0 ≤ f) : ∀ n : Nat, f + n ≤ 8 * p4 L → bil c f n = bil c' f n := by
  intro n
  induction n with
  | zero => intro _; rfl
  | succ n ih => intro hn; rw [bil, bil, ih (by omega), cE_bit h (q := f + n) (by omega) (by omega)]
theorem v_byl {N N' : Int → Int} : ∀ n : Nat, (∀ i : Int, 0 ≤ i → i < n → N i = N' i) → byl N n = byl N' n := by
  intro n
  induction n with
  | zero => intro _; rfl
  | succ n ih => intro h; rw [byl, byl, ih (fun i i0 i1 => h i i0 (by omega)), h n (by omega) (by omega)]
theorem v_sq {sub sub' : Int → List Int} {l : Nat} {b : Int} (hl : l < 4) (hb : 0 ≤ b) (h : blkE c c' ((l : Int) + 1) b) (hs : ∀ i : Nat, i < 4 → sub (4 * b + i) = sub' (4 * b + i)) : ∀ i : Nat, i ≤ 4 → sq c sub l b i = sq c' sub' l b i := by
  intro i
  induction i with
  | zero => intro _; rfl
  | succ i ih => intro hi; rw [sq, sq, ih (by omega), qcode_e (by omega) hb h (i := i) (by omega), hs i (by omega)]
theorem v_spl : ∀ (l : Nat), l ≤ 4 → ∀ b, 0 ≤ b → blkE c c' l b → spl c l b = spl c' l b := by
  intro l
  induction l with
  | zero =>
    intro _ b b0 h
    have e0 := h 0 (Int.le_refl 0) (by decide)
    rw [show p4 ((0 : Nat) : Int) * b + 0 = b by rw [show p4 ((0 : Nat) : Int) = 1 from by decide]; omega] at e0
    rw [spl, spl, e0]
  | succ l ih =>
    intro hl b b0 h
    have h' : blkE c c' ((l : Int) + 1) b := by rw [show ((l + 1 : Nat) : Int) = (l : Int) + 1 by omega] at h; exact h
    rw [spl, spl, v_sq (by omega) b0 h' (fun i hi => ih (by omega) _ (by omega) (blkE_kid ⟨by omega, by omega⟩ h' (by omega))) 4 (Nat.le_refl 4)]
end VAL


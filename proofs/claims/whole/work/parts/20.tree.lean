/-! Trees of a row of cells c: codes, sizes, starts, bytes. Levels are told as Nat where they are counted down. -/
noncomputable def cif (p : Prop) (a b : Int) : Int := @ite Int p (Classical.propDecidable p) a b
theorem cif_t {p : Prop} {a b : Int} (h : p) : cif p a b = a := by unfold cif; exact if_pos h
theorem cif_f {p : Prop} {a b : Int} (h : ¬ p) : cif p a b = b := by unfold cif; exact if_neg h
theorem p4_0 : p4 0 = 1 := by decide
theorem p4_s {l : Int} (h : 0 ≤ l ∧ l < 4) : p4 (l + 1) = 4 * p4 l := by
  have : l = 0 ∨ l = 1 ∨ l = 2 ∨ l = 3 := by omega
  rcases this with h | h | h | h <;> subst h <;> decide
theorem p4_in (l : Int) : 1 ≤ p4 l ∧ p4 l ≤ 256 := by
  unfold p4
  by_cases h0 : l ≤ 0
  · rw [if_pos h0]; omega
  · rw [if_neg h0]
    by_cases h1 : l = 1
    · rw [if_pos h1]; omega
    · rw [if_neg h1]
      by_cases h2 : l = 2
      · rw [if_pos h2]; omega
      · rw [if_neg h2]
        by_cases h3 : l = 3
        · rw [if_pos h3]; omega
        · rw [if_neg h3]; omega
def allv (c : Int → Int) (l b v : Int) : Prop := ∀ k, 0 ≤ k → k < p4 l → c (p4 l * b + k) = v
def same (c : Int → Int) (l a b : Int) : Prop := ∀ k, 0 ≤ k → k < p4 l → c (p4 l * a + k) = c (p4 l * b + k)
theorem same_rf {c : Int → Int} {l a : Int} : same c l a a := fun _ _ _ => rfl
theorem same_sy {c : Int → Int} {l a b : Int} (h : same c l a b) : same c l b a := fun k h1 h2 => (h k h1 h2).symm
theorem same_tr {c : Int → Int} {l a b d : Int} (h : same c l a b) (h' : same c l b d) : same c l a d := fun k h1 h2 => (h k h1 h2).trans (h' k h1 h2)
/-- the quarters of a block -/
theorem p4_split {l : Int} (h : 0 ≤ l ∧ l < 4) {k : Int} (h0 : 0 ≤ k) (h1 : k < p4 (l + 1)) : ∃ q j : Int, 0 ≤ q ∧ q < 4 ∧ 0 ≤ j ∧ j < p4 l ∧ k = p4 l * q + j := by
  have e := p4_s h
  have hp := p4_in l
  generalize p4 l = P at *
  by_cases a1 : k < P
  · exact ⟨0, k, by omega, by omega, h0, a1, by omega⟩
  · by_cases a2 : k < 2 * P
    · exact ⟨1, k - P, by omega, by omega, by omega, by omega, by omega⟩
    · by_cases a3 : k < 3 * P
      · exact ⟨2, k - 2 * P, by omega, by omega, by omega, by omega, by omega⟩
      · exact ⟨3, k - 3 * P, by omega, by omega, by omega, by omega, by omega⟩
theorem p4_quart {l : Int} (h : 0 ≤ l ∧ l < 4) (b q j : Int) : p4 (l + 1) * b + (p4 l * q + j) = p4 l * (4 * b + q) + j := by
  rw [p4_s h, Int.mul_add, ← Int.mul_assoc, Int.mul_comm (p4 l) 4, Int.add_assoc]
theorem p4_qin {l : Int} (h : 0 ≤ l ∧ l < 4) {q j : Int} (hq : 0 ≤ q ∧ q < 4) (hj : 0 ≤ j ∧ j < p4 l) : 0 ≤ p4 l * q + j ∧ p4 l * q + j < p4 (l + 1) := by
  rw [p4_s h]
  have hp := p4_in l
  generalize p4 l = P at *
  rcases q4_cases hq with e | e | e | e <;> subst e <;> omega
theorem allv_s {c : Int → Int} {l b v : Int} (h : 0 ≤ l ∧ l < 4) : allv c (l + 1) b v ↔ ∀ q, 0 ≤ q → q < 4 → allv c l (4 * b + q) v := by
  constructor
  · intro a q q0 q1 k k0 k1
    rw [← p4_quart h]
    exact a _ (p4_qin h ⟨q0, q1⟩ ⟨k0, k1⟩).1 (p4_qin h ⟨q0, q1⟩ ⟨k0, k1⟩).2
  · intro a k k0 k1
    obtain ⟨q, j, q0, q1, j0, j1, rfl⟩ := p4_split h k0 k1
    rw [p4_quart h]
    exact a q q0 q1 j j0 j1
theorem same_s {c : Int → Int} {l a b : Int} (h : 0 ≤ l ∧ l < 4) : same c (l + 1) a b ↔ ∀ q, 0 ≤ q → q < 4 → same c l (4 * a + q) (4 * b + q) := by
  constructor
  · intro e q q0 q1 k k0 k1
    rw [← p4_quart h, ← p4_quart h]
    exact e _ (p4_qin h ⟨q0, q1⟩ ⟨k0, k1⟩).1 (p4_qin h ⟨q0, q1⟩ ⟨k0, k1⟩).2
  · intro e k k0 k1
    obtain ⟨q, j, q0, q1, j0, j1, rfl⟩ := p4_split h k0 k1
    rw [p4_quart h, p4_quart h]
    exact e q q0 q1 j j0 j1
theorem allv_0 {c : Int → Int} {b v : Int} : allv c 0 b v ↔ c b = v := by
  constructor
  · intro h; have := h 0 (by omega) (by decide); rwa [p4_0, show 1 * b + 0 = b by omega] at this
  · intro h k k0 k1; rw [p4_0] at *; rw [show 1 * b + k = b by omega]; exact h
theorem same_0 {c : Int → Int} {a b : Int} : same c 0 a b ↔ c a = c b := by
  constructor
  · intro h; have := h 0 (by omega) (by decide); rwa [p4_0, show 1 * a + 0 = a by omega, show 1 * b + 0 = b by omega] at this
  · intro h k k0 k1; rw [p4_0] at *; rw [show 1 * b + k = b by omega, show 1 * a + k = a by omega]; exact h
/-- the code of the quarter x, if last is the last one ahead with the code 2 -/
noncomputable def tc (c : Int → Int) (l x last : Int) : Int := cif (allv c l x 0) 0 (cif (allv c l x 255) 1 (cif (last ≠ -1 ∧ same c l last x) 3 2))
noncomputable def qlast (c : Int → Int) (l B : Int) : Nat → Int
  | 0 => -1
  | i + 1 => if tc c l (4 * B + i) (qlast c l B i) = 2 then 4 * B + i else qlast c l B i
noncomputable def qcode (c : Int → Int) (l B : Int) (i : Nat) : Int := tc c l (4 * B + i) (qlast c l B i)
theorem tc_in (c : Int → Int) (l x last : Int) : 0 ≤ tc c l x last ∧ tc c l x last < 4 := by
  unfold tc cif
  by_cases h0 : allv c l x 0
  · rw [if_pos h0]; omega
  · rw [if_neg h0]
    by_cases h1 : allv c l x 255
    · rw [if_pos h1]; omega
    · rw [if_neg h1]
      by_cases h2 : last ≠ -1 ∧ same c l last x
      · rw [if_pos h2]; omega
      · rw [if_neg h2]; omega
theorem qcode_in (c : Int → Int) (l B : Int) (i : Nat) : 0 ≤ qcode c l B i ∧ qcode c l B i < 4 := tc_in _ _ _ _
theorem qlast_s (c : Int → Int) (l B : Int) (i : Nat) : qlast c l B (i + 1) = if qcode c l B i = 2 then 4 * B + i else qlast c l B i := rfl
theorem qlast_in (c : Int → Int) (l B : Int) : ∀ i : Nat, qlast c l B i = -1 ∨ (4 * B ≤ qlast c l B i ∧ qlast c l B i < 4 * B + i) := by
  intro i
  induction i with
  | zero => exact Or.inl rfl
  | succ i ih =>
    rw [qlast_s]
    by_cases h : qcode c l B i = 2
    · rw [if_pos h]; omega
    · rw [if_neg h]; omega
noncomputable def tsum (c : Int → Int) (sub : Int → Int) (l B : Int) : Nat → Int
  | 0 => 0
  | i + 1 => tsum c sub l B i + (if qcode c l B i = 2 then sub (4 * B + i) else 0)
/-- how many bytes the tree of a block has -/
noncomputable def tsz (c : Int → Int) : Nat → Int → Int
  | 0, _ => 1
  | l + 1, b => 1 + tsum c (tsz c l) l b 4
def tmax : Nat → Int
  | 0 => 1
  | l + 1 => 1 + 4 * tmax l
theorem tsum_in {c sub : Int → Int} {l B m : Int} (hs : ∀ x, 1 ≤ sub x ∧ sub x ≤ m) : ∀ i : Nat, 0 ≤ tsum c sub l B i ∧ tsum c sub l B i ≤ i * m := by
  intro i
  induction i with
  | zero => simp [tsum]
  | succ i ih =>
    rw [tsum]
    have h1 := hs (4 * B + i)
    have e : ((i + 1 : Nat) : Int) * m = i * m + m := by rw [Int.natCast_add, Int.add_mul]; simp
    rw [e]
    by_cases h : qcode c l B i = 2
    · rw [if_pos h]; omega
    · rw [if_neg h]; omega
theorem tsz_in (c : Int → Int) : ∀ (l : Nat) (b : Int), 1 ≤ tsz c l b ∧ tsz c l b ≤ tmax l := by
  intro l
  induction l with
  | zero => intro b; simp [tsz, tmax]
  | succ l ih =>
    intro b
    have := tsum_in (c := c) (l := l) (B := b) (ih ·) 4
    rw [tsz, tmax]
    simp at this
    omega
theorem tsum_mono {c sub : Int → Int} {l B : Int} (hs : ∀ x, 1 ≤ sub x) : ∀ {i j : Nat}, i ≤ j → tsum c sub l B i ≤ tsum c sub l B j := by
  intro i j h
  induction j with
  | zero => rw [show i = 0 by omega]; omega
  | succ j ih =>
    by_cases e : i = j + 1
    · rw [e]; omega
    · have := ih (by omega)
      rw [tsum]
      have h1 := hs (4 * B + j)
      by_cases h : qcode c l B j = 2
      · rw [if_pos h]; omega
      · rw [if_neg h]; omega
theorem tsum_lt {c sub : Int → Int} {l B : Int} (hs : ∀ x, 1 ≤ sub x) {i j : Nat} (h : i < j) (hq : qcode c l B i = 2) : tsum c sub l B i + sub (4 * B + i) ≤ tsum c sub l B j := by
  have := tsum_mono (c := c) (l := l) (B := B) hs (show i + 1 ≤ j from h)
  rw [tsum, if_pos hq] at this
  exact this
/-- the head, quarter by quarter -/
noncomputable def thd (c : Int → Int) (l B : Int) : Nat → Int
  | 0 => 0
  | i + 1 => zor (thd c l B i) (zshl (qcode c l B i) (2 * (i : Int)))
theorem thd_or : ∀ i : Fin 4, ∀ a : Fin (4 ^ i.val), ∀ k : Fin 4, zor (a.val : Int) (zshl (k.val : Int) (2 * (i.val : Int))) = (a.val : Int) + (k.val : Int) * 4 ^ i.val := by decide +kernel
theorem thd_in (c : Int → Int) (l B : Int) : ∀ i : Nat, i ≤ 4 → 0 ≤ thd c l B i ∧ thd c l B i < 4 ^ i := by
  intro i
  induction i with
  | zero => intro _; simp [thd]
  | succ i ih =>
    intro hi
    have h1 := ih (by omega)
    have h2 := qcode_in c l B i
    rw [thd]
    generalize thd c l B i = a at *
    generalize qcode c l B i = k at *
    obtain ⟨a, rfl⟩ := z_nat h1.1
    obtain ⟨k, rfl⟩ := z_nat h2.1
    have ha : a < 4 ^ i := by have := h1.2; exact_mod_cast this
    have e := thd_or ⟨i, by omega⟩ ⟨a, ha⟩ ⟨k, by omega⟩
    simp only at e
    rw [e]
    have : i = 0 ∨ i = 1 ∨ i = 2 ∨ i = 3 := by omega
    rcases this with r | r | r | r <;> subst r <;> simp at * <;> omega
theorem thd_byte (c : Int → Int) (l B : Int) : 0 ≤ thd c l B 4 ∧ thd c l B 4 < 256 := by
  have := thd_in c l B 4 (by omega)
  simpa using this
/-- where the tree of a block begins, d levels below a block of the level l that begins at a; -1 of one that is not told -/
noncomputable def sr (c : Int → Int) (l : Nat) (a : Int) : Nat → Int → Int
  | 0, _ => a
  | d + 1, x => if sr c l a d (x / 4) ≠ -1 ∧ qcode c ((l : Int) - d - 1) (x / 4) (x % 4).toNat = 2 then sr c l a d (x / 4) + 1 + tsum c (tsz c (l - d - 1)) ((l : Int) - d - 1) (x / 4) (x % 4).toNat else -1
def anc : Nat → Int → Int
  | 0, x => x
  | d + 1, x => anc d (x / 4)
theorem sr_0 (c : Int → Int) (l : Nat) (a x : Int) : sr c l a 0 x = a := rfl
theorem sr_s (c : Int → Int) (l : Nat) (a : Int) (d : Nat) (x : Int) : sr c l a (d + 1) x = if sr c l a d (x / 4) ≠ -1 ∧ qcode c ((l : Int) - d - 1) (x / 4) (x % 4).toNat = 2 then sr c l a d (x / 4) + 1 + tsum c (tsz c (l - d - 1)) ((l : Int) - d - 1) (x / 4) (x % 4).toNat else -1 := rfl
theorem sr_child {c : Int → Int} {l : Nat} {a : Int} (ha : a ≠ -1) : ∀ (d : Nat), d ≤ l → ∀ (x : Int), sr c (l + 1) a (d + 1) x = if qcode c l (anc d x / 4) (anc d x % 4).toNat = 2 then sr c l (a + 1 + tsum c (tsz c l) l (anc d x / 4) (anc d x % 4).toNat) d x else -1 := by
  intro d
  induction d with
  | zero =>
    intro _ x
    have e1 : ((l + 1 : Nat) : Int) - ((0 : Nat) : Int) - 1 = l := by omega
    have e2 : l + 1 - 0 - 1 = l := by omega
    rw [sr_s, e1, e2, sr_0]
    show _ = if qcode c l (x / 4) (x % 4).toNat = 2 then sr c l (a + 1 + tsum c (tsz c l) l (x / 4) (x % 4).toNat) 0 x else -1
    rw [sr_0]
    by_cases h : qcode c l (x / 4) (x % 4).toNat = 2
    · rw [if_pos ⟨ha, h⟩, if_pos h]
    · rw [if_neg (fun q => h q.2), if_neg h]
  | succ d ih =>
    intro hd x
    rw [sr, ih (by omega) (x / 4)]
    have e1 : ((l + 1 : Nat) : Int) - ((d + 1 : Nat) : Int) - 1 = (l : Int) - d - 1 := by omega
    have e2 : l + 1 - (d + 1) - 1 = l - d - 1 := by omega
    rw [e1, e2]
    show _ = if qcode c l (anc d (x / 4) / 4) (anc d (x / 4) % 4).toNat = 2 then _ else _
    by_cases h : qcode c l (anc d (x / 4) / 4) (anc d (x / 4) % 4).toNat = 2
    · simp only [if_pos h]
      rfl
    · simp only [if_neg h]
      rw [if_neg (fun q => q.1 rfl)]
theorem sr_nn {c : Int → Int} {l : Nat} {a : Int} (ha : 0 ≤ a) : ∀ (d : Nat) (x : Int), sr c l a d x = -1 ∨ a ≤ sr c l a d x := by
  intro d
  induction d with
  | zero => intro x; exact Or.inr (Int.le_refl a)
  | succ d ih =>
    intro x
    rw [sr]
    by_cases h : sr c l a d (x / 4) ≠ -1 ∧ qcode c ((l : Int) - d - 1) (x / 4) (x % 4).toNat = 2
    · rw [if_pos h]
      have := ih (x / 4)
      have h2 := (tsum_in (c := c) (l := ((l : Int) - d - 1)) (B := x / 4) (tsz_in c (l - d - 1)) (x % 4).toNat).1
      have := h.1
      omega
    · rw [if_neg h]; exact Or.inl rfl
theorem sr_up {c : Int → Int} {l : Nat} {a : Int} {d : Nat} (hd : d < l) {x : Int} (h : sr c l a (d + 1) x ≠ -1) (ha : 0 ≤ a) : sr c l a d (x / 4) ≠ -1 ∧ qcode c ((l : Int) - d - 1) (x / 4) (x % 4).toNat = 2 ∧ sr c l a d (x / 4) < sr c l a (d + 1) x ∧ sr c l a (d + 1) x + tsz c (l - d - 1) x ≤ sr c l a d (x / 4) + tsz c (l - d) (x / 4) := by
  rw [sr] at h
  by_cases hc : sr c l a d (x / 4) ≠ -1 ∧ qcode c ((l : Int) - d - 1) (x / 4) (x % 4).toNat = 2
  · have e : sr c l a (d + 1) x = sr c l a d (x / 4) + 1 + tsum c (tsz c (l - d - 1)) ((l : Int) - d - 1) (x / 4) (x % 4).toNat := by rw [sr, if_pos hc]
    have h1 := (tsum_in (c := c) (l := ((l : Int) - d - 1)) (B := x / 4) (tsz_in c (l - d - 1)) (x % 4).toNat).1
    have h2 := tsum_lt (c := c) (sub := tsz c (l - d - 1)) (l := ((l : Int) - d - 1)) (B := x / 4) (fun y => (tsz_in c _ y).1) (i := (x % 4).toNat) (j := 4) (by omega) hc.2
    have e2 : 4 * (x / 4) + ((x % 4).toNat : Int) = x := by omega
    rw [e2] at h2
    have e3 : tsz c (l - d) (x / 4) = 1 + tsum c (tsz c (l - d - 1)) ((l : Int) - d - 1) (x / 4) 4 := by
      rw [show l - d = (l - d - 1) + 1 by omega, tsz]
      have : ((l - d - 1 : Nat) : Int) = (l : Int) - d - 1 := by omega
      rw [this]
      rfl
    rw [e3, e]
    exact ⟨hc.1, hc.2, by omega, by omega⟩
  · rw [if_neg hc] at h
    exact absurd rfl h
theorem sr_dis {c : Int → Int} {l : Nat} {a : Int} (ha : 0 ≤ a) : ∀ (d : Nat), d ≤ l → ∀ (x y : Int), anc d x = anc d y → x ≠ y → sr c l a d x ≠ -1 → sr c l a d y ≠ -1 → sr c l a d x + tsz c (l - d) x ≤ sr c l a d y ∨ sr c l a d y + tsz c (l - d) y ≤ sr c l a d x := by
  intro d
  induction d with
  | zero => intro _ x y h h2; exact absurd h h2
  | succ d ih =>
    intro hd x y h h2 hx hy
    obtain ⟨px, qx, ux, vx⟩ := sr_up (by omega) hx ha
    obtain ⟨py, qy, uy, vy⟩ := sr_up (by omega) hy ha
    by_cases e : x / 4 = y / 4
    · have ex : sr c l a (d + 1) x = sr c l a d (x / 4) + 1 + tsum c (tsz c (l - d - 1)) ((l : Int) - d - 1) (x / 4) (x % 4).toNat := by rw [sr, if_pos ⟨px, qx⟩]
      have ey : sr c l a (d + 1) y = sr c l a d (y / 4) + 1 + tsum c (tsz c (l - d - 1)) ((l : Int) - d - 1) (y / 4) (y % 4).toNat := by rw [sr, if_pos ⟨py, qy⟩]
      rw [← e] at ey qy
      have hs : ∀ y, 1 ≤ tsz c (l - d - 1) y := fun y => (tsz_in c _ y).1
      rw [show l - (d + 1) = l - d - 1 by omega, ex, ey]
      by_cases o : x % 4 < y % 4
      · have := tsum_lt (c := c) (l := ((l : Int) - d - 1)) (B := x / 4) hs (i := (x % 4).toNat) (j := (y % 4).toNat) (by omega) qx
        rw [show 4 * (x / 4) + ((x % 4).toNat : Int) = x by omega] at this
        omega
      · have := tsum_lt (c := c) (l := ((l : Int) - d - 1)) (B := x / 4) hs (i := (y % 4).toNat) (j := (x % 4).toNat) (by omega) qy
        rw [show 4 * (x / 4) + ((y % 4).toNat : Int) = y by omega] at this
        omega
    · have := ih (by omega) (x / 4) (y / 4) h e px py
      rw [show l - (d + 1) = l - d - 1 by omega]
      have t1 := (tsz_in c (l - d - 1) x).1
      have t2 := (tsz_in c (l - d - 1) y).1
      omega
theorem anc_add (d : Nat) : ∀ (k : Nat) (x : Int), anc (d + k) x = anc d (anc k x) := by
  intro k
  induction k with
  | zero => intro x; rfl
  | succ k ih => intro x; exact ih (x / 4)
theorem sr_anc {c : Int → Int} {l : Nat} {a : Int} (ha : 0 ≤ a) (d : Nat) : ∀ (k : Nat), d + k ≤ l → ∀ (x : Int), sr c l a (d + k) x ≠ -1 → sr c l a d (anc k x) ≠ -1 ∧ sr c l a d (anc k x) + k ≤ sr c l a (d + k) x ∧ sr c l a (d + k) x + tsz c (l - (d + k)) x ≤ sr c l a d (anc k x) + tsz c (l - d) (anc k x) := by
  intro k
  induction k with
  | zero => intro _ x h; exact ⟨h, by simp [anc], Int.le_refl _⟩
  | succ k ih =>
    intro hk x h
    obtain ⟨p, q, u, v⟩ := sr_up (d := d + k) (by omega) h ha
    obtain ⟨i1, i2, i3⟩ := ih (by omega) (x / 4) p
    refine ⟨i1, ?_, ?_⟩
    · show sr c l a d (anc k (x / 4)) + ((k + 1 : Nat) : Int) ≤ sr c l a (d + k + 1) x
      omega
    · show sr c l a (d + k + 1) x + tsz c (l - (d + k + 1)) x ≤ sr c l a d (anc k (x / 4)) + tsz c (l - d) (anc k (x / 4))
      rw [show l - (d + k + 1) = l - (d + k) - 1 by omega]
      omega
/-- two blocks that are told begin at two places -/
theorem sr_inj {c : Int → Int} {l : Nat} {a : Int} (ha : 0 ≤ a) {d d' : Nat} {x x' : Int} (hd : d ≤ l) (hd' : d' ≤ l) (hr : anc d x = anc d' x') (h : sr c l a d x ≠ -1) (e : sr c l a d x = sr c l a d' x') : d = d' ∧ x = x' := by
  have key : ∀ {d d' : Nat} {x x' : Int}, d' ≤ l → d ≤ d' → anc d x = anc d' x' → sr c l a d x ≠ -1 → sr c l a d x = sr c l a d' x' → d = d' ∧ x = x' := by
    intro d d' x x' hd' hdd hr h e
    obtain ⟨k, rfl⟩ := Nat.exists_eq_add_of_le hdd
    obtain ⟨i1, i2, i3⟩ := sr_anc ha d k hd' x' (by rw [← e]; exact h)
    have t1 := (tsz_in c (l - (d + k)) x').1
    have t2 := (tsz_in c (l - d) x).1
    by_cases ex : x = anc k x'
    · rw [← ex] at i2
      have hk : k = 0 := by omega
      subst hk
      exact ⟨rfl, ex⟩
    · have := sr_dis ha d (by omega) x (anc k x') (by rw [hr, anc_add]) ex h i1
      omega
  by_cases hdd : d ≤ d'
  · exact key hd' hdd hr h e
  · have := key hd (by omega) hr.symm (by rw [← e]; exact h) e.symm
    exact ⟨this.1.symm, this.2.symm⟩
/-- the bytes of a tree lie from a on -/
def lay (c : Int → Int) : Nat → Int → (Int → Int) → Int → Prop
  | 0, b, T, a => T a = c b
  | l + 1, b, T, a => T a = thd c l b 4 ∧ ∀ i : Nat, i < 4 → qcode c l b i = 2 → lay c l (4 * b + i) T (a + 1 + tsum c (tsz c l) l b i)
theorem lay_un {c : Int → Int} : ∀ (l : Nat) (b : Int) (T T' : Int → Int) (a a' : Int), lay c l b T a → lay c l b T' a' → ∀ j, 0 ≤ j → j < tsz c l b → T (a + j) = T' (a' + j) := by
  intro l
  induction l with
  | zero =>
    intro b T T' a a' h h' j j0 j1
    rw [tsz] at j1
    rw [show j = 0 by omega, Int.add_zero, Int.add_zero]
    exact h.trans h'.symm
  | succ l ih =>
    intro b T T' a a' h h' j j0 j1
    by_cases e : j = 0
    · rw [e, Int.add_zero, Int.add_zero]; exact h.1.trans h'.1.symm
    · have key : ∀ i : Nat, i ≤ 4 → j < 1 + tsum c (tsz c l) l b i → T (a + j) = T' (a' + j) := by
        intro i
        induction i with
        | zero => intro _ hj; simp [tsum] at hj; omega
        | succ i ih2 =>
          intro hi hj
          by_cases o : j < 1 + tsum c (tsz c l) l b i
          · exact ih2 (by omega) o
          · by_cases q : qcode c l b i = 2
            · have r := ih (4 * b + i) T T' _ _ (h.2 i (by omega) q) (h'.2 i (by omega) q) (j - 1 - tsum c (tsz c l) l b i) (by omega) (by rw [tsum, if_pos q] at hj; omega)
              rw [show a + 1 + tsum c (tsz c l) l b i + (j - 1 - tsum c (tsz c l) l b i) = a + j by omega, show a' + 1 + tsum c (tsz c l) l b i + (j - 1 - tsum c (tsz c l) l b i) = a' + j by omega] at r
              exact r
            · rw [tsum, if_neg q] at hj
              exact absurd hj (by omega)
      rw [tsz] at j1
      exact key 4 (by omega) j1
theorem lay_congr {c : Int → Int} : ∀ (l : Nat) (b : Int) (T T' : Int → Int) (a : Int), lay c l b T a → (∀ j, 0 ≤ j → j < tsz c l b → T' (a + j) = T (a + j)) → lay c l b T' a := by
  intro l
  induction l with
  | zero => intro b T T' a h e; have := e 0 (by omega) (by rw [tsz]; omega); rw [Int.add_zero] at this; exact this.trans h
  | succ l ih =>
    intro b T T' a h e
    have hs : ∀ y, 1 ≤ tsz c l y := fun y => (tsz_in c _ y).1
    refine ⟨?_, fun i hi q => ih _ T T' _ (h.2 i hi q) (fun j j0 j1 => ?_)⟩
    · have := e 0 (by omega) (by have := (tsz_in c (l + 1) b).1; omega)
      rw [Int.add_zero] at this
      exact this.trans h.1
    · have t0 := (tsum_in (c := c) (l := (l : Int)) (B := b) (tsz_in c l) i).1
      have t1 := tsum_lt (c := c) (l := (l : Int)) (B := b) hs hi q
      have := e (1 + tsum c (tsz c l) l b i + j) (by omega) (by rw [tsz]; omega)
      rw [show a + (1 + tsum c (tsz c l) l b i + j) = a + 1 + tsum c (tsz c l) l b i + j by omega] at this
      exact this
/-- bytes laid block by block, by their starts -/
theorem lay_of {c : Int → Int} {L : Nat} {a b0 : Int} (T : Int → Int) (ha : 0 ≤ a) (h0 : ∀ x, anc L x = b0 → sr c L a L x ≠ -1 → T (sr c L a L x) = c x) (h1 : ∀ (d : Nat) (x : Int), d < L → anc d x = b0 → sr c L a d x ≠ -1 → T (sr c L a d x) = thd c ((L : Int) - d - 1) x 4) : ∀ (l d : Nat), l + d = L → ∀ x, anc d x = b0 → sr c L a d x ≠ -1 → lay c l x T (sr c L a d x) := by
  intro l
  induction l with
  | zero => intro d e x hx h; rw [Nat.zero_add] at e; subst e; exact h0 x hx h
  | succ l ih =>
    intro d e x hx h
    have el : (L : Int) - d - 1 = l := by omega
    refine ⟨by rw [h1 d x (by omega) hx h, el], fun i hi q => ?_⟩
    have e4 : (4 * x + (i : Int)) / 4 = x := by omega
    have e5 : ((4 * x + (i : Int)) % 4).toNat = i := by omega
    have e6 : sr c L a (d + 1) (4 * x + i) = sr c L a d x + 1 + tsum c (tsz c l) l x i := by
      rw [sr_s, e4, e5, el, show L - d - 1 = l by omega, if_pos ⟨h, q⟩]
    have hne : sr c L a (d + 1) (4 * x + i) ≠ -1 := by
      have := sr_nn (c := c) (l := L) ha d x
      have t0 := (tsum_in (c := c) (l := (l : Int)) (B := x) (tsz_in c l) i).1
      omega
    rw [← e6]
    exact ih (d + 1) (by omega) _ (by show anc d ((4 * x + (i : Int)) / 4) = b0; rw [e4]; exact hx) hne
theorem anc_0 : ∀ d : Nat, d ≤ 4 → ∀ x, anc d x = 0 ↔ 0 ≤ x ∧ x < p4 d := by
  intro d
  induction d with
  | zero => intro _ x; show x = 0 ↔ 0 ≤ x ∧ x < p4 0; rw [p4_0]; omega
  | succ d ih =>
    intro hd x
    show anc d (x / 4) = 0 ↔ _
    rw [ih (by omega), show ((d + 1 : Nat) : Int) = (d : Int) + 1 by omega, p4_s (by omega)]
    have := p4_in d
    omega
theorem sr_room {c : Int → Int} {L d : Nat} {x : Int} (hd : d ≤ L) (h : sr c L 0 d x ≠ -1) : 0 ≤ sr c L 0 d x ∧ sr c L 0 d x + tsz c (L - d) x ≤ tsz c L (anc d x) := by
  have h1 := sr_anc (c := c) (l := L) (a := 0) (by omega) 0 d (by omega) x (by rw [Nat.zero_add]; exact h)
  rw [Nat.zero_add, sr_0] at h1
  have := h1.2
  rw [show L - 0 = L by omega] at this
  omega
theorem tmax_in : ∀ l : Nat, l ≤ 4 → tmax l ≤ 341 := by
  intro l h
  have : l = 0 ∨ l = 1 ∨ l = 2 ∨ l = 3 ∨ l = 4 := by omega
  rcases this with e | e | e | e | e <;> subst e <;> decide


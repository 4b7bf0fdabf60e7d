/-! Numbers: Java's operators over ints that are no less than 0, bits of a byte, sums. -/
theorem zI_nat (n : Nat) : zI (n : Int) = nI n := by
  unfold zI nI
  rw [Int32.ofInt_eq_ofNat]
theorem zI_bv (n : Nat) : (zI (n : Int)).toBitVec = BitVec.ofNat 32 n := by rw [zI_nat]; rfl
theorem z_toInt_of_bv {x : Int32} {n : Nat} (h : n < 2147483648) (hx : x.toBitVec = BitVec.ofNat 32 n) : x.toInt = (n : Int) := by
  have : x = nI n := Int32.toBitVec_inj.mp (by rw [hx]; rfl)
  rw [this, nI_toInt (by omega)]
theorem zand_nat {a b : Nat} (ha : a < 2147483648) : zand a b = ((a &&& b : Nat) : Int) := by
  unfold zand
  refine z_toInt_of_bv (Nat.lt_of_le_of_lt Nat.and_le_left ha) ?_
  rw [Int32.toBitVec_and, zI_bv, zI_bv, BitVec.ofNat_and]
theorem zor_nat {a b : Nat} (ha : a < 2147483648) (hb : b < 2147483648) : zor a b = ((a ||| b : Nat) : Int) := by
  unfold zor
  refine z_toInt_of_bv (Nat.or_lt_two_pow (n := 31) ha hb) ?_
  rw [Int32.toBitVec_or, zI_bv, zI_bv, BitVec.ofNat_or]
theorem zxor_nat {a b : Nat} (ha : a < 2147483648) (hb : b < 2147483648) : zxor a b = ((a ^^^ b : Nat) : Int) := by
  unfold zxor
  refine z_toInt_of_bv (Nat.xor_lt_two_pow (n := 31) ha hb) ?_
  rw [Int32.toBitVec_xor, zI_bv, zI_bv, BitVec.ofNat_xor]
theorem z_sh_amt : ∀ k : Fin 32, ((zI (k.val : Int) &&& 31).toBitVec.smod 32) = BitVec.ofNat 32 k.val := by decide +kernel
theorem zshr_nat {a k : Nat} (ha : a < 2147483648) (hk : k < 32) : zshr a k = ((a / 2 ^ k : Nat) : Int) := by
  unfold zshr
  refine z_toInt_of_bv (Nat.lt_of_le_of_lt (Nat.div_le_self _ _) ha) ?_
  rw [Int32.toBitVec_shiftRight, zI_bv, z_sh_amt ⟨k, hk⟩]
  apply BitVec.eq_of_toNat_eq
  have e : (BitVec.ofNat 32 k).toNat = k := by simp only [BitVec.toNat_ofNat]; exact Nat.mod_eq_of_lt (by omega)
  show ((BitVec.ofNat 32 a).sshiftRight (BitVec.ofNat 32 k).toNat).toNat = _
  rw [e, BitVec.sshiftRight_eq_of_msb_false]
  · simp only [BitVec.toNat_ushiftRight, BitVec.toNat_ofNat, Nat.shiftRight_eq_div_pow]
    rw [Nat.mod_eq_of_lt (show a < 2 ^ 32 by omega), Nat.mod_eq_of_lt (Nat.lt_of_le_of_lt (Nat.div_le_self _ _) (by omega))]
  · rw [BitVec.msb_eq_false_iff_two_mul_lt]
    simp only [BitVec.toNat_ofNat]
    rw [Nat.mod_eq_of_lt (by omega)]
    omega
theorem zshl_nat {a k : Nat} (ha : a * 2 ^ k < 2147483648) (hk : k < 32) : zshl a k = ((a * 2 ^ k : Nat) : Int) := by
  unfold zshl
  refine z_toInt_of_bv ha ?_
  rw [Int32.toBitVec_shiftLeft, zI_bv, z_sh_amt ⟨k, hk⟩]
  apply BitVec.eq_of_toNat_eq
  have e : (BitVec.ofNat 32 k).toNat = k := by simp only [BitVec.toNat_ofNat]; exact Nat.mod_eq_of_lt (by omega)
  rw [BitVec.shiftLeft_eq', e]
  simp only [BitVec.toNat_shiftLeft, BitVec.toNat_ofNat, Nat.shiftLeft_eq]
  rw [Nat.mod_mul_mod]
theorem zdiv_nat {a b : Nat} (ha : a < 2147483648) (h0 : 0 < b) (hb : b < 2147483648) : zdiv a b = ((a / b : Nat) : Int) := by
  unfold zdiv
  rw [zI_nat, zI_nat, pk_div ha h0 hb, nI_toInt (Nat.lt_of_le_of_lt (Nat.div_le_self _ _) ha)]
theorem zrem_nat {a b : Nat} (ha : a < 2147483648) (h0 : 0 < b) (hb : b < 2147483648) : zrem a b = ((a % b : Nat) : Int) := by
  unfold zrem
  rw [zI_nat, zI_nat, pk_rem ha h0 hb, nI_toInt (Nat.lt_of_le_of_lt (Nat.mod_le _ _) ha)]
theorem z_nat {z : Int} (h : 0 ≤ z) : ∃ n : Nat, z = (n : Int) := ⟨z.toNat, (Int.toNat_of_nonneg h).symm⟩
theorem zshr_c {a : Int} (k : Nat) (h0 : 0 ≤ a) (h1 : a < 2147483648) (hk : k < 32) : zshr a (k : Int) = a / 2 ^ k := by
  obtain ⟨n, rfl⟩ := z_nat h0
  rw [zshr_nat (by omega) hk]
  simp
theorem zand_m {a : Int} (k : Nat) (h0 : 0 ≤ a) (h1 : a < 2147483648) : zand a ((2 ^ k - 1 : Nat) : Int) = a % 2 ^ k := by
  obtain ⟨n, rfl⟩ := z_nat h0
  rw [zand_nat (by omega), Nat.and_two_pow_sub_one_eq_mod]
  simp
theorem zshr_3 {a : Int} (h0 : 0 ≤ a) (h1 : a < 2147483648) : zshr a 3 = a / 8 := zshr_c 3 h0 h1 (by decide)
theorem zshr_2 {a : Int} (h0 : 0 ≤ a) (h1 : a < 2147483648) : zshr a 2 = a / 4 := zshr_c 2 h0 h1 (by decide)
theorem zand_7 {a : Int} (h0 : 0 ≤ a) (h1 : a < 2147483648) : zand a 7 = a % 8 := zand_m 3 h0 h1
theorem zand_3 {a : Int} (h0 : 0 ≤ a) (h1 : a < 2147483648) : zand a 3 = a % 4 := zand_m 2 h0 h1
theorem zand_1 {a : Int} (h0 : 0 ≤ a) (h1 : a < 2147483648) : zand a 1 = a % 2 := zand_m 1 h0 h1
/-- bit j of v -/
def zbit (v j : Int) : Int := v / 2 ^ j.toNat % 2
theorem zbit_eq {v j : Int} (h0 : 0 ≤ v) (h1 : v < 2147483648) (h2 : 0 ≤ j) (h3 : j < 32) : zand (zshr v j) 1 = zbit v j := by
  obtain ⟨k, rfl⟩ := z_nat h2
  obtain ⟨n, rfl⟩ := z_nat h0
  rw [zshr_nat (by omega) (by omega), zand_1 (Int.natCast_nonneg _) (by have h := Nat.div_le_self n (2 ^ k); generalize n / 2 ^ k = q at h ⊢; omega)]
  unfold zbit
  simp
theorem zbit_01 (v j : Int) : zbit v j = 0 ∨ zbit v j = 1 := by unfold zbit; omega
theorem zbit_nat (a k : Nat) : zbit a k = ((a.testBit k).toNat : Int) := by
  rw [Nat.toNat_testBit]
  unfold zbit
  simp
def ofBits (g : Int → Int) : Int := g 0 + 2 * g 1 + 4 * g 2 + 8 * g 3 + 16 * g 4 + 32 * g 5 + 64 * g 6 + 128 * g 7
def zpop (v : Int) : Int := zbit v 0 + zbit v 1 + zbit v 2 + zbit v 3 + zbit v 4 + zbit v 5 + zbit v 6 + zbit v 7
theorem j8 {j : Int} (h0 : 0 ≤ j) (h1 : j < 8) {p : Int → Prop} (a0 : p 0) (a1 : p 1) (a2 : p 2) (a3 : p 3) (a4 : p 4) (a5 : p 5) (a6 : p 6) (a7 : p 7) : p j := by
  have : j = 0 ∨ j = 1 ∨ j = 2 ∨ j = 3 ∨ j = 4 ∨ j = 5 ∨ j = 6 ∨ j = 7 := by omega
  rcases this with h | h | h | h | h | h | h | h <;> subst h <;> assumption
theorem zbit_ofBits {g : Int → Int} (hg : ∀ j, 0 ≤ j → j < 8 → g j = 0 ∨ g j = 1) {j : Int} (h0 : 0 ≤ j) (h1 : j < 8) : zbit (ofBits g) j = g j := by
  have b0 := hg 0 (by omega) (by omega)
  have b1 := hg 1 (by omega) (by omega)
  have b2 := hg 2 (by omega) (by omega)
  have b3 := hg 3 (by omega) (by omega)
  have b4 := hg 4 (by omega) (by omega)
  have b5 := hg 5 (by omega) (by omega)
  have b6 := hg 6 (by omega) (by omega)
  have b7 := hg 7 (by omega) (by omega)
  unfold ofBits
  refine j8 (p := fun j => zbit _ j = g j) h0 h1 ?_ ?_ ?_ ?_ ?_ ?_ ?_ ?_
  · show _ / 1 % 2 = _; omega
  · show _ / 2 % 2 = _; omega
  · show _ / 4 % 2 = _; omega
  · show _ / 8 % 2 = _; omega
  · show _ / 16 % 2 = _; omega
  · show _ / 32 % 2 = _; omega
  · show _ / 64 % 2 = _; omega
  · show _ / 128 % 2 = _; omega
theorem ofBits_zbit {v : Int} (h0 : 0 ≤ v) (h1 : v < 256) : ofBits (zbit v) = v := by
  show v / 1 % 2 + 2 * (v / 2 % 2) + 4 * (v / 4 % 2) + 8 * (v / 8 % 2) + 16 * (v / 16 % 2) + 32 * (v / 32 % 2) + 64 * (v / 64 % 2) + 128 * (v / 128 % 2) = v
  omega
theorem ofBits_congr {f g : Int → Int} (h : ∀ j, 0 ≤ j → j < 8 → f j = g j) : ofBits f = ofBits g := by
  unfold ofBits
  rw [h 0 (by omega) (by omega), h 1 (by omega) (by omega), h 2 (by omega) (by omega), h 3 (by omega) (by omega), h 4 (by omega) (by omega), h 5 (by omega) (by omega), h 6 (by omega) (by omega), h 7 (by omega) (by omega)]
theorem ofBits_in {g : Int → Int} (hg : ∀ j, 0 ≤ j → j < 8 → g j = 0 ∨ g j = 1) : 0 ≤ ofBits g ∧ ofBits g < 256 := by
  have b0 := hg 0 (by omega) (by omega)
  have b1 := hg 1 (by omega) (by omega)
  have b2 := hg 2 (by omega) (by omega)
  have b3 := hg 3 (by omega) (by omega)
  have b4 := hg 4 (by omega) (by omega)
  have b5 := hg 5 (by omega) (by omega)
  have b6 := hg 6 (by omega) (by omega)
  have b7 := hg 7 (by omega) (by omega)
  unfold ofBits
  omega
theorem byte_ext {v w : Int} (hv : 0 ≤ v ∧ v < 256) (hw : 0 ≤ w ∧ w < 256) (h : ∀ j, 0 ≤ j → j < 8 → zbit v j = zbit w j) : v = w := by
  rw [← ofBits_zbit hv.1 hv.2, ← ofBits_zbit hw.1 hw.2]
  exact ofBits_congr h
theorem byte_of {v : Int} {g : Int → Int} (hv : 0 ≤ v ∧ v < 256) (h : ∀ j, 0 ≤ j → j < 8 → zbit v j = g j) : v = ofBits g := by
  rw [← ofBits_zbit hv.1 hv.2]
  exact ofBits_congr h
theorem zand_byte {v w : Int} (hv : 0 ≤ v ∧ v < 256) (hw : 0 ≤ w ∧ w < 256) : zand v w = ofBits (fun j => zbit v j * zbit w j) := by
  obtain ⟨a, rfl⟩ := z_nat hv.1
  obtain ⟨b, rfl⟩ := z_nat hw.1
  rw [zand_nat (by omega)]
  refine byte_of ⟨by omega, by have := @Nat.and_le_left a b; omega⟩ (fun j h0 h1 => ?_)
  obtain ⟨k, rfl⟩ := z_nat h0
  rw [zbit_nat, zbit_nat, zbit_nat, Nat.testBit_and]
  cases a.testBit k <;> cases b.testBit k <;> rfl
theorem zor_byte {v w : Int} (hv : 0 ≤ v ∧ v < 256) (hw : 0 ≤ w ∧ w < 256) : zor v w = ofBits (fun j => zbit v j + zbit w j - zbit v j * zbit w j) := by
  obtain ⟨a, rfl⟩ := z_nat hv.1
  obtain ⟨b, rfl⟩ := z_nat hw.1
  rw [zor_nat (by omega) (by omega)]
  have := Nat.or_lt_two_pow (n := 8) (x := a) (y := b) (by omega) (by omega)
  refine byte_of ⟨by omega, by omega⟩ (fun j h0 h1 => ?_)
  obtain ⟨k, rfl⟩ := z_nat h0
  rw [zbit_nat, zbit_nat, zbit_nat, Nat.testBit_or]
  cases a.testBit k <;> cases b.testBit k <;> rfl
theorem zxor_byte {v w : Int} (hv : 0 ≤ v ∧ v < 256) (hw : 0 ≤ w ∧ w < 256) : zxor v w = ofBits (fun j => zbit v j + zbit w j - 2 * (zbit v j * zbit w j)) := by
  obtain ⟨a, rfl⟩ := z_nat hv.1
  obtain ⟨b, rfl⟩ := z_nat hw.1
  rw [zxor_nat (by omega) (by omega)]
  have := Nat.xor_lt_two_pow (n := 8) (x := a) (y := b) (by omega) (by omega)
  refine byte_of ⟨by omega, by omega⟩ (fun j h0 h1 => ?_)
  obtain ⟨k, rfl⟩ := z_nat h0
  rw [zbit_nat, zbit_nat, zbit_nat, Nat.testBit_xor]
  cases a.testBit k <;> cases b.testBit k <;> rfl
theorem zandn_byte {v w : Int} (hv : 0 ≤ v ∧ v < 256) (hw : 0 ≤ w ∧ w < 256) : zand v (zxor w (-1)) = ofBits (fun j => zbit v j - zbit v j * zbit w j) := by
  have e : ∀ (a b : Fin 256), zand (a.val : Int) (zxor (b.val : Int) (-1)) = (((a.val &&& (255 ^^^ b.val)) : Nat) : Int) := by
    intro a b
    unfold zand zxor
    rw [zI_of]
    refine z_toInt_of_bv (Nat.lt_of_le_of_lt Nat.and_le_left (by omega)) ?_
    have hm : (zI (-1)).toBitVec = BitVec.allOnes 32 := by decide
    rw [Int32.toBitVec_and, Int32.toBitVec_xor, zI_bv, zI_bv, hm]
    apply BitVec.eq_of_getLsbD_eq
    intro i hi
    have h255 : ∀ i : Fin 32, (255 : Nat).testBit i.val = decide (i.val < 8) := by decide
    have ha8 : 8 ≤ i → a.val.testBit i = false := fun h => Nat.testBit_lt_two_pow (Nat.lt_of_lt_of_le a.isLt (Nat.pow_le_pow_right (n := 2) (by decide) h))
    simp only [BitVec.getLsbD_and, BitVec.getLsbD_xor, BitVec.getLsbD_ofNat, BitVec.getLsbD_allOnes, Nat.testBit_and, Nat.testBit_xor, hi, decide_true, Bool.true_and, h255 ⟨i, hi⟩]
    by_cases h : i < 8
    · simp [h, Bool.xor_comm]
    · simp [ha8 (by omega)]
  obtain ⟨a, rfl⟩ := z_nat hv.1
  obtain ⟨b, rfl⟩ := z_nat hw.1
  rw [e ⟨a, by omega⟩ ⟨b, by omega⟩]
  refine byte_of ⟨by omega, by have := @Nat.and_le_left a (255 ^^^ b); show ((a &&& (255 ^^^ b) : Nat) : Int) < 256; omega⟩ (fun j h0 h1 => ?_)
  obtain ⟨k, rfl⟩ := z_nat h0
  have h255 : (255 : Nat).testBit k = true := by
    have : ∀ k : Fin 8, (255 : Nat).testBit k.val = true := by decide
    exact this ⟨k, by omega⟩
  rw [zbit_nat, zbit_nat, zbit_nat, Nat.testBit_and, Nat.testBit_xor, h255]
  cases a.testBit k <;> cases b.testBit k <;> rfl
noncomputable def zb (p : Prop) : Int := @ite _ p (Classical.propDecidable p) 1 0
theorem zb_t {p : Prop} (h : p) : zb p = 1 := by unfold zb; exact if_pos h
theorem zb_f {p : Prop} (h : ¬ p) : zb p = 0 := by unfold zb; exact if_neg h
theorem zb_01 (p : Prop) : zb p = 0 ∨ zb p = 1 := (Classical.em p).elim (fun h => Or.inr (zb_t h)) (fun h => Or.inl (zb_f h))
theorem zb_1 {p : Prop} : zb p = 1 ↔ p := ⟨fun h => Classical.byContradiction fun q => by rw [zb_f q] at h; omega, zb_t⟩
theorem zb_0 {p : Prop} : zb p = 0 ↔ ¬ p := ⟨fun h q => by rw [zb_t q] at h; omega, zb_f⟩
theorem zb_c {p q : Prop} (h : p ↔ q) : zb p = zb q := by rw [propext h]
/-- sums: f over a, a + 1 .. -/
def zsum (f : Int → Int) (a : Int) : Nat → Int
  | 0 => 0
  | n + 1 => zsum f a n + f (a + n)
theorem zsum_congr {f g : Int → Int} {a : Int} : ∀ {n : Nat}, (∀ i, a ≤ i → i < a + n → f i = g i) → zsum f a n = zsum g a n := by
  intro n
  induction n with
  | zero => intro _; rfl
  | succ n ih => intro h; rw [zsum, zsum, ih (fun i h1 h2 => h i h1 (by omega)), h (a + n) (by omega) (by omega)]
theorem zsum_add {f : Int → Int} {a : Int} (n : Nat) : ∀ m : Nat, zsum f a (n + m) = zsum f a n + zsum f (a + n) m := by
  intro m
  induction m with
  | zero => simp [zsum]
  | succ m ih =>
    rw [← Nat.add_assoc, zsum, ih, zsum, Int.add_assoc]
    congr 3
    omega
theorem zsum_in {f : Int → Int} {a B : Int} : ∀ {n : Nat}, (∀ i, a ≤ i → i < a + n → 0 ≤ f i ∧ f i ≤ B) → 0 ≤ zsum f a n ∧ zsum f a n ≤ n * B := by
  intro n
  induction n with
  | zero => intro _; simp [zsum]
  | succ n ih =>
    intro h
    have h1 := ih (fun i h1 h2 => h i h1 (by omega))
    have h2 := h (a + n) (by omega) (by omega)
    rw [zsum]
    have : ((n + 1 : Nat) : Int) * B = n * B + B := by rw [Int.natCast_add, Int.add_mul]; simp
    omega
theorem zsum_8 (f : Int → Int) (a : Int) : zsum f a 8 = f a + f (a + 1) + f (a + 2) + f (a + 3) + f (a + 4) + f (a + 5) + f (a + 6) + f (a + 7) := by
  simp [zsum]


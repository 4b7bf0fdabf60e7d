/-! Numbers of the world by their meaning: rows of cells, masks, sums of bits. -/
def qset (M : qM) (o : Nat) (a n v : Int) : qM := fun o' k => if o' = o ∧ a ≤ k ∧ k < a + n then v else M o' k
theorem qset_0 (M : qM) (o : Nat) {a n v : Int} (h : n ≤ 0) : qset M o a n v = M := by
  funext o' k
  simp only [qset]
  rw [if_neg (by omega)]
theorem qset_up (M : qM) (o : Nat) {a n v k : Int} (h : 0 ≤ n) (hk : k = a + n) : qup (qset M o a n v) o k v = qset M o a (n + 1) v := by
  funext o' k'
  simp only [qset, qup]
  by_cases h1 : o' = o ∧ k' = k
  · rw [if_pos h1, if_pos ⟨h1.1, by omega, by omega⟩]
  · rw [if_neg h1]
    by_cases h2 : o' = o ∧ a ≤ k' ∧ k' < a + n
    · rw [if_pos h2, if_pos ⟨h2.1, by omega, by omega⟩]
    · rw [if_neg h2, if_neg (fun q => h2 ⟨q.1, q.2.1, by have : ¬ k' = k := fun e => h1 ⟨q.1, e⟩; omega⟩)]
/-- the cells of row r -/
def rowc (M : qM) (r : Int) : Int → Int := fun i => M 4 (r * 256 + i)
def rowOk (M : qM) (r : Int) : Prop := ∀ i, 0 ≤ i → i < 256 → 0 ≤ M 4 (r * 256 + i) ∧ M 4 (r * 256 + i) < 256
def qrow (M : qM) (r : Int) (f : Int → Int) : qM := fun o k => if o = 4 ∧ r * 256 ≤ k ∧ k < r * 256 + 256 then f (k - r * 256) else M o k
theorem qrow_at (M : qM) {r i : Int} (f : Int → Int) (h : 0 ≤ i ∧ i < 256) : qrow M r f 4 (r * 256 + i) = f i := by
  unfold qrow
  rw [if_pos ⟨rfl, by omega, by omega⟩]
  congr 1
  omega
theorem qrow_ne (M : qM) {r r' i : Int} (f : Int → Int) (h : 0 ≤ i ∧ i < 256) (hr : r' ≠ r) : qrow M r f 4 (r' * 256 + i) = M 4 (r' * 256 + i) := by
  simp only [qrow]
  rw [if_neg (by omega)]
theorem qrow_o (M : qM) {r k : Int} {o : Nat} (f : Int → Int) (h : o ≠ 4) : qrow M r f o k = M o k := by
  simp only [qrow]
  rw [if_neg (fun q => h q.1)]
theorem qrow_put (M : qM) {r i v : Int} (f : Int → Int) (h : 0 ≤ i ∧ i < 256) : qup (qrow M r f) 4 (r * 256 + i) v = qrow M r (fun k => if k = i then v else f k) := by
  funext o k
  simp only [qup, qrow]
  by_cases h1 : o = 4 ∧ k = r * 256 + i
  · rw [if_pos h1, if_pos ⟨h1.1, by omega, by omega⟩, if_pos (by omega)]
  · rw [if_neg h1]
    by_cases h2 : o = 4 ∧ r * 256 ≤ k ∧ k < r * 256 + 256
    · rw [if_pos h2, if_pos h2, if_neg (fun q => h1 ⟨h2.1, by omega⟩)]
    · rw [if_neg h2, if_neg h2]
theorem qrow_congr (M : qM) {r : Int} {f g : Int → Int} (h : ∀ i, 0 ≤ i → i < 256 → f i = g i) : qrow M r f = qrow M r g := by
  funext o k
  simp only [qrow]
  by_cases h2 : o = 4 ∧ r * 256 ≤ k ∧ k < r * 256 + 256
  · rw [if_pos h2, if_pos h2, h _ (by omega) (by omega)]
  · rw [if_neg h2, if_neg h2]
theorem qrow_id (M : qM) {r : Int} {f : Int → Int} (h : ∀ i, 0 ≤ i → i < 256 → f i = M 4 (r * 256 + i)) : M = qrow M r f := by
  funext o k
  simp only [qrow]
  by_cases h2 : o = 4 ∧ r * 256 ≤ k ∧ k < r * 256 + 256
  · rw [if_pos h2, h _ (by omega) (by omega), h2.1]
    congr 1
    omega
  · rw [if_neg h2]
theorem qrow_row (M : qM) {r : Int} (f g : Int → Int) : qrow (qrow M r f) r g = qrow M r g := by
  funext o k
  simp only [qrow]
  by_cases h2 : o = 4 ∧ r * 256 ≤ k ∧ k < r * 256 + 256
  · rw [if_pos h2, if_pos h2]
  · rw [if_neg h2, if_neg h2, if_neg h2]
theorem qset_row (M : qM) {r v : Int} : qset M 4 (r * 256 + 0) 256 v = qrow M r (fun _ => v) := by
  funext o k
  simp only [qset, qrow]
  by_cases h2 : o = 4 ∧ r * 256 ≤ k ∧ k < r * 256 + 256
  · rw [if_pos ⟨h2.1, by omega, by omega⟩, if_pos h2]
  · rw [if_neg h2, if_neg (fun q => h2 ⟨q.1, by omega, by omega⟩)]
theorem qcpy_row (M : qM) {r r' : Int} : qcpy M 4 (r * 256) (r' * 256) 256 = qrow M r' (rowc M r) := by
  funext o k
  simp only [qcpy, qrow, rowc]
/-- the bit at position p of cells c -/
def bitP (c : Int → Int) (p : Int) : Int := zbit (c (p / 8)) (p % 8)
theorem bitP_01 (c : Int → Int) (p : Int) : bitP c p = 0 ∨ bitP c p = 1 := zbit_01 _ _
theorem bitP_at (c : Int → Int) {i j : Int} (h0 : 0 ≤ j) (h1 : j < 8) : bitP c (8 * i + j) = zbit (c i) j := by
  unfold bitP
  rw [show (8 * i + j) / 8 = i by omega, show (8 * i + j) % 8 = j by omega]
def maskv (i f t : Int) : Int := ofBits (fun j => if f ≤ 8 * i + j ∧ 8 * i + j ≤ t then 1 else 0)
theorem mask01 (i f t : Int) : ∀ j, 0 ≤ j → j < 8 → (fun j => if f ≤ 8 * i + j ∧ 8 * i + j ≤ t then (1 : Int) else 0) j = 0 ∨ (fun j => if f ≤ 8 * i + j ∧ 8 * i + j ≤ t then (1 : Int) else 0) j = 1 := by
  intro j _ _
  by_cases h : f ≤ 8 * i + j ∧ 8 * i + j ≤ t
  · exact Or.inr (if_pos h)
  · exact Or.inl (if_neg h)
theorem maskv_in (i f t : Int) : 0 ≤ maskv i f t ∧ maskv i f t < 256 := ofBits_in (mask01 i f t)
theorem maskv_bit {i f t j : Int} (h0 : 0 ≤ j) (h1 : j < 8) : zbit (maskv i f t) j = if f ≤ 8 * i + j ∧ 8 * i + j ≤ t then 1 else 0 := zbit_ofBits (mask01 i f t) h0 h1
theorem mask_eq {i f t : Int} (h : max (f - 8 * i) 0 ≤ min (t - 8 * i) 7) : zand (zshl 255 (max (f - 8 * i) 0)) (zshr 255 (7 - min (t - 8 * i) 7)) = maskv i f t := by
  have key : ∀ a b : Fin 8, a ≤ b → zand (zshl 255 (a.val : Int)) (zshr 255 (7 - (b.val : Int))) = ofBits (fun j => if (a.val : Int) ≤ j ∧ j ≤ (b.val : Int) then 1 else 0) := by decide +kernel
  obtain ⟨a, ha⟩ := z_nat (show 0 ≤ max (f - 8 * i) 0 by omega)
  obtain ⟨b, hb⟩ := z_nat (show 0 ≤ min (t - 8 * i) 7 by omega)
  have := key ⟨a, by omega⟩ ⟨b, by omega⟩ (Fin.mk_le_mk.mpr (by omega))
  rw [ha, hb, this]
  refine ofBits_congr (fun j h0 h1 => ?_)
  by_cases hj : f ≤ 8 * i + j ∧ 8 * i + j ≤ t
  · rw [if_pos hj, if_pos (by show (a : Int) ≤ j ∧ j ≤ (b : Int); omega)]
  · rw [if_neg hj, if_neg (by show ¬ ((a : Int) ≤ j ∧ j ≤ (b : Int)); omega)]
theorem mask_0 {i f t : Int} (h : min (t - 8 * i) 7 < max (f - 8 * i) 0) : maskv i f t = 0 := by
  have : maskv i f t = ofBits (fun _ => 0) := ofBits_congr (fun j h0 h1 => if_neg (by omega))
  rw [this]
  rfl
theorem zpop_ofBits {g : Int → Int} (hg : ∀ j, 0 ≤ j → j < 8 → g j = 0 ∨ g j = 1) : zpop (ofBits g) = g 0 + g 1 + g 2 + g 3 + g 4 + g 5 + g 6 + g 7 := by
  unfold zpop
  rw [zbit_ofBits hg (by omega) (by omega), zbit_ofBits hg (by omega) (by omega), zbit_ofBits hg (by omega) (by omega), zbit_ofBits hg (by omega) (by omega), zbit_ofBits hg (by omega) (by omega), zbit_ofBits hg (by omega) (by omega), zbit_ofBits hg (by omega) (by omega), zbit_ofBits hg (by omega) (by omega)]
theorem zpop_in (v : Int) : 0 ≤ zpop v ∧ zpop v ≤ 8 := by
  unfold zpop
  have := zbit_01 v 0
  have := zbit_01 v 1
  have := zbit_01 v 2
  have := zbit_01 v 3
  have := zbit_01 v 4
  have := zbit_01 v 5
  have := zbit_01 v 6
  have := zbit_01 v 7
  omega
/-- how many bits from f to t are 1 -/
def ind (c : Int → Int) (f t p : Int) : Int := if f ≤ p ∧ p ≤ t then bitP c p else 0
def onesI (c : Int → Int) (f t : Int) : Int := zsum (ind c f t) 0 2048
theorem ind_01 (c : Int → Int) (f t p : Int) : ind c f t p = 0 ∨ ind c f t p = 1 := by
  unfold ind
  by_cases h : f ≤ p ∧ p ≤ t
  · rw [if_pos h]; exact bitP_01 c p
  · rw [if_neg h]; exact Or.inl rfl
theorem cell_ones {c : Int → Int} {i f t : Int} (h0 : 0 ≤ i) (hv : 0 ≤ c i ∧ c i < 256) : zpop (zand (c i) (maskv i f t)) = zsum (ind c f t) (8 * i) 8 := by
  have hg : ∀ j, 0 ≤ j → j < 8 → (fun j => zbit (c i) j * zbit (maskv i f t) j) j = ind c f t (8 * i + j) := by
    intro j h1 h2
    show zbit (c i) j * zbit (maskv i f t) j = _
    unfold ind
    rw [maskv_bit h1 h2, bitP_at c h1 h2]
    by_cases h : f ≤ 8 * i + j ∧ 8 * i + j ≤ t
    · rw [if_pos h, if_pos h, Int.mul_one]
    · rw [if_neg h, if_neg h, Int.mul_zero]
  rw [zand_byte hv (maskv_in i f t), ofBits_congr hg, zpop_ofBits (fun j _ _ => ind_01 c f t (8 * i + j)), zsum_8]
  simp only [Int.add_zero]
theorem zsum_0 {f : Int → Int} {a : Int} {n : Nat} (h : ∀ i, a ≤ i → i < a + n → f i = 0) : zsum f a n = 0 := by
  rw [zsum_congr (g := fun _ => 0) h]
  induction n with
  | zero => rfl
  | succ n ih => rw [zsum, ih (fun i h1 h2 => h i h1 (by omega))]; rfl
/-- cells with the bits of a range made b; made the other ones -/
def covF (c : Int → Int) (f t b : Int) : Int → Int := fun k => ofBits (fun j => if f ≤ 8 * k + j ∧ 8 * k + j ≤ t then b else zbit (c k) j)
def flpF (c : Int → Int) (f t : Int) : Int → Int := fun k => ofBits (fun j => if f ≤ 8 * k + j ∧ 8 * k + j ≤ t then 1 - zbit (c k) j else zbit (c k) j)
theorem cov_1 {v k f t : Int} {c : Int → Int} (hk : c k = v) (hv : 0 ≤ v ∧ v < 256) : zor v (maskv k f t) = covF c f t 1 k := by
  rw [zor_byte hv (maskv_in k f t)]
  refine ofBits_congr (fun j h0 h1 => ?_)
  show zbit v j + zbit (maskv k f t) j - zbit v j * zbit (maskv k f t) j = _
  rw [maskv_bit h0 h1, hk]
  by_cases h : f ≤ 8 * k + j ∧ 8 * k + j ≤ t
  · rw [if_pos h, if_pos h]; omega
  · rw [if_neg h, if_neg h]; omega
theorem cov_0 {v k f t : Int} {c : Int → Int} (hk : c k = v) (hv : 0 ≤ v ∧ v < 256) : zand v (zxor (maskv k f t) (-1)) = covF c f t 0 k := by
  rw [zandn_byte hv (maskv_in k f t)]
  refine ofBits_congr (fun j h0 h1 => ?_)
  show zbit v j - zbit v j * zbit (maskv k f t) j = _
  rw [maskv_bit h0 h1, hk]
  by_cases h : f ≤ 8 * k + j ∧ 8 * k + j ≤ t
  · rw [if_pos h, if_pos h]; omega
  · rw [if_neg h, if_neg h]; omega
theorem flp_x {v k f t : Int} {c : Int → Int} (hk : c k = v) (hv : 0 ≤ v ∧ v < 256) : zxor v (maskv k f t) = flpF c f t k := by
  rw [zxor_byte hv (maskv_in k f t)]
  refine ofBits_congr (fun j h0 h1 => ?_)
  show zbit v j + zbit (maskv k f t) j - 2 * (zbit v j * zbit (maskv k f t) j) = _
  rw [maskv_bit h0 h1, hk]
  by_cases h : f ≤ 8 * k + j ∧ 8 * k + j ≤ t
  · rw [if_pos h, if_pos h]; omega
  · rw [if_neg h, if_neg h]; omega
theorem covF_out {c : Int → Int} {k f t b : Int} (hv : 0 ≤ c k ∧ c k < 256) (h : ∀ j, 0 ≤ j → j < 8 → ¬ (f ≤ 8 * k + j ∧ 8 * k + j ≤ t)) : covF c f t b k = c k := by
  unfold covF
  rw [ofBits_congr (g := zbit (c k)) (fun j h0 h1 => if_neg (h j h0 h1)), ofBits_zbit hv.1 hv.2]
theorem flpF_out {c : Int → Int} {k f t : Int} (hv : 0 ≤ c k ∧ c k < 256) (h : ∀ j, 0 ≤ j → j < 8 → ¬ (f ≤ 8 * k + j ∧ 8 * k + j ≤ t)) : flpF c f t k = c k := by
  unfold flpF
  rw [ofBits_congr (g := zbit (c k)) (fun j h0 h1 => if_neg (h j h0 h1)), ofBits_zbit hv.1 hv.2]
def mgF (kind x y : Int) : Int := if kind = 0 then zor x y else if kind = 1 then zand x y else if kind = 2 then zand x (zxor y (-1)) else zxor x y
theorem lgc_lt {a b : Int} : ((if b < a then (1 : Int) else if a = b then 0 else -1) < 0) ↔ a < b := by
  by_cases h : b < a
  · rw [if_pos h]; omega
  · rw [if_neg h]
    by_cases h2 : a = b
    · rw [if_pos h2]; omega
    · rw [if_neg h2]; omega
theorem lgc_R {a b : Int} : zR (if b < a then (1 : Int) else if a = b then 0 else -1) := by
  unfold zR
  by_cases h : b < a
  · rw [if_pos h]; omega
  · rw [if_neg h]
    by_cases h2 : a = b
    · rw [if_pos h2]; omega
    · rw [if_neg h2]; omega
theorem ite_in {p : Prop} [Decidable p] {a b : Int} (ha : a = 0 ∨ a = 1) (hb : b = 0 ∨ b = 1) : (if p then a else b) = 0 ∨ (if p then a else b) = 1 := by
  by_cases h : p
  · rw [if_pos h]; exact ha
  · rw [if_neg h]; exact hb
theorem setb {v j : Int} (hv : 0 ≤ v ∧ v < 256) (h0 : 0 ≤ j) (h1 : j < 8) : zor v (zshl 1 j) = ofBits (fun i => if i = j then 1 else zbit v i) := by
  have key : ∀ a : Fin 8, zshl 1 (a.val : Int) = ofBits (fun i => if i = (a.val : Int) then 1 else 0) := by decide +kernel
  obtain ⟨a, rfl⟩ := z_nat h0
  have e := key ⟨a, by omega⟩
  have hb : ∀ i, 0 ≤ i → i < 8 → (fun i => if i = (a : Int) then (1 : Int) else 0) i = 0 ∨ (fun i => if i = (a : Int) then (1 : Int) else 0) i = 1 := fun i _ _ => ite_in (Or.inr rfl) (Or.inl rfl)
  rw [show zshl 1 (a : Int) = _ from e, zor_byte hv (ofBits_in hb)]
  refine ofBits_congr (fun i i0 i1 => ?_)
  show zbit v i + zbit (ofBits _) i - zbit v i * zbit (ofBits _) i = _
  rw [zbit_ofBits hb i0 i1]
  show zbit v i + (if i = (a : Int) then 1 else 0) - zbit v i * (if i = (a : Int) then 1 else 0) = _
  by_cases h : i = (a : Int)
  · rw [if_pos h, if_pos h]; omega
  · rw [if_neg h, if_neg h]; omega


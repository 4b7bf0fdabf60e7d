/-! Keys of four kinds; places of blocks; the world of the tree's rows. -/
def bt (v : Int) (n : Nat) : Bool := (zI v).toBitVec.getLsbD n
theorem bt_or (a b : Int) (n : Nat) : bt (zor a b) n = (bt a n || bt b n) := by
  unfold bt zor; rw [zI_of, Int32.toBitVec_or, BitVec.getLsbD_or]
theorem bt_and (a b : Int) (n : Nat) : bt (zand a b) n = (bt a n && bt b n) := by
  unfold bt zand; rw [zI_of, Int32.toBitVec_and, BitVec.getLsbD_and]
theorem bt_not (a : Int) {n : Nat} (h : n < 32) : bt (zxor a (-1)) n = !bt a n := by
  unfold bt zxor
  rw [zI_of, Int32.toBitVec_xor, BitVec.getLsbD_xor]
  have hm : (zI (-1)).toBitVec = BitVec.allOnes 32 := by decide
  rw [hm, BitVec.getLsbD_allOnes]
  simp [h]
theorem bt_shl {a m i j : Nat} (ha : a < 256) (hm : m < 4) (hi : i < 4) (hj : j < 8) : bt (zshl (a : Int) ((8 * m : Nat) : Int)) (8 * i + j) = if m = i then a.testBit j else false := by
  unfold bt zshl
  rw [zI_of, Int32.toBitVec_shiftLeft, zI_bv, z_sh_amt ⟨8 * m, by omega⟩]
  have e : (BitVec.ofNat 32 (8 * m)).toNat = 8 * m := by simp only [BitVec.toNat_ofNat]; exact Nat.mod_eq_of_lt (by omega)
  rw [BitVec.shiftLeft_eq', e, BitVec.getLsbD_shiftLeft, BitVec.getLsbD_ofNat]
  by_cases h : m = i
  · subst h
    rw [if_pos rfl, show 8 * m + j - 8 * m = j by omega]
    simp [show 8 * m + j < 32 by omega, show ¬ (8 * m + j < 8 * m) by omega, show j < 32 by omega]
  · rw [if_neg h]
    by_cases o : m < i
    · have : a.testBit (8 * i + j - 8 * m) = false := Nat.testBit_lt_two_pow (Nat.lt_of_lt_of_le ha (Nat.pow_le_pow_right (n := 2) (i := 8) (by decide) (by omega)))
      simp [this]
    · simp [show 8 * i + j < 8 * m by omega]
theorem bt_0 (n : Nat) : bt 0 n = false := by
  unfold bt
  have : (zI 0).toBitVec = 0#32 := by decide
  rw [this]; simp
theorem bt_ext {a b : Int} (ha : zR a) (hb : zR b) (h : ∀ i j : Nat, i < 4 → j < 8 → bt a (8 * i + j) = bt b (8 * i + j)) : a = b := by
  rw [← zI_eq ha hb]
  apply Int32.toBitVec_inj.mp
  apply BitVec.eq_of_getLsbD_eq
  intro n hn
  have := h (n / 8) (n % 8) (by omega) (by omega)
  rw [show 8 * (n / 8) + n % 8 = n by omega] at this
  exact this
theorem zor_R (a b : Int) : zR (zor a b) := zR_of _
theorem zand_R (a b : Int) : zR (zand a b) := zR_of _
theorem zxor_R (a b : Int) : zR (zxor a b) := zR_of _
theorem zshl_R (a b : Int) : zR (zshl a b) := zR_of _
theorem zshr_R (a b : Int) : zR (zshr a b) := zR_of _
/-- the key of the kinds f 0 .. -/
def pkk (f : Nat → Int) : Nat → Int
  | 0 => 0
  | i + 1 => zor (pkk f i) (zshl (f i) (8 * (i : Int)))
theorem pkk_R (f : Nat → Int) : ∀ i, zR (pkk f i) := by
  intro i
  cases i with
  | zero => exact zR0
  | succ i => exact zor_R _ _
theorem pkk_bt {f : Nat → Int} (hf : ∀ q, q < 4 → 0 ≤ f q ∧ f q < 256) {i j : Nat} (hi : i < 4) (hj : j < 8) : ∀ n, n ≤ 4 → bt (pkk f n) (8 * i + j) = if i < n then (f i).toNat.testBit j else false := by
  intro n
  induction n with
  | zero => intro _; rw [pkk, bt_0]; rfl
  | succ n ih =>
    intro hn
    have h1 := hf n (by omega)
    obtain ⟨a, ha⟩ := z_nat h1.1
    have e : (8 * (n : Int)) = ((8 * n : Nat) : Int) := by omega
    rw [pkk, bt_or, ih (by omega), ha, e, bt_shl (by omega) (by omega) hi hj]
    by_cases o : n = i
    · subst o
      rw [if_pos rfl, if_neg (by omega), if_pos (by omega), ha]
      simp
    · rw [if_neg o]
      by_cases o2 : i < n
      · rw [if_pos o2, if_pos (by omega)]; simp
      · rw [if_neg o2, if_neg (by omega)]; rfl
theorem byte_bits {a b : Int} (ha : 0 ≤ a ∧ a < 256) (hb : 0 ≤ b ∧ b < 256) (h : ∀ j : Nat, j < 8 → a.toNat.testBit j = b.toNat.testBit j) : a = b := by
  have : a.toNat = b.toNat := by
    apply Nat.eq_of_testBit_eq
    intro j
    by_cases hj : j < 8
    · exact h j hj
    · have h2 : (2 : Nat) ^ 8 ≤ 2 ^ j := Nat.pow_le_pow_right (by decide) (by omega)
      rw [Nat.testBit_lt_two_pow (show a.toNat < 2 ^ j by omega), Nat.testBit_lt_two_pow (show b.toNat < 2 ^ j by omega)]
  omega
theorem pkk_inj {f g : Nat → Int} (hf : ∀ q, q < 4 → 0 ≤ f q ∧ f q < 256) (hg : ∀ q, q < 4 → 0 ≤ g q ∧ g q < 256) : pkk f 4 = pkk g 4 ↔ ∀ q, q < 4 → f q = g q := by
  constructor
  · intro h q hq
    refine byte_bits (hf q hq) (hg q hq) (fun j hj => ?_)
    have h1 := pkk_bt hf hq hj 4 (by omega)
    have h2 := pkk_bt hg hq hj 4 (by omega)
    rw [if_pos hq] at h1 h2
    rw [← h1, ← h2, h]
  · intro h
    simp only [pkk]
    rw [h 0 (by omega), h 1 (by omega), h 2 (by omega), h 3 (by omega)]
theorem pkk_c (v : Nat) (h : v < 2) : pkk (fun _ => (v : Int)) 4 = if v = 0 then 0 else 16843009 := by
  have : ∀ v : Fin 2, pkk (fun _ => (v.val : Int)) 4 = if v.val = 0 then 0 else 16843009 := by decide +kernel
  exact this ⟨v, h⟩
theorem pkk_0 {f : Nat → Int} (hf : ∀ q, q < 4 → 0 ≤ f q ∧ f q < 256) : pkk f 4 = 0 ↔ ∀ q, q < 4 → f q = 0 := by
  have e : (0 : Int) = pkk (fun _ => 0) 4 := (pkk_c 0 (by omega)).symm
  rw [e]
  exact pkk_inj hf (fun _ _ => by show (0 : Int) ≤ 0 ∧ (0 : Int) < 256; omega)
theorem pkk_1 {f : Nat → Int} (hf : ∀ q, q < 4 → 0 ≤ f q ∧ f q < 256) : pkk f 4 = 16843009 ↔ ∀ q, q < 4 → f q = 1 := by
  have e : (16843009 : Int) = pkk (fun _ => 1) 4 := (pkk_c 1 (by omega)).symm
  rw [e]
  exact pkk_inj hf (fun _ _ => by show (0 : Int) ≤ 1 ∧ (1 : Int) < 256; omega)
/-- one kind of a key another one -/
theorem pkk_put {f : Nat → Int} {v : Int} {m : Nat} (hf : ∀ q, q < 4 → 0 ≤ f q ∧ f q < 256) (hv : 0 ≤ v ∧ v < 256) (hm : m < 4) : zor (zand (pkk f 4) (zxor (zshl 255 (8 * (m : Int))) (-1))) (zshl v (8 * (m : Int))) = pkk (fun q => if q = m then v else f q) 4 := by
  have hg : ∀ q, q < 4 → 0 ≤ (fun q => if q = m then v else f q) q ∧ (fun q => if q = m then v else f q) q < 256 := by
    intro q hq
    by_cases h : q = m
    · show 0 ≤ (if q = m then v else f q) ∧ (if q = m then v else f q) < 256; rw [if_pos h]; exact hv
    · show 0 ≤ (if q = m then v else f q) ∧ (if q = m then v else f q) < 256; rw [if_neg h]; exact hf q hq
  refine bt_ext (zor_R _ _) (pkk_R _ 4) (fun i j hi hj => ?_)
  obtain ⟨a, ha⟩ := z_nat hv.1
  have e : (8 * (m : Int)) = ((8 * m : Nat) : Int) := by omega
  have h255 := bt_shl (a := 255) (m := m) (i := i) (j := j) (by omega) hm hi hj
  rw [bt_or, bt_and, bt_not _ (by omega), pkk_bt hf hi hj 4 (by omega), if_pos hi, pkk_bt hg hi hj 4 (by omega), if_pos hi, ha, e, bt_shl (by omega) hm hi hj]
  rw [show ((255 : Nat) : Int) = 255 from rfl] at h255
  rw [h255]
  have t255 : (255 : Nat).testBit j = true := by
    have : ∀ k : Fin 8, (255 : Nat).testBit k.val = true := by decide
    exact this ⟨j, hj⟩
  by_cases o : m = i
  · subst o
    simp [t255]
  · rw [if_neg o, if_neg o]
    show _ = (if i = m then (a : Int) else f i).toNat.testBit j
    rw [if_neg (fun q => o q.symm)]
    simp
/-- the place of a block in the tree's rows -/
def noff (l : Int) : Int := if l ≤ 0 then 0 else if l = 1 then 256 else if l = 2 then 320 else if l = 3 then 336 else 340
def nd (l x : Int) : Int := noff l + x
theorem nd_in {l x : Int} (hl : 0 ≤ l ∧ l ≤ 4) (hx : 0 ≤ x ∧ x < p4 (4 - l)) : 0 ≤ nd l x ∧ nd l x < 341 := by
  unfold nd
  rcases p4_cases hl with h | h | h | h | h <;> subst h <;> simp [noff, p4] at * <;> omega
theorem nd_inj {l l' x x' : Int} (hl : 0 ≤ l ∧ l ≤ 4) (hx : 0 ≤ x ∧ x < p4 (4 - l)) (hl' : 0 ≤ l' ∧ l' ≤ 4) (hx' : 0 ≤ x' ∧ x' < p4 (4 - l')) (h : nd l x = nd l' x') : l = l' ∧ x = x' := by
  unfold nd at h
  rcases p4_cases hl with e | e | e | e | e <;> subst e <;> rcases p4_cases hl' with e | e | e | e | e <;> subst e <;> simp [noff, p4] at * <;> omega
theorem p4_le {a b : Int} (h : a ≤ b) : p4 a ≤ p4 b := by
  unfold p4
  by_cases h0 : a ≤ 0
  · rw [if_pos h0]; have := (p4_in b).1; unfold p4 at this; omega
  · rw [if_neg h0, if_neg (show ¬ b ≤ 0 by omega)]
    by_cases h1 : a = 1
    · rw [if_pos h1]
      by_cases g1 : b = 1
      · rw [if_pos g1]; omega
      · rw [if_neg g1]
        by_cases g2 : b = 2
        · rw [if_pos g2]; omega
        · rw [if_neg g2]
          by_cases g3 : b = 3
          · rw [if_pos g3]; omega
          · rw [if_neg g3]; omega
    · rw [if_neg h1, if_neg (show ¬ b = 1 by omega)]
      by_cases h2 : a = 2
      · rw [if_pos h2]
        by_cases g2 : b = 2
        · rw [if_pos g2]; omega
        · rw [if_neg g2]
          by_cases g3 : b = 3
          · rw [if_pos g3]; omega
          · rw [if_neg g3]; omega
      · rw [if_neg h2, if_neg (show ¬ b = 2 by omega)]
        by_cases h3 : a = 3
        · rw [if_pos h3]
          by_cases g3 : b = 3
          · rw [if_pos g3]; omega
          · rw [if_neg g3]; omega
        · rw [if_neg h3, if_neg (show ¬ b = 3 by omega)]; omega
def fup (f : Int → Int) (k v : Int) : Int → Int := fun j => if j = k then v else f j
theorem fup_s (f : Int → Int) (k v : Int) : fup f k v k = v := if_pos rfl
theorem fup_n {f : Int → Int} {k j : Int} (v : Int) (h : j ≠ k) : fup f k v j = f j := if_neg h
/-- the tree's rows: kinds, keys, sizes, codes, starts, content -/
def tw (M : qM) (K Y S C T N : Int → Int) : qM := fun o k => if o = 12 then K k else if o = 13 then Y k else if o = 14 then S k else if o = 15 then C k else if o = 16 then T k else if o = 17 then N k else M o k
theorem tw_id (M : qM) : M = tw M (M 12) (M 13) (M 14) (M 15) (M 16) (M 17) := by
  funext o k
  unfold tw
  by_cases h : o = 12
  · rw [if_pos h, h]
  · rw [if_neg h]
    by_cases h : o = 13
    · rw [if_pos h, h]
    · rw [if_neg h]
      by_cases h : o = 14
      · rw [if_pos h, h]
      · rw [if_neg h]
        by_cases h : o = 15
        · rw [if_pos h, h]
        · rw [if_neg h]
          by_cases h : o = 16
          · rw [if_pos h, h]
          · rw [if_neg h]
            by_cases h : o = 17
            · rw [if_pos h, h]
            · rw [if_neg h]
section TW
variable (M : qM) (K Y S C T N : Int → Int) (k v : Int)
theorem tw_12 : tw M K Y S C T N 12 k = K k := rfl
theorem tw_13 : tw M K Y S C T N 13 k = Y k := rfl
theorem tw_14 : tw M K Y S C T N 14 k = S k := rfl
theorem tw_15 : tw M K Y S C T N 15 k = C k := rfl
theorem tw_16 : tw M K Y S C T N 16 k = T k := rfl
theorem tw_17 : tw M K Y S C T N 17 k = N k := rfl
theorem tw_5 : tw M K Y S C T N 5 k = M 5 k := rfl
theorem tw_4 : tw M K Y S C T N 4 k = M 4 k := rfl
theorem tw_up (o : Nat) : qup (tw M K Y S C T N) o k v = tw (if 12 ≤ o ∧ o ≤ 17 then M else qup M o k v) (if o = 12 then fup K k v else K) (if o = 13 then fup Y k v else Y) (if o = 14 then fup S k v else S) (if o = 15 then fup C k v else C) (if o = 16 then fup T k v else T) (if o = 17 then fup N k v else N) := by
  funext o' k'
  simp only [qup, tw, fup]
  by_cases h : o' = o
  · subst h
    by_cases e : o' = 12
    · subst e; simp [fup]
    · by_cases e : o' = 13
      · subst e; simp [fup]
      · by_cases e : o' = 14
        · subst e; simp [fup]
        · by_cases e : o' = 15
          · subst e; simp [fup]
          · by_cases e : o' = 16
            · subst e; simp [fup]
            · by_cases e : o' = 17
              · subst e; simp [fup]
              · simp only [show ¬ (12 ≤ o' ∧ o' ≤ 17) by omega, show ¬ o' = 12 by assumption, show ¬ o' = 13 by assumption, show ¬ o' = 14 by assumption, show ¬ o' = 15 by assumption, show ¬ o' = 16 by assumption, e, if_false, qup]
  · have e0 : ¬ (o' = o ∧ k' = k) := fun q => h q.1
    rw [if_neg e0]
    by_cases e : o' = 12
    · subst e; rw [if_pos rfl, if_pos rfl, if_neg (fun q => h q.symm)]
    · by_cases e : o' = 13
      · subst e; simp [show ¬ o = 13 from fun q => h q.symm]
      · by_cases e : o' = 14
        · subst e; simp [show ¬ o = 14 from fun q => h q.symm]
        · by_cases e : o' = 15
          · subst e; simp [show ¬ o = 15 from fun q => h q.symm]
          · by_cases e : o' = 16
            · subst e; simp [show ¬ o = 16 from fun q => h q.symm]
            · by_cases e : o' = 17
              · subst e; simp [show ¬ o = 17 from fun q => h q.symm]
              · rw [if_neg e, if_neg (show ¬ o' = 16 by assumption), if_neg (show ¬ o' = 15 by assumption), if_neg (show ¬ o' = 14 by assumption), if_neg (show ¬ o' = 13 by assumption), if_neg (show ¬ o' = 12 by assumption), if_neg e, if_neg (show ¬ o' = 16 by assumption), if_neg (show ¬ o' = 15 by assumption), if_neg (show ¬ o' = 14 by assumption), if_neg (show ¬ o' = 13 by assumption), if_neg (show ¬ o' = 12 by assumption)]
                by_cases g : 12 ≤ o ∧ o ≤ 17
                · rw [if_pos g]
                · rw [if_neg g]; exact (if_neg e0).symm
theorem tw_u12 : qup (tw M K Y S C T N) 12 k v = tw M (fup K k v) Y S C T N := tw_up M K Y S C T N k v 12
theorem tw_u13 : qup (tw M K Y S C T N) 13 k v = tw M K (fup Y k v) S C T N := tw_up M K Y S C T N k v 13
theorem tw_u14 : qup (tw M K Y S C T N) 14 k v = tw M K Y (fup S k v) C T N := tw_up M K Y S C T N k v 14
theorem tw_u15 : qup (tw M K Y S C T N) 15 k v = tw M K Y S (fup C k v) T N := tw_up M K Y S C T N k v 15
theorem tw_u16 : qup (tw M K Y S C T N) 16 k v = tw M K Y S C (fup T k v) N := tw_up M K Y S C T N k v 16
theorem tw_u17 : qup (tw M K Y S C T N) 17 k v = tw M K Y S C T (fup N k v) := tw_up M K Y S C T N k v 17
end TW
/-- where a key is told first, as kindOfKey answers -/
def kkP (Yl : Int → Int) (n key z : Int) : Prop := (key = 0 ∧ z = 0) ∨ (key = 16843009 ∧ z = 1) ∨ (key ≠ 0 ∧ key ≠ 16843009 ∧ ((∃ f, 0 ≤ f ∧ f < n ∧ z = f + 2 ∧ Yl f = key ∧ ∀ g, 0 ≤ g → g < f → Yl g ≠ key) ∨ ((∀ g, 0 ≤ g → g < n → Yl g ≠ key) ∧ z = -2)))
theorem node_v {l : Int} (h : 0 ≤ l ∧ l ≤ 4) : zdiv (1024 - zshr 1024 (2 * l)) 3 = noff l := by
  rcases p4_cases h with h | h | h | h | h <;> subst h <;> decide +kernel
set_option maxHeartbeats 1000000 in
theorem c_node {l b : Int} {M : qM} (h : 0 ≤ l ∧ l ≤ 4) : qCt mX6_node 0 0 [.int (zI l), .int (zI b)] M (qpe (nd l b) M) := by
  refine q_intro (own := 6) (L := [some (.int (zI l)), some (.int (zI b))]) md_X6_node rfl rfl rfl (Nat.le_of_ble_eq_true rfl) (fun X => ?_)
  refine q_sipush dX6_node_0 rfl ?_
  refine q_sipush dX6_node_3 rfl ?_
  refine q_iconst dX6_node_6 ?_
  refine q_iload_n dX6_node_7 rfl ?_
  refine q_imul dX6_node_8 ?_
  refine q_ishr dX6_node_9 ?_
  refine q_isub dX6_node_10 ?_
  refine q_iconst dX6_node_11 ?_
  refine q_idiv dX6_node_12 (by (first | (unfold zR; omega) | (unfold zLR; omega) | omega | (simp only [zR, qup] at *; omega) | (simp [zR, qup]; omega) | (simp [zR, qup]; done))) (by omega) ?_
  refine q_iload_n dX6_node_13 rfl ?_
  refine q_iadd dX6_node_14 ?_
  refine q_ireturn dX6_node_15 ?_
  exact ⟨by rw [node_v h]; rfl, rfl⟩
def kcell (v : Int) : Int := if v = 0 then 0 else if v = 255 then 1 else v + 1
theorem kcell_in {v : Int} (h : 0 ≤ v ∧ v < 256) : 0 ≤ kcell v ∧ kcell v < 256 := by
  unfold kcell
  by_cases h0 : v = 0
  · rw [if_pos h0]; omega
  · rw [if_neg h0]
    by_cases h1 : v = 255
    · rw [if_pos h1]; omega
    · rw [if_neg h1]; omega
theorem kcell_0 {v : Int} (h : 0 ≤ v ∧ v < 256) : kcell v = 0 ↔ v = 0 := by
  unfold kcell
  by_cases h0 : v = 0
  · rw [if_pos h0]; omega
  · rw [if_neg h0]
    by_cases h1 : v = 255
    · rw [if_pos h1]; omega
    · rw [if_neg h1]; omega
theorem kcell_1 {v : Int} (h : 0 ≤ v ∧ v < 256) : kcell v = 1 ↔ v = 255 := by
  unfold kcell
  by_cases h0 : v = 0
  · rw [if_pos h0]; omega
  · rw [if_neg h0]
    by_cases h1 : v = 255
    · rw [if_pos h1]; omega
    · rw [if_neg h1]; omega
theorem kcell_e {v w : Int} (h : 0 ≤ v ∧ v < 256) (h' : 0 ≤ w ∧ w < 256) : kcell v = kcell w ↔ v = w := by
  unfold kcell
  by_cases h0 : v = 0
  · rw [if_pos h0]
    by_cases g0 : w = 0
    · rw [if_pos g0]; omega
    · rw [if_neg g0]
      by_cases g1 : w = 255
      · rw [if_pos g1]; omega
      · rw [if_neg g1]; omega
  · rw [if_neg h0]
    by_cases h1 : v = 255
    · rw [if_pos h1]
      by_cases g0 : w = 0
      · rw [if_pos g0]; omega
      · rw [if_neg g0]
        by_cases g1 : w = 255
        · rw [if_pos g1]; omega
        · rw [if_neg g1]; omega
    · rw [if_neg h1]
      by_cases g0 : w = 0
      · rw [if_pos g0]; omega
      · rw [if_neg g0]
        by_cases g1 : w = 255
        · rw [if_pos g1]; omega
        · rw [if_neg g1]; omega
set_option maxHeartbeats 1000000 in
theorem c_kindOfCell {v : Int} {M : qM} (h : 0 ≤ v ∧ v < 256) : qCt mX6_kindOfCell 0 0 [.int (zI v)] M (qpe (kcell v) M) := by
  refine q_intro (own := 6) (L := [some (.int (zI v))]) md_X6_kindOfCell rfl rfl rfl (Nat.le_of_ble_eq_true rfl) (fun X => ?_)
  refine q_iload_n dX6_kindOfCell_0 rfl ?_
  refine q_if_ne (tgt := 6) dX6_kindOfCell_1 rfl (by (first | (unfold zR; omega) | (unfold zLR; omega) | omega | (simp only [zR, qup] at *; omega) | (simp [zR, qup]; omega) | (simp [zR, qup]; done))) (fun h1 => ?_) (fun h1 => ?_)
  ·
    refine q_iload_n dX6_kindOfCell_6 rfl ?_
    refine q_sipush dX6_kindOfCell_7 rfl ?_
    refine q_icmp_ne (tgt := 17) dX6_kindOfCell_10 rfl (by (first | (unfold zR; omega) | (unfold zLR; omega) | omega | (simp only [zR, qup] at *; omega) | (simp [zR, qup]; omega) | (simp [zR, qup]; done))) (by (first | (unfold zR; omega) | (unfold zLR; omega) | omega | (simp only [zR, qup] at *; omega) | (simp [zR, qup]; omega) | (simp [zR, qup]; done))) (fun h10 => ?_) (fun h10 => ?_)
    ·
      refine q_iload_n dX6_kindOfCell_17 rfl ?_
      refine q_iconst dX6_kindOfCell_18 ?_
      refine q_iadd dX6_kindOfCell_19 ?_
      refine q_ireturn dX6_kindOfCell_20 ?_
      exact ⟨by unfold kcell; rw [if_neg h1, if_neg h10], rfl⟩
    ·
      refine q_iconst dX6_kindOfCell_13 ?_
      refine q_goto (tgt := 20) dX6_kindOfCell_14 rfl ?_
      refine q_ireturn dX6_kindOfCell_20 ?_
      exact ⟨by unfold kcell; rw [if_neg h1, if_pos h10], rfl⟩
  ·
    refine q_iconst dX6_kindOfCell_4 ?_
    refine q_ireturn dX6_kindOfCell_5 ?_
    exact ⟨by unfold kcell; rw [if_pos h1], rfl⟩
def ckind (k last : Int) : Int := if k = 0 ∨ k = 1 then k else if k = last then 3 else 2
set_option maxHeartbeats 1000000 in
theorem c_codeOfKind {k last : Int} {M : qM} (h : zR k) (h' : zR last) : qCt mX6_codeOfKind 0 0 [.int (zI k), .int (zI last)] M (qpe (ckind k last) M) := by
  refine q_intro (own := 6) (L := [some (.int (zI k)), some (.int (zI last))]) md_X6_codeOfKind rfl rfl rfl (Nat.le_of_ble_eq_true rfl) (fun X => ?_)
  refine q_iload_n dX6_codeOfKind_0 rfl ?_
  refine q_if_eq (tgt := 9) dX6_codeOfKind_1 rfl (by exact h) (fun h1 => ?_) (fun h1 => ?_)
  ·
    refine q_iload_n dX6_codeOfKind_9 rfl ?_
    refine q_ireturn dX6_codeOfKind_10 ?_
    exact ⟨by unfold ckind; rw [if_pos (Or.inl h1)], rfl⟩
  ·
    refine q_iload_n dX6_codeOfKind_4 rfl ?_
    refine q_iconst dX6_codeOfKind_5 ?_
    refine q_icmp_ne (tgt := 11) dX6_codeOfKind_6 rfl (by exact h) (by exact zR_of 1) (fun h6 => ?_) (fun h6 => ?_)
    ·
      refine q_iload_n dX6_codeOfKind_11 rfl ?_
      refine q_iload_n dX6_codeOfKind_12 rfl ?_
      refine q_icmp_ne (tgt := 20) dX6_codeOfKind_13 rfl (by exact h) (by exact h') (fun h13 => ?_) (fun h13 => ?_)
      ·
        refine q_iconst dX6_codeOfKind_20 ?_
        refine q_ireturn dX6_codeOfKind_21 ?_
        exact ⟨by unfold ckind; rw [if_neg (by omega), if_neg h13], rfl⟩
      ·
        refine q_iconst dX6_codeOfKind_16 ?_
        refine q_goto (tgt := 21) dX6_codeOfKind_17 rfl ?_
        refine q_ireturn dX6_codeOfKind_21 ?_
        exact ⟨by unfold ckind; rw [if_neg (by omega), if_pos h13], rfl⟩
    ·
      refine q_iload_n dX6_codeOfKind_9 rfl ?_
      refine q_ireturn dX6_codeOfKind_10 ?_
      exact ⟨by unfold ckind; rw [if_pos (Or.inr h6)], rfl⟩
theorem k_6_84 : Cond.constant (qNm 6) 84 (zI 16843009) ∈ qT := qT_of 851 (by decide +kernel) (by decide +kernel)
theorem q_ldc {X : qX} {own : Nat} {cc : ByteArray} {nL : Nat} {ret : Option FieldType} {u d : Nat} {P : qP} {b pc : Nat} {L : List (Option Value)} {st : List Value} {M : qM} {idx : Nat} {z : Int} (dd : decode cc pc = .ok (.ldc idx, 2)) (hw : Cond.constant (qNm own) idx (zI z) ∈ qT) (k : QW X (own, cc, nL, ret, u, d) P b (pc + 2) L (.int (zI z) :: st) M) : QW X (own, cc, nL, ret, u, d) P b pc L st M := by
  obtain ⟨p, l, e, s, m, args, below, meth, c, dC, dI, cyI, cyZ, ad⟩ := X
  intro ok H locs cells slots ls hP hS hl h1 h2
  obtain ⟨hx, hb, hml, hown, hts, hret, hlocks, hex, hK, hinj, henv, hst⟩ := id ok
  exact lv_ldc hx hb hown (hts _ hw) dd (k ok H locs cells slots ls hP hS hl h1 h2)


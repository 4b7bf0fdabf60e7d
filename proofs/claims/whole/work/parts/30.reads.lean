/-! Reading a tree: what the bytes src, n of them, give; k goes on behind a block. -/
def lastT (v : Int) : Nat → Int
  | 0 => -1
  | q + 1 => if hcode v q = 2 then (q : Int) else lastT v q
theorem lastT_in (v : Int) : ∀ q : Nat, lastT v q = -1 ∨ (0 ≤ lastT v q ∧ lastT v q < q) := by
  intro q
  induction q with
  | zero => exact Or.inl rfl
  | succ q ih =>
    rw [lastT]
    by_cases h : hcode v q = 2
    · rw [if_pos h]; omega
    · rw [if_neg h]; omega
def hdOk (v : Int) : Prop := ∀ q : Nat, q < 4 → hcode v q = 3 → lastT v q ≠ -1
def fset (w : Int → Int) (f n v : Int) : Int → Int := fun k => if f ≤ k ∧ k < f + n then v else w k
def fcpy (w : Int → Int) (s t n : Int) : Int → Int := fun k => if t ≤ k ∧ k < t + n then w (s + (k - t)) else w k
abbrev qR : Type := Int × (Int → Int)
def rwr (q : Int) : qR := (q, fun _ => 0)
def rfin (n : Int) (L : Nat) : Int → (Int → Int) → qR := fun p w => if p < n then rwr p else (-1, fun k => if 0 ≤ k ∧ k < p4 L then w k else 0)
def bad (w : Int → Int) (l b last : Int) : Prop := allv w l b 0 ∨ allv w l b 255 ∨ (last ≠ -1 ∧ same w l last b)
noncomputable def qif (p : Prop) (a b : qR) : qR := @ite qR p (Classical.propDecidable p) a b
theorem qif_t {p : Prop} {a b : qR} (h : p) : qif p a b = a := by unfold qif; exact if_pos h
theorem qif_f {p : Prop} {a b : qR} (h : ¬ p) : qif p a b = b := by unfold qif; exact if_neg h
def lastB (b v : Int) (i : Nat) : Int := if lastT v i = -1 then -1 else 4 * b + lastT v i
abbrev qKt : Type := Int → (Int → Int) → qR
noncomputable def rl (sub : Int → Int → (Int → Int) → qKt → qR) (l : Nat) (b v : Int) : Nat → Int → (Int → Int) → qKt → qR
  | 0, p, w, k => k p w
  | j + 1, p, w, k => if hcode v ((3 - j : Nat) : Int) < 2 then rl sub l b v j p (fset w (p4 l * (4 * b + ((3 - j : Nat) : Int))) (p4 l) (255 * hcode v ((3 - j : Nat) : Int))) k
    else if hcode v ((3 - j : Nat) : Int) = 3 then rl sub l b v j p (fcpy w (p4 l * (4 * b + lastT v (3 - j))) (p4 l * (4 * b + ((3 - j : Nat) : Int))) (p4 l)) k
    else sub (4 * b + ((3 - j : Nat) : Int)) p w (fun p' w' => qif (bad w' l (4 * b + ((3 - j : Nat) : Int)) (lastB b v (3 - j))) (rwr (p' - 1)) (rl sub l b v j p' w' k))
theorem rl_4 (sub : Int → Int → (Int → Int) → qKt → qR) (l : Nat) (b v : Int) (p : Int) (w : Int → Int) (k : qKt) : rl sub l b v (4 - 4) p w k = k p w := rfl
theorem rl_i (sub : Int → Int → (Int → Int) → qKt → qR) (l : Nat) (b v : Int) {i : Nat} (hi : i < 4) (p : Int) (w : Int → Int) (k : qKt) : rl sub l b v (4 - i) p w k = if hcode v i < 2 then rl sub l b v (4 - (i + 1)) p (fset w (p4 l * (4 * b + i)) (p4 l) (255 * hcode v i)) k
    else if hcode v i = 3 then rl sub l b v (4 - (i + 1)) p (fcpy w (p4 l * (4 * b + lastT v i)) (p4 l * (4 * b + i)) (p4 l)) k
    else sub (4 * b + i) p w (fun p' w' => qif (bad w' l (4 * b + i) (lastB b v i)) (rwr (p' - 1)) (rl sub l b v (4 - (i + 1)) p' w' k)) := by
  rw [show 4 - i = (3 - i) + 1 by omega, rl, show 3 - (3 - i) = i by omega, show 4 - (i + 1) = 3 - i by omega]
noncomputable def rc (n : Int) (src : Int → Int) : Nat → Int → Int → (Int → Int) → qKt → qR
  | 0, b, p, w, k => if p = n then rwr n else k (p + 1) (fup w b (src p))
  | l + 1, b, p, w, k => if p = n then rwr n else qif (hdOk (src p)) (rl (rc n src l) l b (src p) 4 (p + 1) w k) (rwr p)
/-- what goes on behind a block m levels below the map, by the blocks that are open -/
noncomputable def ktk (n : Int) (src B H Q : Int → Int) (L : Nat) : Nat → qKt
  | 0 => rfin n L
  | m + 1 => fun p w => qif (bad w ((L - m - 1 : Nat) : Int) (4 * B ((L : Int) - m) + Q ((L : Int) - m)) (lastB (B ((L : Int) - m)) (H ((L : Int) - m)) (Q ((L : Int) - m)).toNat)) (rwr (p - 1)) (rl (rc n src (L - m - 1)) (L - m - 1) (B ((L : Int) - m)) (H ((L : Int) - m)) (4 - ((Q ((L : Int) - m)).toNat + 1)) p w (ktk n src B H Q L m))
theorem ktk_c {n : Int} {src B H Q B' H' Q' : Int → Int} {L : Nat} : ∀ (m : Nat), (∀ l : Int, (L : Int) - m < l → B' l = B l ∧ H' l = H l ∧ Q' l = Q l) → ktk n src B' H' Q' L m = ktk n src B H Q L m := by
  intro m
  induction m with
  | zero => intro _; rfl
  | succ m ih =>
    intro h
    have := h ((L : Int) - m) (by omega)
    rw [ktk, ktk, ih (fun l hl => h l (by omega)), this.1, this.2.1, this.2.2]
noncomputable def due (n : Int) (src : Int → Int) (L o : Nat) (B H Q : Int → Int) (p : Int) (w : Int → Int) : qR := rc n src o (B o) p w (ktk n src B H Q L (L - o))
noncomputable def mic (n : Int) (src : Int → Int) (L o : Nat) (B H Q : Int → Int) (p : Int) (w : Int → Int) : qR := if Q o = 4 then ktk n src B H Q L (L - o) p w else rl (rc n src (o - 1)) (o - 1) (B o) (H o) (4 - (Q o).toNat) p w (ktk n src B H Q L (L - o))
/-- the blocks that are open -/
def St (L o : Nat) (B H Q : Int → Int) : Prop := o ≤ L ∧ B L = 0 ∧ ∀ l : Nat, o ≤ l → l < L → B l = 4 * B ((l : Int) + 1) + Q ((l : Int) + 1) ∧ 0 ≤ Q ((l : Int) + 1) ∧ Q ((l : Int) + 1) < 4 ∧ hcode (H ((l : Int) + 1)) (Q ((l : Int) + 1)) = 2 ∧ 0 ≤ H ((l : Int) + 1) ∧ H ((l : Int) + 1) < 256 ∧ hdOk (H ((l : Int) + 1))
theorem St_B {L o : Nat} {B H Q : Int → Int} (hL : L ≤ 4) (h : St L o B H Q) : ∀ m : Nat, o + m ≤ L → 0 ≤ B ((L : Int) - m) ∧ B ((L : Int) - m) < p4 m := by
  intro m
  induction m with
  | zero => intro _; rw [show (L : Int) - ((0 : Nat) : Int) = L by omega, h.2.1]; decide
  | succ m ih =>
    intro hm
    have h1 := ih (by omega)
    have h2 := h.2.2 (L - (m + 1)) (by omega) (by omega)
    have hp := p4_s (l := (m : Int)) (by omega)
    rw [show (((L - (m + 1) : Nat) : Int)) = (L : Int) - ((m + 1 : Nat) : Int) by omega, show (L : Int) - ((m + 1 : Nat) : Int) + 1 = (L : Int) - m by omega] at h2
    rw [show (((m + 1 : Nat) : Int)) = (m : Int) + 1 by omega, hp, show (L : Int) - ((m : Int) + 1) = (L : Int) - ((m + 1 : Nat) : Int) by omega]
    omega
theorem St_o {L o : Nat} {B H Q : Int → Int} (hL : L ≤ 4) (h : St L o B H Q) : 0 ≤ B o ∧ B o < p4 ((L : Int) - o) := by
  have h0 := h.1
  have := St_B hL h (L - o) (by omega)
  rw [show (L : Int) - ((L - o : Nat) : Int) = o by omega, show ((L - o : Nat) : Int) = (L : Int) - o by omega] at this
  exact this
theorem blk_room {L l : Nat} {x : Int} (hL : L ≤ 4) (hl : l ≤ L) (hx : 0 ≤ x ∧ x < p4 ((L : Int) - l)) : 0 ≤ p4 l * x ∧ p4 l * x + p4 l ≤ p4 L := by
  have hp := p4_in (l : Int)
  have e := p4_mul (a := (l : Int)) (b := (L : Int) - l) (by omega) (by omega)
  rw [show (l : Int) + ((L : Int) - l) = L by omega] at e
  have h1 : 0 ≤ p4 l * x := Int.mul_nonneg (by omega) hx.1
  have h2 : p4 l * (x + 1) ≤ p4 l * p4 ((L : Int) - l) := Int.mul_le_mul_of_nonneg_left (by omega) (by omega)
  rw [Int.mul_add, Int.mul_one, ← e] at h2
  exact ⟨h1, h2⟩
/-- how many steps are left -/
def mu (Q : Int → Int) (L : Nat) : Nat → Int
  | 0 => 5 - Q L
  | m + 1 => 5 - Q ((L : Int) - ((m + 1 : Nat) : Int)) + mu Q L m
theorem mu_c {Q Q' : Int → Int} {L : Nat} : ∀ m : Nat, (∀ l : Int, (L : Int) - m ≤ l → Q' l = Q l) → mu Q' L m = mu Q L m := by
  intro m
  induction m with
  | zero => intro h; rw [mu, mu, h _ (by omega)]
  | succ m ih => intro h; rw [mu, mu, ih (fun l hl => h l (by omega)), h _ (by omega)]
theorem mu_in {Q : Int → Int} {L : Nat} : ∀ m : Nat, m ≤ L → (∀ l : Nat, L ≤ l + m → l ≤ L → 0 ≤ Q l ∧ Q l ≤ 4) → 1 ≤ mu Q L m ∧ mu Q L m ≤ 5 * m + 5 := by
  intro m
  induction m with
  | zero => intro _ h; have := h L (by omega) (by omega); rw [mu]; omega
  | succ m ih =>
    intro hm h
    have h1 := ih (by omega) (fun l a b => h l (by omega) b)
    have h2 := h (L - (m + 1)) (by omega) (by omega)
    rw [show (((L - (m + 1) : Nat) : Int)) = (L : Int) - ((m + 1 : Nat) : Int) by omega] at h2
    rw [mu]
    omega
theorem mu_put {Q : Int → Int} {L : Nat} {v : Int} : ∀ m : Nat, mu (fup Q ((L : Int) - m) v) L m = mu Q L m + Q ((L : Int) - m) - v := by
  intro m
  cases m with
  | zero =>
    rw [mu, mu, show (L : Int) - ((0 : Nat) : Int) = L by omega, fup_s]
    omega
  | succ m =>
    rw [mu, mu, fup_s, mu_c (Q := Q) (Q' := fup Q ((L : Int) - ((m + 1 : Nat) : Int)) v) m (fun l hl => fup_n _ (by omega))]
    omega
section RQ
variable {M : qM}
set_option maxHeartbeats 1000000 in
theorem c_lastTree {v : Int} {q : Nat} (hv : 0 ≤ v ∧ v < 256) (hq : q ≤ 4) : qCt mX4_lastTree 0 1 [.int (zI v), .int (zI (q : Int))] M (qpe (lastT v q) M) := by
  refine q_intro (own := 4) (L := [some (.int (zI v)), some (.int (zI (q : Int))), none, none]) md_X4_lastTree rfl rfl rfl (Nat.le_of_ble_eq_true rfl) (fun X => ?_)
  refine q_iconst dX4_lastTree_0 ?_
  refine q_istore_n dX4_lastTree_1 (Nat.le_of_ble_eq_true rfl) rfl ?_
  refine q_iconst dX4_lastTree_2 ?_
  refine q_istore_n dX4_lastTree_3 (Nat.le_of_ble_eq_true rfl) rfl ?_
  refine q_lp (fun i : Nat => 5 - i) (fun i => i ≤ q) (fun i => [some (.int (zI v)), some (.int (zI (q : Int))), some (.int (zI (lastT v i))), some (.int (zI (i : Int)))]) (fun _ => M) 0 rfl rfl (by omega) (fun i hi ih => ?_)
  have hc := hcode_in v i
  refine q_iload_n dX4_lastTree_4 rfl ?_
  refine q_iload_n dX4_lastTree_5 rfl ?_
  refine q_icmp_ge (tgt := 26) dX4_lastTree_6 rfl (by (first | (unfold zR; omega) | (unfold zLR; omega) | omega | (simp only [zR, qup] at *; omega) | (simp [zR, qup]; omega) | (simp [zR, qup]; done))) (by (first | (unfold zR; omega) | (unfold zLR; omega) | omega | (simp only [zR, qup] at *; omega) | (simp [zR, qup]; omega) | (simp [zR, qup]; done))) (fun h6 => ?_) (fun h6 => ?_)
  rotate_left
  ·
    refine q_iload_n dX4_lastTree_9 rfl ?_
    refine q_iload_n dX4_lastTree_10 rfl ?_
    refine q_N2 dX4_lastTree_11 (by decide +kernel) md_X7_codeIn (c_codeIn (by omega) (by omega)) rfl (by first | decide | omega) (Nat.le_of_ble_eq_true rfl) (Nat.le_of_ble_eq_true rfl) (qk_e ?_)
    refine q_iconst dX4_lastTree_14 ?_
    refine q_icmp_ne (tgt := 20) dX4_lastTree_15 rfl (by (first | (unfold zR; omega) | (unfold zLR; omega) | omega | (simp only [zR, qup] at *; omega) | (simp [zR, qup]; omega) | (simp [zR, qup]; done))) (by (first | (unfold zR; omega) | (unfold zLR; omega) | omega | (simp only [zR, qup] at *; omega) | (simp [zR, qup]; omega) | (simp [zR, qup]; done))) (fun h15 => ?_) (fun h15 => ?_)
    ·
      refine q_iinc dX4_lastTree_20 rfl (Nat.le_of_ble_eq_true rfl) rfl ?_
      refine q_goto (tgt := 4) dX4_lastTree_23 rfl ?_
      exact ih (i + 1) _ _ (by omega) (by omega) (by rw [lastT, if_neg h15]; rfl) rfl
    ·
      refine q_iload_n dX4_lastTree_18 rfl ?_
      refine q_istore_n dX4_lastTree_19 (Nat.le_of_ble_eq_true rfl) rfl ?_
      refine q_iinc dX4_lastTree_20 rfl (Nat.le_of_ble_eq_true rfl) rfl ?_
      refine q_goto (tgt := 4) dX4_lastTree_23 rfl ?_
      exact ih (i + 1) _ _ (by omega) (by omega) (by rw [lastT, if_pos h15]; rfl) rfl
  refine q_iload_n dX4_lastTree_26 rfl ?_
  refine q_ireturn dX4_lastTree_27 ?_
  exact ⟨by rw [show i = q by omega], rfl⟩
set_option maxHeartbeats 1000000 in
theorem c_isHead {v : Int} (hv : 0 ≤ v ∧ v < 256) : qCt mX4_isHead 0 2 [.int (zI v)] M (qpe (zb (hdOk v)) M) := by
  refine q_intro (own := 4) (L := [some (.int (zI v)), none]) md_X4_isHead rfl rfl rfl (Nat.le_of_ble_eq_true rfl) (fun X => ?_)
  refine q_iconst dX4_isHead_0 ?_
  refine q_istore_n dX4_isHead_1 (Nat.le_of_ble_eq_true rfl) rfl ?_
  refine q_lp (fun i : Nat => 5 - i) (fun i => i ≤ 4 ∧ ∀ q : Nat, q < i → hcode v q = 3 → lastT v q ≠ -1) (fun i => [some (.int (zI v)), some (.int (zI (i : Int)))]) (fun _ => M) 0 rfl rfl ⟨by omega, fun q hq => by omega⟩ (fun i hi ih => ?_)
  obtain ⟨hi1, hi2⟩ := hi
  have hc := hcode_in v i
  have hl := lastT_in v i
  refine q_iload_n dX4_isHead_2 rfl ?_
  refine q_iconst dX4_isHead_3 ?_
  refine q_icmp_ge (tgt := 33) dX4_isHead_4 rfl (by (first | (unfold zR; omega) | (unfold zLR; omega) | omega | (simp only [zR, qup] at *; omega) | (simp [zR, qup]; omega) | (simp [zR, qup]; done))) (by (first | (unfold zR; omega) | (unfold zLR; omega) | omega | (simp only [zR, qup] at *; omega) | (simp [zR, qup]; omega) | (simp [zR, qup]; done))) (fun h4 => ?_) (fun h4 => ?_)
  rotate_left
  ·
    refine q_iload_n dX4_isHead_7 rfl ?_
    refine q_iload_n dX4_isHead_8 rfl ?_
    refine q_N2 dX4_isHead_9 (by decide +kernel) md_X7_codeIn (c_codeIn (by omega) (by omega)) rfl (by first | decide | omega) (Nat.le_of_ble_eq_true rfl) (Nat.le_of_ble_eq_true rfl) (qk_e ?_)
    refine q_iconst dX4_isHead_12 ?_
    refine q_icmp_ne (tgt := 27) dX4_isHead_13 rfl (by (first | (unfold zR; omega) | (unfold zLR; omega) | omega | (simp only [zR, qup] at *; omega) | (simp [zR, qup]; omega) | (simp [zR, qup]; done))) (by (first | (unfold zR; omega) | (unfold zLR; omega) | omega | (simp only [zR, qup] at *; omega) | (simp [zR, qup]; omega) | (simp [zR, qup]; done))) (fun h13 => ?_) (fun h13 => ?_)
    ·
      refine q_iinc dX4_isHead_27 rfl (Nat.le_of_ble_eq_true rfl) rfl ?_
      refine q_goto (tgt := 2) dX4_isHead_30 rfl ?_
      exact ih (i + 1) _ _ ⟨by omega, fun q hq a => by
        by_cases e : q = i
        · subst e; exact absurd a h13
        · exact hi2 q (by omega) a⟩ (by omega) rfl rfl
    ·
      refine q_iload_n dX4_isHead_16 rfl ?_
      refine q_iload_n dX4_isHead_17 rfl ?_
      refine q_S2 dX4_isHead_18 ml_4_73 md_X4_lastTree (c_lastTree hv (by omega)) rfl (by first | decide | omega) (Nat.le_of_ble_eq_true rfl) (Nat.le_of_ble_eq_true rfl) (qk_e ?_)
      refine q_iconst dX4_isHead_21 ?_
      refine q_icmp_ne (tgt := 27) dX4_isHead_22 rfl (by (first | (unfold zR; omega) | (unfold zLR; omega) | omega | (simp only [zR, qup] at *; omega) | (simp [zR, qup]; omega) | (simp [zR, qup]; done))) (by (first | (unfold zR; omega) | (unfold zLR; omega) | omega | (simp only [zR, qup] at *; omega) | (simp [zR, qup]; omega) | (simp [zR, qup]; done))) (fun h22 => ?_) (fun h22 => ?_)
      ·
        refine q_iinc dX4_isHead_27 rfl (Nat.le_of_ble_eq_true rfl) rfl ?_
        refine q_goto (tgt := 2) dX4_isHead_30 rfl ?_
        exact ih (i + 1) _ _ ⟨by omega, fun q hq a => by
          by_cases e : q = i
          · subst e; exact h22
          · exact hi2 q (by omega) a⟩ (by omega) rfl rfl
      ·
        refine q_iconst dX4_isHead_25 ?_
        refine q_zreturn (by first | exact Or.inl rfl | exact Or.inr rfl) dX4_isHead_26 ?_
        exact ⟨by rw [zb_f (fun w => w i (by omega) h13 h22)], rfl⟩
  refine q_iconst dX4_isHead_33 ?_
  refine q_zreturn (by first | exact Or.inl rfl | exact Or.inr rfl) dX4_isHead_34 ?_
  exact ⟨by rw [zb_t (show hdOk v from fun q hq => hi2 q (by omega))], rfl⟩
end RQ
theorem zpop_x {a b : Int} (ha : 0 ≤ a ∧ a < 256) (hb : 0 ≤ b ∧ b < 256) : zpop (zxor a b) = 0 ↔ a = b := by
  have h01 : ∀ j, 0 ≤ j → j < 8 → (fun j => zbit a j + zbit b j - 2 * (zbit a j * zbit b j)) j = 0 ∨ (fun j => zbit a j + zbit b j - 2 * (zbit a j * zbit b j)) j = 1 := fun j _ _ => by
    show zbit a j + zbit b j - 2 * (zbit a j * zbit b j) = 0 ∨ zbit a j + zbit b j - 2 * (zbit a j * zbit b j) = 1
    rcases zbit_01 a j with h | h <;> rcases zbit_01 b j with g | g <;> rw [h, g] <;> omega
  constructor
  · intro h
    rw [zxor_byte ha hb, zpop_ofBits h01] at h
    have nn : ∀ j, 0 ≤ zbit a j + zbit b j - 2 * (zbit a j * zbit b j) := fun j => by rcases zbit_01 a j with h | h <;> rcases zbit_01 b j with g | g <;> rw [h, g] <;> omega
    have eq : ∀ j, zbit a j + zbit b j - 2 * (zbit a j * zbit b j) = 0 → zbit a j = zbit b j := fun j q => by
      rcases zbit_01 a j with h | h <;> rcases zbit_01 b j with g | g <;> rw [h, g] at q ⊢ <;> omega
    have n0 := nn 0
    have n1 := nn 1
    have n2 := nn 2
    have n3 := nn 3
    have n4 := nn 4
    have n5 := nn 5
    have n6 := nn 6
    have n7 := nn 7
    refine byte_ext ha hb (fun j j0 j1 => eq j ?_)
    refine j8 (p := fun j => zbit a j + zbit b j - 2 * (zbit a j * zbit b j) = 0) j0 j1 ?_ ?_ ?_ ?_ ?_ ?_ ?_ ?_ <;> omega
  · intro h
    subst h
    obtain ⟨n, rfl⟩ := z_nat ha.1
    have key : ∀ a : Fin 256, zpop (zxor (a.val : Int) (a.val : Int)) = 0 := by decide +kernel
    exact key ⟨n, by omega⟩
theorem zsum_00 {f : Int → Int} {a : Int} : ∀ {n : Nat}, (∀ i, a ≤ i → i < a + n → 0 ≤ f i) → (zsum f a n = 0 ↔ ∀ i, a ≤ i → i < a + n → f i = 0) := by
  intro n
  induction n with
  | zero => intro _; exact ⟨fun _ i h1 h2 => by omega, fun _ => rfl⟩
  | succ n ih =>
    intro h
    have h1 := ih (fun i a b => h i a (by omega))
    have h2 := h (a + n) (by omega) (by omega)
    have h3 : 0 ≤ zsum f a n := by
      clear ih h1 h2
      induction n with
      | zero => simp [zsum]
      | succ n ih2 => rw [zsum]; have := ih2 (fun i a b => h i a (by omega)); have := h (a + n) (by omega) (by omega); omega
    rw [zsum]
    constructor
    · intro e i a1 a2
      by_cases o : i = a + n
      · rw [o]; omega
      · exact h1.mp (by omega) i a1 (by omega)
    · intro e
      rw [h1.mpr (fun i a1 a2 => e i a1 (by omega)), e (a + n) (by omega) (by omega)]
      omega


/-! QuarterMaps$Tree: the size if one bit was the other one. -/
def blkE (c c' : Int → Int) (l x : Int) : Prop := ∀ k, 0 ≤ k → k < p4 l → c (p4 l * x + k) = c' (p4 l * x + k)
theorem blkE_kid {c c' : Int → Int} {l x : Int} (h : 0 ≤ l ∧ l < 4) (e : blkE c c' (l + 1) x) {q : Int} (hq : 0 ≤ q ∧ q < 4) : blkE c c' l (4 * x + q) := by
  intro k k0 k1
  rw [← p4_quart h]
  exact e _ (p4_qin h hq ⟨k0, k1⟩).1 (p4_qin h hq ⟨k0, k1⟩).2
theorem allv_c {c c' : Int → Int} {l x v : Int} (e : blkE c c' l x) : allv c l x v ↔ allv c' l x v := ⟨fun h k k0 k1 => (e k k0 k1).symm.trans (h k k0 k1), fun h k k0 k1 => (e k k0 k1).trans (h k k0 k1)⟩
theorem same_c {c c' : Int → Int} {l x y : Int} (e : blkE c c' l x) (e' : blkE c c' l y) : same c l x y ↔ same c' l x y := ⟨fun h k k0 k1 => ((e k k0 k1).symm.trans (h k k0 k1)).trans (e' k k0 k1), fun h k k0 k1 => ((e k k0 k1).trans (h k k0 k1)).trans (e' k k0 k1).symm⟩
theorem cif_c {p q : Prop} {a b : Int} (h : p ↔ q) : cif p a b = cif q a b := by rw [propext h]
theorem qlast_c {c c' : Int → Int} {l x : Int} (h : 0 ≤ l ∧ l < 4) (hx : 0 ≤ x) (e : blkE c c' (l + 1) x) : ∀ i : Nat, i ≤ 4 → qlast c l x i = qlast c' l x i ∧ ∀ j : Nat, j < i → qcode c l x j = qcode c' l x j := by
  intro i
  induction i with
  | zero => intro _; exact ⟨rfl, fun j hj => by omega⟩
  | succ i ih =>
    intro hi
    obtain ⟨a1, a2⟩ := ih (by omega)
    have ek := blkE_kid h e (q := (i : Int)) (by omega)
    have e1 : qcode c l x i = qcode c' l x i := by
      unfold qcode tc
      rw [← a1, cif_c (allv_c ek), cif_c (allv_c ek (v := 255))]
      congr 2
      refine cif_c ⟨fun w => ⟨w.1, ?_⟩, fun w => ⟨w.1, ?_⟩⟩
      · have hq := qlast_in c l x i
        have el := blkE_kid h e (q := qlast c l x i - 4 * x) (by omega)
        rw [show 4 * x + (qlast c l x i - 4 * x) = qlast c l x i by omega] at el
        exact (same_c el ek).mp w.2
      · have hq := qlast_in c l x i
        have el := blkE_kid h e (q := qlast c l x i - 4 * x) (by omega)
        rw [show 4 * x + (qlast c l x i - 4 * x) = qlast c l x i by omega] at el
        exact (same_c el ek).mpr w.2
    refine ⟨by rw [qlast_s, qlast_s, e1, a1], fun j hj => ?_⟩
    by_cases o : j = i
    · rw [o]; exact e1
    · exact a2 j (by omega)
theorem tsz_c {c c' : Int → Int} : ∀ (l : Nat), l ≤ 4 → ∀ x, 0 ≤ x → blkE c c' l x → tsz c l x = tsz c' l x := by
  intro l
  induction l with
  | zero => intro _ x _ _; rfl
  | succ l ih =>
    intro hl x hx e
    rw [show ((l + 1 : Nat) : Int) = (l : Int) + 1 by omega] at e
    have hc := (qlast_c (by omega) hx e 4 (by omega)).2
    have : ∀ i : Nat, i ≤ 4 → tsum c (tsz c l) l x i = tsum c' (tsz c' l) l x i := by
      intro i
      induction i with
      | zero => intro _; rfl
      | succ i ih2 =>
        intro hi
        rw [tsum, tsum, ih2 (by omega), hc i (by omega), ih (by omega) (4 * x + i) (by omega) (blkE_kid (by omega) e (by omega))]
    rw [tsz, tsz, this 4 (by omega)]
theorem p4_mul {a b : Int} (ha : 0 ≤ a ∧ a ≤ 4) (hb : 0 ≤ b ∧ a + b ≤ 4) : p4 (a + b) = p4 a * p4 b := by
  rcases p4_cases ha with h | h | h | h | h <;> subst h <;> rcases p4_cases (show 0 ≤ b ∧ b ≤ 4 by omega) with g | g | g | g | g <;> subst g <;> first | decide | omega
theorem blk_ix {l x k : Int} (h : 0 ≤ k ∧ k < p4 l) : (p4 l * x + k) / p4 l = x := by
  have hp := (p4_in l).1
  rw [Int.add_comm, Int.add_mul_ediv_left _ _ (by omega), Int.ediv_eq_zero_of_lt h.1 h.2, Int.zero_add]
theorem fl_blk {c : Int → Int} {cell v l x : Int} (h : x ≠ cell / p4 l) : blkE c (fup c cell v) l x := by
  intro k k0 k1
  rw [fup_n]
  intro e
  exact h (by rw [← e, blk_ix ⟨k0, k1⟩])
theorem cell_in {L l : Nat} {cell : Int} (hL : L ≤ 4) (hl : l ≤ L) (hc : 0 ≤ cell ∧ cell < p4 L) : 0 ≤ cell / p4 l ∧ cell / p4 l < p4 ((L : Int) - l) := by
  have hp := (p4_in (l : Int)).1
  have e := p4_mul (a := (l : Int)) (b := (L : Int) - l) (by omega) (by omega)
  rw [show (l : Int) + ((L : Int) - l) = L by omega] at e
  refine ⟨Int.ediv_nonneg hc.1 (by omega), Int.ediv_lt_of_lt_mul (by omega) ?_⟩
  rw [Int.mul_comm, ← e]
  exact hc.2
theorem cell_up {l : Nat} {cell : Int} (hl : l < 4) : cell / p4 l / 4 = cell / p4 ((l : Int) + 1) := by
  have hp := (p4_in (l : Int)).1
  rw [p4_s (by omega), Int.ediv_ediv_of_nonneg (by omega), Int.mul_comm]
/-- the kind of the block bl of the level l, if the cells were c' -/
def KP (c' : Int → Int) (L l : Nat) (bl kd : Int) (K : Int → Int) : Prop := (kd = -2 ∨ (0 ≤ kd ∧ kd < 256)) ∧ (kd = 0 ↔ allv c' l bl 0) ∧ (kd = 1 ↔ allv c' l bl 255) ∧ ∀ x, 0 ≤ x → x < p4 ((L : Int) - l) → x ≠ bl → (K (nd l x) = kd ↔ same c' l x bl)
def kF (K : Int → Int) (l : Nat) (bl kd : Int) : Nat → Int := fun q => if 4 * (bl / 4) + (q : Int) = bl then kd else K (nd l (4 * (bl / 4) + (q : Int)))
def sF (S : Int → Int) (l : Nat) (bl size : Int) : Nat → Int := fun q => if 4 * (bl / 4) + (q : Int) = bl then size else S (nd l (4 * (bl / 4) + (q : Int)))
section TF
variable {L l : Nat} {c : Int → Int} {M : qM} {K Y S C T N : Int → Int} {cell v bl kd size : Int}
theorem kF_facts (hL : 1 ≤ L ∧ L ≤ 4) (hl : l < L) (hcb : ∀ k, 0 ≤ k → k < p4 L → 0 ≤ c k ∧ c k < 256) (hT : Ti c L (L + 1) 0 K Y S C) (hcell : 0 ≤ cell ∧ cell < p4 L) (hbl : bl = cell / p4 l) (hK : KP (fup c cell v) L l bl kd K) :
    (∀ q : Nat, q < 4 → (kF K l bl kd q = 0 ↔ allv (fup c cell v) l (4 * (bl / 4) + q) 0)) ∧ (∀ q : Nat, q < 4 → (kF K l bl kd q = 1 ↔ allv (fup c cell v) l (4 * (bl / 4) + q) 255)) ∧ (∀ q q' : Nat, q < 4 → q' < 4 → (kF K l bl kd q = kF K l bl kd q' ↔ same (fup c cell v) l (4 * (bl / 4) + q) (4 * (bl / 4) + q'))) ∧ (∀ q : Nat, q < 4 → kF K l bl kd q ≠ -1) ∧ (0 ≤ kd → ∀ q : Nat, q < 4 → 0 ≤ kF K l bl kd q ∧ kF K l bl kd q < 256) := by
  obtain ⟨k1, k2, k3, k4⟩ := hK
  have hcin := cell_in (l := l) hL.2 (by omega) hcell
  have hB : 0 ≤ bl / 4 ∧ bl / 4 < p4 ((L : Int) - (l + 1)) := by
    have := p4_par (l := l) (x := bl) hL.2 hl (by rw [hbl]; exact hcin)
    rw [show ((l + 1 : Nat) : Int) = (l : Int) + 1 by omega] at this
    exact this
  have hkid := fun (q : Nat) (hq : q < 4) => p4_kid (l := l) (L := L) (x := bl / 4) hl hL.2 hB hq
  have hd : ∀ q : Nat, q < 4 → don L (L + 1) 0 l (4 * (bl / 4) + q) := fun q hq => ⟨(hkid q hq).1, by omega, (hkid q hq).2, Or.inl (by omega)⟩
  have hE : ∀ q : Nat, 4 * (bl / 4) + (q : Int) ≠ bl → blkE c (fup c cell v) l (4 * (bl / 4) + q) := fun q h => fl_blk (by rw [← hbl]; exact h)
  refine ⟨fun q hq => ?_, fun q hq => ?_, fun q q' hq hq' => ?_, fun q hq => ?_, fun h0 q hq => ?_⟩
  · unfold kF
    by_cases e : 4 * (bl / 4) + (q : Int) = bl
    · rw [if_pos e, e]; exact k2
    · rw [if_neg e, ← allv_c (hE q e)]; exact (hT l _ (hd q hq)).2.2.1
  · unfold kF
    by_cases e : 4 * (bl / 4) + (q : Int) = bl
    · rw [if_pos e, e]; exact k3
    · rw [if_neg e, ← allv_c (hE q e)]; exact (hT l _ (hd q hq)).2.2.2.1
  · unfold kF
    by_cases e : 4 * (bl / 4) + (q : Int) = bl
    · rw [if_pos e]
      by_cases e' : 4 * (bl / 4) + (q' : Int) = bl
      · rw [if_pos e', e, e']; exact ⟨fun _ => same_rf, fun _ => rfl⟩
      · rw [if_neg e', e]
        have := k4 _ (hkid q' hq').1 (hkid q' hq').2 e'
        exact ⟨fun w => same_sy (this.mp w.symm), fun w => (this.mpr (same_sy w)).symm⟩
    · rw [if_neg e]
      by_cases e' : 4 * (bl / 4) + (q' : Int) = bl
      · rw [if_pos e', e']; exact k4 _ (hkid q hq).1 (hkid q hq).2 e
      · rw [if_neg e', ← same_c (hE q e) (hE q' e')]; exact Ti_pair hL.2 hcb hT l _ _ (hd q hq) (hd q' hq')
  · unfold kF
    by_cases e : 4 * (bl / 4) + (q : Int) = bl
    · rw [if_pos e]; omega
    · rw [if_neg e]; have := (hT l _ (hd q hq)).1; omega
  · unfold kF
    by_cases e : 4 * (bl / 4) + (q : Int) = bl
    · rw [if_pos e]; omega
    · rw [if_neg e]; have := hT l _ (hd q hq); exact ⟨this.1, this.2.1⟩
theorem sF_size (hL : 1 ≤ L ∧ L ≤ 4) (hl : l < L) (hcb : ∀ k, 0 ≤ k → k < p4 L → 0 ≤ c k ∧ c k < 256) (hT : Ti c L (L + 1) 0 K Y S C) (hcell : 0 ≤ cell ∧ cell < p4 L) (hbl : bl = cell / p4 l) (hK : KP (fup c cell v) L l bl kd K) (hs : size = tsz (fup c cell v) l bl) : sm (kF K l bl kd) (sF S l bl size) 4 = tsz (fup c cell v) (l + 1) (bl / 4) := by
  obtain ⟨f0, f1, fp, fn, -⟩ := kF_facts hL hl hcb hT hcell hbl hK
  have hcin := cell_in (l := l) hL.2 (by omega) hcell
  have hB : 0 ≤ bl / 4 ∧ bl / 4 < p4 ((L : Int) - (l + 1)) := by
    have := p4_par (l := l) (x := bl) hL.2 hl (by rw [hbl]; exact hcin)
    rw [show ((l + 1 : Nat) : Int) = (l : Int) + 1 by omega] at this
    exact this
  refine sm_tsz (gk_code hB.1 fn f0 f1 fp 4 (by omega)).2 (fun q hq => ?_)
  have hkid := p4_kid (l := l) (L := L) (x := bl / 4) hl hL.2 hB hq
  unfold sF
  by_cases e : 4 * (bl / 4) + (q : Int) = bl
  · rw [if_pos e, e]; exact hs
  · rw [if_neg e, (hT l _ ⟨hkid.1, by omega, hkid.2, Or.inl (by omega)⟩).2.2.2.2.1]
    exact tsz_c l (by omega) _ hkid.1 (fl_blk (by rw [← hbl]; exact e))
set_option maxHeartbeats 1000000 in
theorem KP_up {z : Int} (hL : 1 ≤ L ∧ L ≤ 4) (hl : l < L) (hcb : ∀ k, 0 ≤ k → k < p4 L → 0 ≤ c k ∧ c k < 256) (hT : Ti c L (L + 1) 0 K Y S C) (hcell : 0 ≤ cell ∧ cell < p4 L) (hbl : bl = cell / p4 l) (hK : KP (fup c cell v) L l bl kd K)
    (hz : (kd = -2 ∧ z = -2) ∨ (0 ≤ kd ∧ kkP (fun g => Y (nd ((l : Int) + 1) g)) (p4 ((L : Int) - (l + 1))) (pkk (kF K l bl kd) 4) z)) : KP (fup c cell v) L (l + 1) (bl / 4) z K := by
  obtain ⟨f0, f1, fp, fn, fr⟩ := kF_facts hL hl hcb hT hcell hbl hK
  obtain ⟨k1, k2, k3, k4⟩ := hK
  have hcin := cell_in (l := l) hL.2 (by omega) hcell
  rw [← hbl] at hcin
  have el : ((l + 1 : Nat) : Int) = (l : Int) + 1 := by omega
  have hB : 0 ≤ bl / 4 ∧ bl / 4 < p4 ((L : Int) - (l + 1)) := by
    have := p4_par (l := l) (x := bl) hL.2 hl hcin
    rw [el] at this
    exact this
  have hkidB := fun (q : Nat) (hq : q < 4) => p4_kid (l := l) (L := L) (x := bl / 4) hl hL.2 hB hq
  have e0 : 4 * (bl / 4) + (((bl % 4).toNat : Nat) : Int) = bl := by omega
  have hp3 : p4 ((L : Int) - (l + 1)) ≤ p4 3 := p4_le (by omega)
  rw [show p4 3 = 64 by decide] at hp3
  unfold KP
  rw [el]
  rcases hz with ⟨hk, hz⟩ | ⟨hk, hz⟩
  · subst hk hz
    refine ⟨Or.inl rfl, ⟨fun h => by omega, fun h => ?_⟩, ⟨fun h => by omega, fun h => ?_⟩, fun x x0 x1 xn => ⟨fun h => ?_, fun h => ?_⟩⟩
    · have := (allv_s (l := (l : Int)) (by omega)).mp h (bl % 4) (by omega) (by omega)
      rw [show 4 * (bl / 4) + bl % 4 = bl by omega] at this
      have := k2.mpr this
      omega
    · have := (allv_s (l := (l : Int)) (by omega)).mp h (bl % 4) (by omega) (by omega)
      rw [show 4 * (bl / 4) + bl % 4 = bl by omega] at this
      have := k3.mpr this
      omega
    · have := (hT (l + 1) x ⟨x0, by omega, by rw [el]; exact x1, Or.inl (by omega)⟩).1
      rw [el] at this
      omega
    · have hs := (same_s (l := (l : Int)) (by omega)).mp h (bl % 4) (by omega) (by omega)
      rw [show 4 * (bl / 4) + bl % 4 = bl by omega] at hs
      have hkx := p4_kid (l := l) (L := L) (x := x) hl hL.2 ⟨x0, x1⟩ (show (bl % 4).toNat < 4 by omega)
      rw [show (((bl % 4).toNat : Nat) : Int) = bl % 4 by omega] at hkx
      have h2 := (k4 _ hkx.1 hkx.2 (by omega)).mpr hs
      have := (hT l _ ⟨hkx.1, by omega, hkx.2, Or.inl (by omega)⟩).1
      omega
  · have hf := fr hk
    have h00 := (pkk_0 hf).trans (par_all (c := fup c cell v) (l := l) (x := bl / 4) (v := 0) (by omega) f0)
    have h11 := (pkk_1 hf).trans (par_all (c := fup c cell v) (l := l) (x := bl / 4) (v := 255) (by omega) f1)
    refine ⟨?_, ?_, ?_, fun x x0 x1 xn => ?_⟩
    · rcases hz with h | h | ⟨-, -, ⟨f, h⟩ | h⟩ <;> omega
    · rw [← h00]
      rcases hz with h | h | ⟨n0, n1, ⟨f, h⟩ | h⟩ <;> omega
    · rw [← h11]
      rcases hz with h | h | ⟨n0, n1, ⟨f, h⟩ | h⟩ <;> omega
    · have t := hT (l + 1) x ⟨x0, by omega, by rw [el]; exact x1, Or.inl (by omega)⟩
      obtain ⟨u1, u2, -⟩ := t.2.2.2.2.2.2 l rfl
      have tn := t.1
      rw [el] at u1 u2 tn
      have hkx := fun (q : Nat) (hq : q < 4) => p4_kid (l := l) (L := L) (x := x) hl hL.2 ⟨x0, x1⟩ hq
      have hdx : ∀ q : Nat, q < 4 → don L (L + 1) 0 l (4 * x + q) := fun q hq => ⟨(hkx q hq).1, by omega, (hkx q hq).2, Or.inl (by omega)⟩
      have hdB : ∀ q : Nat, q < 4 → don L (L + 1) 0 l (4 * (bl / 4) + q) := fun q hq => ⟨(hkidB q hq).1, by omega, (hkidB q hq).2, Or.inl (by omega)⟩
      have hfx : ∀ q : Nat, q < 4 → 0 ≤ kf K l x q ∧ kf K l x q < 256 := fun q hq => ⟨(hT l _ (hdx q hq)).1, (hT l _ (hdx q hq)).2.1⟩
      have hkey : Y (nd ((l : Int) + 1) x) = pkk (kF K l bl kd) 4 ↔ same (fup c cell v) ((l : Int) + 1) x (bl / 4) := by
        rw [u1, pkk_inj hfx hf, same_s (by omega)]
        have one : ∀ q : Nat, q < 4 → (kf K l x q = kF K l bl kd q ↔ same (fup c cell v) l (4 * x + q) (4 * (bl / 4) + q)) := by
          intro q hq
          have ex : blkE c (fup c cell v) l (4 * x + q) := fl_blk (by rw [← hbl]; omega)
          unfold kF
          by_cases e : 4 * (bl / 4) + (q : Int) = bl
          · rw [if_pos e, e]; exact k4 _ (hkx q hq).1 (hkx q hq).2 (by omega)
          · rw [if_neg e, ← same_c ex (fl_blk (by rw [← hbl]; exact e))]; exact Ti_pair hL.2 hcb hT l _ _ (hdx q hq) (hdB q hq)
        constructor
        · intro a q q0 q1
          obtain ⟨n, rfl⟩ := z_nat q0
          exact (one n (by omega)).mp (a n (by omega))
        · intro a q hq
          exact (one q hq).mpr (a q (by omega) (by omega))
      rw [← hkey]
      constructor
      · intro h
        rcases hz with h1 | h1 | ⟨n0, n1, ⟨f, f0, f1, h1, h2, h3⟩ | h1⟩
        · rw [h1.1]; exact (kv_0 u2).mp (by rw [h, h1.2])
        · rw [h1.1]; exact (kv_1 u2).mp (by rw [h, h1.2])
        · rcases u2 with g | g | ⟨-, -, f', f0', f1', g1, g2, g3⟩
          · omega
          · omega
          · have : f' = f := by omega
            subst this
            rw [← g2, ← h2]
        · omega
      · intro h
        exact (kv_eq u2 (kkP_kv hz ⟨x0, x1⟩ h)).mpr h
set_option maxHeartbeats 4000000 in
theorem c_sizeWith (hL : 1 ≤ L ∧ L ≤ 4) (hl : l < L) (hcb : ∀ k, 0 ≤ k → k < p4 L → 0 ≤ c k ∧ c k < 256) (hT : Tm c L K Y S C T N) (hcell : 0 ≤ cell ∧ cell < p4 L) (hbl : bl = cell / p4 l) (hK : KP (fup c cell v) L l bl kd K) (hs : size = tsz (fup c cell v) l bl) :
    qCt mX6_sizeWith 0 1 [.ref 5, .int (zI ((l : Int) + 1)), .int (zI bl), .int (zI kd), .int (zI size)] (tw M K Y S C T N) (qpe (tsz (fup c cell v) (l + 1) (bl / 4)) (tw M K Y S C T N)) := by
  have hsz := sF_size hL hl hcb hT.1 hcell hbl hK hs
  obtain ⟨f0, f1, fp, fn, fr⟩ := kF_facts hL hl hcb hT.1 hcell hbl hK
  have hcin := cell_in (l := l) hL.2 (by omega) hcell
  rw [← hbl] at hcin
  have hpl := p4_in ((L : Int) - l)
  have hB : 0 ≤ bl / 4 ∧ bl / 4 < p4 ((L : Int) - (l + 1)) := by
    have := p4_par (l := l) (x := bl) hL.2 hl hcin
    rw [show ((l + 1 : Nat) : Int) = (l : Int) + 1 by omega] at this
    exact this
  have hkidB := fun (q : Nat) (hq : q < 4) => p4_kid (l := l) (L := L) (x := bl / 4) hl hL.2 hB hq
  have hKr : ∀ q : Nat, q < 4 → -2 ≤ kF K l bl kd q ∧ kF K l bl kd q < 256 := fun q hq => by
    unfold kF
    by_cases e : 4 * (bl / 4) + (q : Int) = bl
    · rw [if_pos e]; have := hK.1; omega
    · rw [if_neg e]; have := hT.1 l _ ⟨(hkidB q hq).1, by omega, (hkidB q hq).2, Or.inl (by omega)⟩; exact ⟨by have := this.1; omega, this.2.1⟩
  have hlk : ∀ i : Nat, i ≤ 4 → -2 ≤ lk (kF K l bl kd) i ∧ lk (kF K l bl kd) i < 256 := by
    intro i
    induction i with
    | zero => intro _; simp [lk]
    | succ i ih =>
      intro hi
      rw [lk]
      have := hKr i (by omega)
      by_cases g : ckind (kF K l bl kd i) (lk (kF K l bl kd) i) = 2
      · rw [if_pos g]; omega
      · rw [if_neg g]; exact ih (by omega)
  have hckr : ∀ k last : Int, -2 ≤ k → k < 256 → zR (ckind k last) := by
    intro k last h1 h2
    unfold ckind zR
    by_cases g0 : k = 0 ∨ k = 1
    · rw [if_pos g0]; omega
    · rw [if_neg g0]
      by_cases g1 : k = last
      · rw [if_pos g1]; omega
      · rw [if_neg g1]; omega
  refine q_intro (own := 6) (L := [some (.ref 5), some (.int (zI ((l : Int) + 1))), some (.int (zI bl)), some (.int (zI kd)), some (.int (zI size)), none, none, none, none, none]) md_X6_sizeWith rfl rfl rfl (Nat.le_of_ble_eq_true rfl) (fun X => ?_)
  refine q_iconst dX6_sizeWith_0 ?_
  refine q_istore dX6_sizeWith_1 (Nat.le_of_ble_eq_true rfl) rfl ?_
  refine q_iconst dX6_sizeWith_3 ?_
  refine q_istore dX6_sizeWith_4 (Nat.le_of_ble_eq_true rfl) rfl ?_
  refine q_iload_n dX6_sizeWith_6 rfl ?_
  refine q_bipush dX6_sizeWith_7 rfl ?_
  refine q_iand dX6_sizeWith_9 ?_
  rw [zand_m4 (by omega)]
  refine q_istore dX6_sizeWith_10 (Nat.le_of_ble_eq_true rfl) rfl ?_
  refine q_lp (fun i : Nat => 5 - i) (fun i => i ≤ 4) (fun i => [some (.ref 5), some (.int (zI ((l : Int) + 1))), some (.int (zI bl)), some (.int (zI kd)), some (.int (zI size)), some (.int (zI (lk (kF K l bl kd) i))), some (.int (zI (sm (kF K l bl kd) (sF S l bl size) i))), some (.int (zI (4 * (bl / 4) + (i : Int)))), none, none]) (fun _ => tw M K Y S C T N) 0 (by rw [show 4 * (bl / 4) + ((0 : Nat) : Int) = 4 * (bl / 4) by omega]; rfl) rfl (by omega) (fun i hi ih => ?_)
  have hst : sm (kF K l bl kd) (sF S l bl size) (i + 1) = sm (kF K l bl kd) (sF S l bl size) i + if gk (kF K l bl kd) i = 2 then sF S l bl size i else 0 := rfl
  refine q_iload dX6_sizeWith_12 rfl ?_
  refine q_iload_n dX6_sizeWith_14 rfl ?_
  refine q_iconst dX6_sizeWith_15 ?_
  refine q_ior dX6_sizeWith_16 ?_
  rw [zor_3 (by omega)]
  refine q_icmp_gt (tgt := 97) dX6_sizeWith_17 rfl (by (first | (unfold zR; omega) | (unfold zLR; omega) | omega | (simp only [zR, qup] at *; omega) | (simp [zR, qup]; omega) | (simp [zR, qup]; done))) (by (first | (unfold zR; omega) | (unfold zLR; omega) | omega | (simp only [zR, qup] at *; omega) | (simp [zR, qup]; omega) | (simp [zR, qup]; done))) (fun h17 => ?_) (fun h17 => ?_)
  rotate_left
  ·
    refine q_iload_n dX6_sizeWith_20 rfl ?_
    refine q_iconst dX6_sizeWith_21 ?_
    refine q_isub dX6_sizeWith_22 ?_
    rw [show (l : Int) + 1 - 1 = l by omega]
    have hk := hkidB i (by omega)
    have hki := hKr i (by omega)
    have hli := hlk i (by omega)
    refine q_iload dX6_sizeWith_23 rfl ?_
    refine q_S2 dX6_sizeWith_25 ml_6_72 md_X6_node (c_node (by omega)) rfl (by first | decide | omega) (Nat.le_of_ble_eq_true rfl) (Nat.le_of_ble_eq_true rfl) (qk_e ?_)
    refine q_istore dX6_sizeWith_28 (Nat.le_of_ble_eq_true rfl) rfl ?_
    refine q_iload dX6_sizeWith_30 rfl ?_
    refine q_iload_n dX6_sizeWith_32 rfl ?_
    refine q_icmp_ne (tgt := 40) dX6_sizeWith_33 rfl (by (first | (unfold zR; omega) | (unfold zLR; omega) | omega | (simp only [zR, qup] at *; omega) | (simp [zR, qup]; omega) | (simp [zR, qup]; done))) (by (first | (unfold zR; omega) | (unfold zLR; omega) | omega | (simp only [zR, qup] at *; omega) | (simp [zR, qup]; omega) | (simp [zR, qup]; done))) (fun h33 => ?_) (fun h33 => ?_)
    ·
      refine q_aload_n dX6_sizeWith_40 rfl ?_
      refine q_getr dX6_sizeWith_41 fl_6_14 rfl rfl ?_
      refine q_iload dX6_sizeWith_44 rfl ?_
      refine q_V1 dX6_sizeWith_46 ml_6_75 md_X5_get (c_rget (o := 6) (r := 12) (n := 341) rfl rfl (by omega) (nd_in2 hL.2 (by omega) hk)) rfl rfl rfl (by first | decide | omega) (Nat.le_of_ble_eq_true rfl) (Nat.le_of_ble_eq_true rfl) (qk_e ?_)
      rw [tw_12, show K (nd l (4 * (bl / 4) + (i : Int))) = kF K l bl kd i from (if_neg h33).symm]
      refine q_istore dX6_sizeWith_49 (Nat.le_of_ble_eq_true rfl) rfl ?_
      refine q_iload dX6_sizeWith_51 rfl ?_
      refine q_iload dX6_sizeWith_53 rfl ?_
      refine q_S2 dX6_sizeWith_55 ml_6_78 md_X6_codeOfKind (c_codeOfKind (by (first | (unfold zR; omega) | (unfold zLR; omega) | omega | (simp only [zR, qup] at *; omega) | (simp [zR, qup]; omega) | (simp [zR, qup]; done))) (by (first | (unfold zR; omega) | (unfold zLR; omega) | omega | (simp only [zR, qup] at *; omega) | (simp [zR, qup]; omega) | (simp [zR, qup]; done)))) rfl (by first | decide | omega) (Nat.le_of_ble_eq_true rfl) (Nat.le_of_ble_eq_true rfl) (qk_e ?_)
      refine q_iconst dX6_sizeWith_58 ?_
      refine q_icmp_ne (tgt := 91) dX6_sizeWith_59 rfl (by first | exact hckr _ _ hki.1 hki.2 | exact hckr _ _ hkd.1 hkd.2) (by (first | (unfold zR; omega) | (unfold zLR; omega) | omega | (simp only [zR, qup] at *; omega) | (simp [zR, qup]; omega) | (simp [zR, qup]; done))) (fun h59 => ?_) (fun h59 => ?_)
      ·
        refine q_iinc dX6_sizeWith_91 rfl (Nat.le_of_ble_eq_true rfl) rfl ?_
        refine q_goto (tgt := 12) dX6_sizeWith_94 rfl ?_
        have g : ¬ gk (kF K l bl kd) i = 2 := h59
        have e1 : lk (kF K l bl kd) (i + 1) = lk (kF K l bl kd) i := if_neg h59
        have e2 : sm (kF K l bl kd) (sF S l bl size) (i + 1) = sm (kF K l bl kd) (sF S l bl size) i := by rw [hst, if_neg g, Int.add_zero]
        refine q_wk _ ?_ (ih (i + 1) _ _ (by omega) (by omega) rfl rfl)
        rw [show 4 * (bl / 4) + (i : Int) + 1 = 4 * (bl / 4) + ((i + 1 : Nat) : Int) by omega]
        simp only [wkB, e1, e2]
        (repeat (first | exact rfl | exact trivial | refine ⟨rfl, ?_⟩))
      ·
        refine q_iload dX6_sizeWith_62 rfl ?_
        refine q_istore dX6_sizeWith_64 (Nat.le_of_ble_eq_true rfl) rfl ?_
        refine q_iload dX6_sizeWith_66 rfl ?_
        refine q_iload dX6_sizeWith_68 rfl ?_
        refine q_iload_n dX6_sizeWith_70 rfl ?_
        refine q_icmp_ne (tgt := 79) dX6_sizeWith_71 rfl (by (first | (unfold zR; omega) | (unfold zLR; omega) | omega | (simp only [zR, qup] at *; omega) | (simp [zR, qup]; omega) | (simp [zR, qup]; done))) (by (first | (unfold zR; omega) | (unfold zLR; omega) | omega | (simp only [zR, qup] at *; omega) | (simp [zR, qup]; omega) | (simp [zR, qup]; done))) (fun h71 => ?_) (fun h71 => ?_)
        ·
          refine q_aload_n dX6_sizeWith_79 rfl ?_
          refine q_getr dX6_sizeWith_80 fl_6_23 rfl rfl ?_
          refine q_iload dX6_sizeWith_83 rfl ?_
          refine q_V1 dX6_sizeWith_85 ml_6_75 md_X5_get (c_rget (o := 8) (r := 14) (n := 341) rfl rfl (by omega) (nd_in2 hL.2 (by omega) hk)) rfl rfl rfl (by first | decide | omega) (Nat.le_of_ble_eq_true rfl) (Nat.le_of_ble_eq_true rfl) (qk_e ?_)
          rw [tw_14]
          refine q_iadd dX6_sizeWith_88 ?_
          refine q_istore dX6_sizeWith_89 (Nat.le_of_ble_eq_true rfl) rfl ?_
          refine q_iinc dX6_sizeWith_91 rfl (Nat.le_of_ble_eq_true rfl) rfl ?_
          refine q_goto (tgt := 12) dX6_sizeWith_94 rfl ?_
          have g : gk (kF K l bl kd) i = 2 := h59
          have e1 : lk (kF K l bl kd) (i + 1) = kF K l bl kd i := if_pos h59
          have e2 : sm (kF K l bl kd) (sF S l bl size) (i + 1) = sm (kF K l bl kd) (sF S l bl size) i + S (nd l (4 * (bl / 4) + (i : Int))) := by rw [hst, if_pos g]; congr 1; exact if_neg h33
          refine q_wk _ ?_ (ih (i + 1) _ _ (by omega) (by omega) rfl rfl)
          rw [show 4 * (bl / 4) + (i : Int) + 1 = 4 * (bl / 4) + ((i + 1 : Nat) : Int) by omega]
          simp only [wkB, e1, e2]
          (repeat (first | exact rfl | exact trivial | refine ⟨rfl, ?_⟩))
        ·
          refine q_iload dX6_sizeWith_74 rfl ?_
          refine q_goto (tgt := 88) dX6_sizeWith_76 rfl ?_
          refine q_iadd dX6_sizeWith_88 ?_
          refine q_istore dX6_sizeWith_89 (Nat.le_of_ble_eq_true rfl) rfl ?_
          refine q_iinc dX6_sizeWith_91 rfl (Nat.le_of_ble_eq_true rfl) rfl ?_
          refine q_goto (tgt := 12) dX6_sizeWith_94 rfl ?_
          exact absurd h71 h33
    ·
      refine q_iload_n dX6_sizeWith_36 rfl ?_
      refine q_goto (tgt := 49) dX6_sizeWith_37 rfl ?_
      have eF : kF K l bl kd i = kd := if_pos h33
      have hkd : -2 ≤ kd ∧ kd < 256 := by rw [← eF]; exact hki
      refine q_istore dX6_sizeWith_49 (Nat.le_of_ble_eq_true rfl) rfl ?_
      refine q_iload dX6_sizeWith_51 rfl ?_
      refine q_iload dX6_sizeWith_53 rfl ?_
      refine q_S2 dX6_sizeWith_55 ml_6_78 md_X6_codeOfKind (c_codeOfKind (by (first | (unfold zR; omega) | (unfold zLR; omega) | omega | (simp only [zR, qup] at *; omega) | (simp [zR, qup]; omega) | (simp [zR, qup]; done))) (by (first | (unfold zR; omega) | (unfold zLR; omega) | omega | (simp only [zR, qup] at *; omega) | (simp [zR, qup]; omega) | (simp [zR, qup]; done)))) rfl (by first | decide | omega) (Nat.le_of_ble_eq_true rfl) (Nat.le_of_ble_eq_true rfl) (qk_e ?_)
      refine q_iconst dX6_sizeWith_58 ?_
      refine q_icmp_ne (tgt := 91) dX6_sizeWith_59 rfl (by first | exact hckr _ _ hki.1 hki.2 | exact hckr _ _ hkd.1 hkd.2) (by (first | (unfold zR; omega) | (unfold zLR; omega) | omega | (simp only [zR, qup] at *; omega) | (simp [zR, qup]; omega) | (simp [zR, qup]; done))) (fun h59 => ?_) (fun h59 => ?_)
      ·
        refine q_iinc dX6_sizeWith_91 rfl (Nat.le_of_ble_eq_true rfl) rfl ?_
        refine q_goto (tgt := 12) dX6_sizeWith_94 rfl ?_
        have g : ¬ gk (kF K l bl kd) i = 2 := by show ¬ ckind (kF K l bl kd i) _ = 2; rw [eF]; exact h59
        have e1 : lk (kF K l bl kd) (i + 1) = lk (kF K l bl kd) i := if_neg g
        have e2 : sm (kF K l bl kd) (sF S l bl size) (i + 1) = sm (kF K l bl kd) (sF S l bl size) i := by rw [hst, if_neg g, Int.add_zero]
        refine q_wk _ ?_ (ih (i + 1) _ _ (by omega) (by omega) rfl rfl)
        rw [show 4 * (bl / 4) + (i : Int) + 1 = 4 * (bl / 4) + ((i + 1 : Nat) : Int) by omega]
        simp only [wkB, e1, e2]
        (repeat (first | exact rfl | exact trivial | refine ⟨rfl, ?_⟩))
      ·
        refine q_iload dX6_sizeWith_62 rfl ?_
        refine q_istore dX6_sizeWith_64 (Nat.le_of_ble_eq_true rfl) rfl ?_
        refine q_iload dX6_sizeWith_66 rfl ?_
        refine q_iload dX6_sizeWith_68 rfl ?_
        refine q_iload_n dX6_sizeWith_70 rfl ?_
        refine q_icmp_ne (tgt := 79) dX6_sizeWith_71 rfl (by (first | (unfold zR; omega) | (unfold zLR; omega) | omega | (simp only [zR, qup] at *; omega) | (simp [zR, qup]; omega) | (simp [zR, qup]; done))) (by (first | (unfold zR; omega) | (unfold zLR; omega) | omega | (simp only [zR, qup] at *; omega) | (simp [zR, qup]; omega) | (simp [zR, qup]; done))) (fun h71 => ?_) (fun h71 => ?_)
        ·
          refine q_aload_n dX6_sizeWith_79 rfl ?_
          refine q_getr dX6_sizeWith_80 fl_6_23 rfl rfl ?_
          refine q_iload dX6_sizeWith_83 rfl ?_
          refine q_V1 dX6_sizeWith_85 ml_6_75 md_X5_get (c_rget (o := 8) (r := 14) (n := 341) rfl rfl (by omega) (nd_in2 hL.2 (by omega) hk)) rfl rfl rfl (by first | decide | omega) (Nat.le_of_ble_eq_true rfl) (Nat.le_of_ble_eq_true rfl) (qk_e ?_)
          rw [tw_14]
          refine q_iadd dX6_sizeWith_88 ?_
          refine q_istore dX6_sizeWith_89 (Nat.le_of_ble_eq_true rfl) rfl ?_
          refine q_iinc dX6_sizeWith_91 rfl (Nat.le_of_ble_eq_true rfl) rfl ?_
          refine q_goto (tgt := 12) dX6_sizeWith_94 rfl ?_
          exact absurd h33 h71
        ·
          refine q_iload dX6_sizeWith_74 rfl ?_
          refine q_goto (tgt := 88) dX6_sizeWith_76 rfl ?_
          refine q_iadd dX6_sizeWith_88 ?_
          refine q_istore dX6_sizeWith_89 (Nat.le_of_ble_eq_true rfl) rfl ?_
          refine q_iinc dX6_sizeWith_91 rfl (Nat.le_of_ble_eq_true rfl) rfl ?_
          refine q_goto (tgt := 12) dX6_sizeWith_94 rfl ?_
          have g : gk (kF K l bl kd) i = 2 := by show ckind (kF K l bl kd i) _ = 2; rw [eF]; exact h59
          have e1 : lk (kF K l bl kd) (i + 1) = kd := (if_pos g).trans eF
          have e2 : sm (kF K l bl kd) (sF S l bl size) (i + 1) = sm (kF K l bl kd) (sF S l bl size) i + size := by rw [hst, if_pos g]; congr 1; exact if_pos h33
          refine q_wk _ ?_ (ih (i + 1) _ _ (by omega) (by omega) rfl rfl)
          rw [show 4 * (bl / 4) + (i : Int) + 1 = 4 * (bl / 4) + ((i + 1 : Nat) : Int) by omega]
          simp only [wkB, e1, e2]
          (repeat (first | exact rfl | exact trivial | refine ⟨rfl, ?_⟩))
  have hi4 : i = 4 := by omega
  subst hi4
  refine q_iload dX6_sizeWith_97 rfl ?_
  refine q_ireturn dX6_sizeWith_99 ?_
  exact ⟨by rw [hsz], rfl⟩
set_option maxHeartbeats 2000000 in
theorem c_kindWith (hL : 1 ≤ L ∧ L ≤ 4) (hl : l < L) (h8 : M 5 8 = (L : Int)) (hcb : ∀ k, 0 ≤ k → k < p4 L → 0 ≤ c k ∧ c k < 256) (hT : Tm c L K Y S C T N) (hcell : 0 ≤ cell ∧ cell < p4 L) (hbl : bl = cell / p4 l) (hK : KP (fup c cell v) L l bl kd K) :
    qCt mX6_kindWith 0 2 [.ref 5, .int (zI ((l : Int) + 1)), .int (zI bl), .int (zI kd)] (tw M K Y S C T N) (qpg (fun z M' => M' = tw M K Y S C T N ∧ KP (fup c cell v) L (l + 1) (bl / 4) z K)) := by
  obtain ⟨f0, f1, fp, fn, fr⟩ := kF_facts hL hl hcb hT.1 hcell hbl hK
  have hcin := cell_in (l := l) hL.2 (by omega) hcell
  rw [← hbl] at hcin
  have hpl := p4_in ((L : Int) - l)
  have el : ((l + 1 : Nat) : Int) = (l : Int) + 1 := by omega
  have hB := p4_par (l := l) (x := bl) hL.2 hl hcin
  have hkd : -2 ≤ kd ∧ kd < 256 := by have := hK.1; omega
  have hY := (hT.1 (l + 1) (bl / 4) ⟨hB.1, by omega, hB.2, Or.inl (by omega)⟩).2.2.2.2.2.2 l rfl
  have hn := nd_in2 (l := l + 1) hL.2 (by omega) hB
  rw [el] at hY hn
  refine q_intro (own := 6) (L := [some (.ref 5), some (.int (zI ((l : Int) + 1))), some (.int (zI bl)), some (.int (zI kd)), none]) md_X6_kindWith rfl rfl rfl (Nat.le_of_ble_eq_true rfl) (fun X => ?_)
  refine q_iload_n dX6_kindWith_0 rfl ?_
  refine q_bipush dX6_kindWith_1 rfl ?_
  refine q_icmp_ne (tgt := 9) dX6_kindWith_3 rfl (by (first | (unfold zR; omega) | (unfold zLR; omega) | omega | (simp only [zR, qup] at *; omega) | (simp [zR, qup]; omega) | (simp [zR, qup]; done))) (by (first | (unfold zR; omega) | (unfold zLR; omega) | omega | (simp only [zR, qup] at *; omega) | (simp [zR, qup]; omega) | (simp [zR, qup]; done))) (fun h3 => ?_) (fun h3 => ?_)
  rotate_left
  ·
    refine q_bipush dX6_kindWith_6 rfl ?_
    refine q_ireturn dX6_kindWith_8 ?_
    exact ⟨_, rfl, rfl, KP_up hL hl hcb hT.1 hcell hbl hK (Or.inl ⟨h3, rfl⟩)⟩
  refine q_bipush dX6_kindWith_9 rfl ?_
  refine q_iload_n dX6_kindWith_11 rfl ?_
  refine q_iconst dX6_kindWith_12 ?_
  refine q_iand dX6_kindWith_13 ?_
  rw [zand_3 (by omega) (by omega)]
  have hk0 : 0 ≤ kd := by have := hK.1; omega
  have hf := fr hk0
  refine q_imul dX6_kindWith_14 ?_
  refine q_istore dX6_kindWith_15 (Nat.le_of_ble_eq_true rfl) rfl ?_
  refine q_aload_n dX6_kindWith_17 rfl ?_
  refine q_iload_n dX6_kindWith_18 rfl ?_
  refine q_aload_n dX6_kindWith_19 rfl ?_
  refine q_getr dX6_kindWith_20 fl_6_20 rfl rfl ?_
  refine q_iload_n dX6_kindWith_23 rfl ?_
  refine q_iload_n dX6_kindWith_24 rfl ?_
  refine q_iconst dX6_kindWith_25 ?_
  refine q_ishr dX6_kindWith_26 ?_
  rw [zshr_2 (by omega) (by omega)]
  refine q_S2 dX6_kindWith_27 ml_6_72 md_X6_node (c_node (by omega)) rfl (by first | decide | omega) (Nat.le_of_ble_eq_true rfl) (Nat.le_of_ble_eq_true rfl) (qk_e ?_)
  refine q_V1 dX6_kindWith_30 ml_6_75 md_X5_get (c_rget (o := 7) (r := 13) (n := 341) rfl rfl (by omega) hn) rfl rfl rfl (by first | decide | omega) (Nat.le_of_ble_eq_true rfl) (Nat.le_of_ble_eq_true rfl) (qk_e ?_)
  rw [tw_13, hY.1]
  refine q_sipush dX6_kindWith_33 rfl ?_
  refine q_iload dX6_kindWith_36 rfl ?_
  refine q_ishl dX6_kindWith_38 ?_
  refine q_iconst dX6_kindWith_39 ?_
  refine q_ixor dX6_kindWith_40 ?_
  refine q_iand dX6_kindWith_41 ?_
  refine q_iload_n dX6_kindWith_42 rfl ?_
  refine q_iload dX6_kindWith_43 rfl ?_
  refine q_ishl dX6_kindWith_45 ?_
  refine q_ior dX6_kindWith_46 ?_
  have hg : ∀ q, q < 4 → 0 ≤ kf K l (bl / 4) q ∧ kf K l (bl / 4) q < 256 := fun q hq => by
    have hk := p4_kid (l := l) (L := L) (x := bl / 4) hl hL.2 (by rw [← el]; exact hB) hq
    have := hT.1 l _ ⟨hk.1, by omega, hk.2, Or.inl (by omega)⟩
    exact ⟨this.1, this.2.1⟩
  have ep := pkk_put (f := kf K l (bl / 4)) (v := kd) (m := (bl % 4).toNat) hg (by omega) (by omega)
  rw [show (((bl % 4).toNat : Nat) : Int) = bl % 4 by omega] at ep
  have ef : pkk (fun q => if q = (bl % 4).toNat then kd else kf K l (bl / 4) q) 4 = pkk (kF K l bl kd) 4 := by
    have e1 : ∀ q : Nat, q < 4 → (if q = (bl % 4).toNat then kd else kf K l (bl / 4) q) = kF K l bl kd q := fun q hq => by
      unfold kF
      by_cases e : q = (bl % 4).toNat
      · rw [if_pos e, if_pos (by omega)]
      · rw [if_neg e, if_neg (by omega)]; rfl
    simp only [pkk]
    rw [e1 0 (by omega), e1 1 (by omega), e1 2 (by omega), e1 3 (by omega)]
  rw [ep, ef]
  refine q_V2 dX6_kindWith_47 ml_6_81 md_X6_kindOfKey (c_kindOfKey (l := l + 1) (L := L) (by omega) h8 (pkk_R _ 4) hT.2.2.2) rfl rfl rfl (by first | decide | omega) (Nat.le_of_ble_eq_true rfl) (Nat.le_of_ble_eq_true rfl) (qk_g (fun z47 N47 hq47 => ?_))
  refine q_ireturn dX6_kindWith_50 ?_
  obtain ⟨rfl, hz⟩ := hq47
  rw [el] at hz
  exact ⟨_, rfl, rfl, KP_up hL hl hcb hT.1 hcell hbl hK (Or.inr ⟨hk0, hz⟩)⟩
theorem KP_0 (hL : 1 ≤ L ∧ L ≤ 4) (hcb : ∀ k, 0 ≤ k → k < p4 L → 0 ≤ c k ∧ c k < 256) (hT : Ti c L (L + 1) 0 K Y S C) (hcell : 0 ≤ cell ∧ cell < p4 L) (hv : 0 ≤ v ∧ v < 256) : KP (fup c cell v) L 0 cell (kcell v) K := by
  have hk := kcell_in hv
  unfold KP
  rw [show ((0 : Nat) : Int) = 0 from rfl]
  refine ⟨Or.inr hk, ?_, ?_, fun x x0 x1 xn => ?_⟩
  · rw [kcell_0 hv, allv_0, fup_s]
  · rw [kcell_1 hv, allv_0, fup_s]
  · rw [show (L : Int) - 0 = L by omega] at x1
    have t := (hT 0 x ⟨x0, by omega, by rw [show (L : Int) - ((0 : Nat) : Int) = L by omega]; exact x1, Or.inl (by omega)⟩).2.2.2.2.2.1 rfl
    rw [show ((0 : Nat) : Int) = 0 from rfl] at t
    rw [t, kcell_e (hcb x x0 x1) hv, same_0, fup_s, fup_n _ xn]
/-- one bit of a cell the other one -/
def flipb (v j : Int) : Int := ofBits (fun i => if i = j then 1 - zbit v i else zbit v i)
theorem flipb_in (v j : Int) : 0 ≤ flipb v j ∧ flipb v j < 256 := ofBits_in (fun i _ _ => ite_in (by have := zbit_01 v i; omega) (zbit_01 v i))
theorem flipb_x {v j : Int} (hv : 0 ≤ v ∧ v < 256) (h0 : 0 ≤ j) (h1 : j < 8) : zxor v (zshl 1 j) = flipb v j := by
  have key : ∀ a : Fin 8, zshl 1 (a.val : Int) = ofBits (fun i => if i = (a.val : Int) then 1 else 0) := by decide +kernel
  obtain ⟨a, rfl⟩ := z_nat h0
  have e := key ⟨a, by omega⟩
  have hb : ∀ i, 0 ≤ i → i < 8 → (fun i => if i = (a : Int) then (1 : Int) else 0) i = 0 ∨ (fun i => if i = (a : Int) then (1 : Int) else 0) i = 1 := fun i _ _ => ite_in (Or.inr rfl) (Or.inl rfl)
  rw [show zshl 1 (a : Int) = _ from e, zxor_byte hv (ofBits_in hb)]
  refine ofBits_congr (fun i i0 i1 => ?_)
  show zbit v i + zbit (ofBits _) i - 2 * (zbit v i * zbit (ofBits _) i) = _
  rw [zbit_ofBits hb i0 i1]
  show zbit v i + (if i = (a : Int) then 1 else 0) - 2 * (zbit v i * (if i = (a : Int) then 1 else 0)) = _
  by_cases h : i = (a : Int)
  · rw [if_pos h, if_pos h]; omega
  · rw [if_neg h, if_neg h]; omega
/-- the cells with the bit p the other one -/
def flc (c : Int → Int) (p : Int) : Int → Int := fup c (p / 8) (flipb (c (p / 8)) (p % 8))
set_option maxHeartbeats 2000000 in
theorem c_sizeIfFlipped {r p : Int} (hL : 1 ≤ L ∧ L ≤ 4) (hlv : M 5 8 = (L : Int)) (h7 : M 5 7 = r) (hr : 0 ≤ r ∧ r < 33) (hc : ∀ k, 0 ≤ k → k < p4 L → M 4 (r * 256 + k) = c k) (hcb : ∀ k, 0 ≤ k → k < p4 L → 0 ≤ c k ∧ c k < 256) (hT : Tm c L K Y S C T N) (hp : 0 ≤ p ∧ p < 8 * p4 L) :
    qCt mX6_sizeIfFlipped 0 3 [.ref 5, .int (zI p)] (tw M K Y S C T N) (qpe (tsz (flc c p) L 0) (tw M K Y S C T N)) := by
  have hpL := p4_in (L : Int)
  have hcell : 0 ≤ p / 8 ∧ p / 8 < p4 L := by omega
  have hcc := hcb _ hcell.1 hcell.2
  have hv := flipb_in (c (p / 8)) (p % 8)
  have hK0 := KP_0 (v := flipb (c (p / 8)) (p % 8)) hL hcb hT.1 hcell hv
  refine q_intro (own := 6) (L := [some (.ref 5), some (.int (zI p)), none, none, none, none]) md_X6_sizeIfFlipped rfl rfl rfl (Nat.le_of_ble_eq_true rfl) (fun X => ?_)
  refine q_iload_n dX6_sizeIfFlipped_0 rfl ?_
  refine q_iconst dX6_sizeIfFlipped_1 ?_
  refine q_ishr dX6_sizeIfFlipped_2 ?_
  rw [zshr_3 (by omega) (by omega)]
  refine q_istore_n dX6_sizeIfFlipped_3 (Nat.le_of_ble_eq_true rfl) rfl ?_
  refine q_aload_n dX6_sizeIfFlipped_4 rfl ?_
  refine q_getr dX6_sizeIfFlipped_5 fl_6_35 rfl rfl ?_
  refine q_aload_n dX6_sizeIfFlipped_8 rfl ?_
  refine q_geti (j := 7) dX6_sizeIfFlipped_9 fl_6_39 rfl rfl rfl ?_
  refine q_iload_n dX6_sizeIfFlipped_12 rfl ?_
  rw [tw_5, h7]
  refine q_V2 dX6_sizeIfFlipped_13 ml_6_50 md_X0_cell (c_cell hr (by omega)) rfl rfl rfl (by first | decide | omega) (Nat.le_of_ble_eq_true rfl) (Nat.le_of_ble_eq_true rfl) (qk_e ?_)
  rw [tw_4, hc _ hcell.1 hcell.2]
  refine q_iconst dX6_sizeIfFlipped_16 ?_
  refine q_iload_n dX6_sizeIfFlipped_17 rfl ?_
  refine q_bipush dX6_sizeIfFlipped_18 rfl ?_
  refine q_iand dX6_sizeIfFlipped_20 ?_
  rw [zand_7 (by omega) (by omega)]
  refine q_ishl dX6_sizeIfFlipped_21 ?_
  refine q_ixor dX6_sizeIfFlipped_22 ?_
  rw [flipb_x hcc (by omega) (by omega)]
  refine q_S1 dX6_sizeIfFlipped_23 ml_6_56 md_X6_kindOfCell (c_kindOfCell hv) rfl (by first | decide | omega) (Nat.le_of_ble_eq_true rfl) (Nat.le_of_ble_eq_true rfl) (qk_e ?_)
  refine q_istore_n dX6_sizeIfFlipped_26 (Nat.le_of_ble_eq_true rfl) rfl ?_
  refine q_iconst dX6_sizeIfFlipped_27 ?_
  refine q_istore dX6_sizeIfFlipped_28 (Nat.le_of_ble_eq_true rfl) rfl ?_
  refine q_iconst dX6_sizeIfFlipped_30 ?_
  refine q_istore dX6_sizeIfFlipped_31 (Nat.le_of_ble_eq_true rfl) rfl ?_
  refine q_lp (α := Nat × Int) (fun x => L + 1 - x.1) (fun x => x.1 ≤ L ∧ KP (flc c p) L x.1 (p / 8 / p4 x.1) x.2 K) (fun x => [some (.ref 5), some (.int (zI p)), some (.int (zI (p / 8 / p4 x.1))), some (.int (zI x.2)), some (.int (zI (tsz (flc c p) x.1 (p / 8 / p4 x.1)))), some (.int (zI ((x.1 : Int) + 1)))]) (fun _ => tw M K Y S C T N) (0, kcell (flipb (c (p / 8)) (p % 8))) (by dsimp only; rw [show ((0 : Nat) : Int) = 0 from rfl, p4_0, Int.ediv_one]; rfl) rfl ⟨by dsimp only; omega, by dsimp only; rw [show ((0 : Nat) : Int) = 0 from rfl, p4_0, Int.ediv_one]; exact hK0⟩ (fun x hx ih => ?_)
  obtain ⟨l, kd⟩ := x
  obtain ⟨hl0, hl1⟩ := hx
  dsimp only at hl0 hl1 ih ⊢
  refine q_iload dX6_sizeIfFlipped_33 rfl ?_
  refine q_aload_n dX6_sizeIfFlipped_35 rfl ?_
  refine q_geti (j := 8) dX6_sizeIfFlipped_36 fl_6_43 rfl rfl rfl ?_
  rw [tw_5, hlv]
  refine q_icmp_gt (tgt := 73) dX6_sizeIfFlipped_39 rfl (by (first | (unfold zR; omega) | (unfold zLR; omega) | omega | (simp only [zR, qup] at *; omega) | (simp [zR, qup]; omega) | (simp [zR, qup]; done))) (by (first | (unfold zR; omega) | (unfold zLR; omega) | omega | (simp only [zR, qup] at *; omega) | (simp [zR, qup]; omega) | (simp [zR, qup]; done))) (fun h39 => ?_) (fun h39 => ?_)
  rotate_left
  ·
    refine q_aload_n dX6_sizeIfFlipped_42 rfl ?_
    refine q_iload dX6_sizeIfFlipped_43 rfl ?_
    refine q_iload_n dX6_sizeIfFlipped_45 rfl ?_
    refine q_iload_n dX6_sizeIfFlipped_46 rfl ?_
    refine q_iload dX6_sizeIfFlipped_47 rfl ?_
    refine q_V4 dX6_sizeIfFlipped_49 ml_6_101 md_X6_sizeWith (c_sizeWith (c := c) (cell := p / 8) (v := flipb (c (p / 8)) (p % 8)) hL (by omega) hcb hT hcell rfl hl1 rfl) rfl rfl rfl (by first | decide | omega) (Nat.le_of_ble_eq_true rfl) (Nat.le_of_ble_eq_true rfl) (qk_e ?_)
    refine q_istore dX6_sizeIfFlipped_52 (Nat.le_of_ble_eq_true rfl) rfl ?_
    refine q_aload_n dX6_sizeIfFlipped_54 rfl ?_
    refine q_iload dX6_sizeIfFlipped_55 rfl ?_
    refine q_iload_n dX6_sizeIfFlipped_57 rfl ?_
    refine q_iload_n dX6_sizeIfFlipped_58 rfl ?_
    refine q_V3 dX6_sizeIfFlipped_59 ml_6_105 md_X6_kindWith (c_kindWith (c := c) (cell := p / 8) (v := flipb (c (p / 8)) (p % 8)) hL (by omega) hlv hcb hT hcell rfl hl1) rfl rfl rfl (by first | decide | omega) (Nat.le_of_ble_eq_true rfl) (Nat.le_of_ble_eq_true rfl) (qk_g (fun z59 N59 hq59 => ?_))
    obtain ⟨rfl, hz⟩ := hq59
    have hci := cell_in (l := l) hL.2 hl0 hcell
    have hpp := p4_in ((L : Int) - l)
    refine q_istore_n dX6_sizeIfFlipped_62 (Nat.le_of_ble_eq_true rfl) rfl ?_
    refine q_iload_n dX6_sizeIfFlipped_63 rfl ?_
    refine q_iconst dX6_sizeIfFlipped_64 ?_
    refine q_ishr dX6_sizeIfFlipped_65 ?_
    rw [zshr_2 (by omega) (by omega)]
    refine q_istore_n dX6_sizeIfFlipped_66 (Nat.le_of_ble_eq_true rfl) rfl ?_
    refine q_iinc dX6_sizeIfFlipped_67 rfl (Nat.le_of_ble_eq_true rfl) rfl ?_
    refine q_goto (tgt := 33) dX6_sizeIfFlipped_70 rfl ?_
    have eu := cell_up (l := l) (cell := p / 8) (by omega)
    rw [eu] at hz
    exact ih (l + 1, z59) _ _ ⟨by dsimp only; omega, hz⟩ (by dsimp only; omega) (by rw [eu]; rfl) rfl
  refine q_iload dX6_sizeIfFlipped_73 rfl ?_
  refine q_ireturn dX6_sizeIfFlipped_75 ?_
  have hl : l = L := by omega
  subst hl
  have hci := cell_in (l := l) hL.2 (Nat.le_refl l) hcell
  rw [show (l : Int) - l = 0 by omega, p4_0] at hci
  exact ⟨by rw [show p / 8 / p4 l = 0 by omega], rfl⟩
end TF


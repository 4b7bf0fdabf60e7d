/-! Kinds of blocks: when a level is measured. -/
def kv (Yl : Int → Int) (x key z : Int) : Prop := (key = 0 ∧ z = 0) ∨ (key = 16843009 ∧ z = 1) ∨ (key ≠ 0 ∧ key ≠ 16843009 ∧ ∃ f, 0 ≤ f ∧ f ≤ x ∧ z = f + 2 ∧ Yl f = key ∧ ∀ g, 0 ≤ g → g < f → Yl g ≠ key)
theorem kkP_kv {Yl : Int → Int} {n x key z : Int} (h : kkP Yl n key z) (hx : 0 ≤ x ∧ x < n) (hk : Yl x = key) : kv Yl x key z := by
  rcases h with h | h | ⟨h1, h2, ⟨f, f0, f1, hz, hf, hg⟩ | ⟨hg, -⟩⟩
  · exact Or.inl h
  · exact Or.inr (Or.inl h)
  · refine Or.inr (Or.inr ⟨h1, h2, f, f0, ?_, hz, hf, hg⟩)
    by_cases e : x < f
    · exact absurd hk (hg x hx.1 e)
    · omega
  · exact absurd hk (hg x hx.1 hx.2)
theorem kv_in {Yl : Int → Int} {x key z : Int} (h : kv Yl x key z) (hx : 0 ≤ x) : 0 ≤ z ∧ z ≤ x + 2 := by
  rcases h with h | h | ⟨-, -, f, h⟩ <;> omega
theorem kv_0 {Yl : Int → Int} {x key z : Int} (h : kv Yl x key z) : z = 0 ↔ key = 0 := by
  rcases h with h | h | ⟨n0, n1, f, h⟩ <;> omega
theorem kv_1 {Yl : Int → Int} {x key z : Int} (h : kv Yl x key z) : z = 1 ↔ key = 16843009 := by
  rcases h with h | h | ⟨n0, n1, f, h⟩ <;> omega
theorem kv_eq {Yl : Int → Int} {x y kx ky zx zy : Int} (h : kv Yl x kx zx) (h' : kv Yl y ky zy) : zx = zy ↔ kx = ky := by
  rcases h with h | h | ⟨h1, h2, f, f0, f1, hz, hf, hg⟩
  · rcases h' with h' | h' | ⟨n0, n1, f, h'⟩ <;> omega
  · rcases h' with h' | h' | ⟨n0, n1, f, h'⟩ <;> omega
  · rcases h' with h' | h' | ⟨h1', h2', f', f0', f1', hz', hf', hg'⟩
    · omega
    · omega
    · constructor
      · intro e
        have : f = f' := by omega
        subst this
        rw [← hf, hf']
      · intro e
        subst e
        by_cases a : f < f'
        · exact absurd hf (hg' f f0 a)
        · by_cases b : f' < f
          · exact absurd hf' (hg f' f0' b)
          · omega
theorem kv_congr {Yl Yl' : Int → Int} {x key z : Int} (h : kv Yl x key z) (e : ∀ g, 0 ≤ g → g ≤ x → Yl' g = Yl g) : kv Yl' x key z := by
  rcases h with h | h | ⟨h1, h2, f, f0, f1, hz, hf, hg⟩
  · exact Or.inl h
  · exact Or.inr (Or.inl h)
  · exact Or.inr (Or.inr ⟨h1, h2, f, f0, f1, hz, by rw [e f f0 f1]; exact hf, fun g g0 g1 => by rw [e g g0 (by omega)]; exact hg g g0 g1⟩)
/-- codes and sizes by kinds -/
theorem gk_code {c : Int → Int} {l : Nat} {b : Int} {f : Nat → Int} (hb : 0 ≤ b) (hf : ∀ q : Nat, q < 4 → f q ≠ -1) (h0 : ∀ q : Nat, q < 4 → (f q = 0 ↔ allv c l (4 * b + q) 0)) (h1 : ∀ q : Nat, q < 4 → (f q = 1 ↔ allv c l (4 * b + q) 255)) (hp : ∀ q q' : Nat, q < 4 → q' < 4 → (f q = f q' ↔ same c l (4 * b + q) (4 * b + q'))) : ∀ i : Nat, i ≤ 4 → ((lk f i = -1 ∧ qlast c l b i = -1) ∨ ∃ q : Nat, q < i ∧ lk f i = f q ∧ qlast c l b i = 4 * b + q) ∧ ∀ j : Nat, j < i → gk f j = qcode c l b j := by
  intro i
  induction i with
  | zero => intro _; exact ⟨Or.inl ⟨rfl, rfl⟩, fun j h => by omega⟩
  | succ i ih =>
    intro hi
    obtain ⟨ih1, ih2⟩ := ih (by omega)
    have e : gk f i = qcode c l b i := by
      have hfi := hf i (by omega)
      have hi0 := h0 i (by omega)
      have hi1 := h1 i (by omega)
      unfold gk ckind qcode tc
      by_cases a0 : allv c l (4 * b + i) 0
      · rw [cif_t a0, if_pos (Or.inl (hi0.mpr a0)), hi0.mpr a0]
      · rw [cif_f a0]
        by_cases a1 : allv c l (4 * b + i) 255
        · rw [cif_t a1, if_pos (Or.inr (hi1.mpr a1)), hi1.mpr a1]
        · rw [cif_f a1, if_neg (fun q => q.elim (fun q => a0 (hi0.mp q)) (fun q => a1 (hi1.mp q)))]
          have n0 : ¬ f i = 0 := fun q => a0 (hi0.mp q)
          rcases ih1 with ⟨l1, l2⟩ | ⟨q, hq, l1, l2⟩
          · rw [l1, l2, if_neg (by omega), cif_f (fun q => q.1 rfl)]
          · rw [l1, l2]
            by_cases s : same c l (4 * b + q) (4 * b + i)
            · rw [cif_t ⟨by omega, s⟩, if_pos ((hp i q (by omega) (by omega)).mpr (same_sy s))]
            · rw [cif_f (fun w => s w.2), if_neg (fun w => s (same_sy ((hp i q (by omega) (by omega)).mp w)))]
    refine ⟨?_, fun j hj => ?_⟩
    · rw [qlast_s, ← e]
      show (((if gk f i = 2 then f i else lk f i) = -1 ∧ _) ∨ ∃ q : Nat, q < i + 1 ∧ (if gk f i = 2 then f i else lk f i) = f q ∧ _)
      by_cases g : gk f i = 2
      · rw [if_pos g, if_pos g]; exact Or.inr ⟨i, by omega, rfl, rfl⟩
      · rw [if_neg g, if_neg g]
        rcases ih1 with h | ⟨q, hq, h⟩
        · exact Or.inl h
        · exact Or.inr ⟨q, by omega, h⟩
    · by_cases o : j = i
      · rw [o]; exact e
      · exact ih2 j (by omega)
theorem sm_tsz {c : Int → Int} {l : Nat} {b : Int} {f s : Nat → Int} (hg : ∀ j : Nat, j < 4 → gk f j = qcode c l b j) (hs : ∀ q : Nat, q < 4 → s q = tsz c l (4 * b + q)) : sm f s 4 = tsz c (l + 1) b := by
  have : ∀ i : Nat, i ≤ 4 → sm f s i = 1 + tsum c (tsz c l) l b i := by
    intro i
    induction i with
    | zero => intro _; rfl
    | succ i ih =>
      intro hi
      rw [sm, tsum, ih (by omega), hg i (by omega), hs i (by omega)]
      omega
  exact this 4 (by omega)
/-- what is known of a block that is measured -/
def Td (c : Int → Int) (l : Nat) (x : Int) (K Y S C : Int → Int) : Prop := 0 ≤ K (nd l x) ∧ K (nd l x) < 256 ∧ (K (nd l x) = 0 ↔ allv c l x 0) ∧ (K (nd l x) = 1 ↔ allv c l x 255) ∧ S (nd l x) = tsz c l x ∧ (l = 0 → K (nd l x) = kcell (c x)) ∧
  ∀ k : Nat, l = k + 1 → Y (nd l x) = pkk (kf K k x) 4 ∧ kv (fun g => Y (nd l g)) x (Y (nd l x)) (K (nd l x)) ∧ ∀ q : Nat, q < 4 → C (nd k (4 * x + q)) = qcode c k x q
def don (L l : Nat) (b : Int) (k : Nat) (x : Int) : Prop := 0 ≤ x ∧ k ≤ L ∧ x < p4 ((L : Int) - k) ∧ (k < l ∨ (k = l ∧ x < b))
def Ti (c : Int → Int) (L l : Nat) (b : Int) (K Y S C : Int → Int) : Prop := ∀ (k : Nat) (x : Int), don L l b k x → Td c k x K Y S C
theorem p4_kid {L l : Nat} {x : Int} {q : Nat} (hl : l + 1 ≤ L) (hL : L ≤ 4) (h : 0 ≤ x ∧ x < p4 ((L : Int) - (l + 1))) (hq : q < 4) : 0 ≤ 4 * x + q ∧ 4 * x + q < p4 ((L : Int) - l) := by
  have := p4_s (l := (L : Int) - (l + 1)) (by omega)
  rw [show (L : Int) - (l + 1) + 1 = L - l by omega] at this
  omega
theorem nd_ne {L k k' : Nat} {x x' : Int} (hL : L ≤ 4) (hk : k ≤ L) (hk' : k' ≤ L) (hx : 0 ≤ x ∧ x < p4 ((L : Int) - k)) (hx' : 0 ≤ x' ∧ x' < p4 ((L : Int) - k')) (h : ¬ (k = k' ∧ x = x')) : nd k x ≠ nd k' x' := by
  intro e
  have h1 := p4_le (a := (L : Int) - k) (b := 4 - k) (by omega)
  have h2 := p4_le (a := (L : Int) - k') (b := 4 - k') (by omega)
  have := nd_inj (l := k) (l' := k') (by omega) (by omega) (by omega) (by omega) e
  exact h ⟨by omega, this.2⟩
theorem par_key {c : Int → Int} {K : Int → Int} {l : Nat} {x y : Int} (hl : l < 4) (hx : ∀ q : Nat, q < 4 → 0 ≤ kf K l x q ∧ kf K l x q < 256) (hy : ∀ q : Nat, q < 4 → 0 ≤ kf K l y q ∧ kf K l y q < 256) (h : ∀ q : Nat, q < 4 → (kf K l x q = kf K l y q ↔ same c l (4 * x + q) (4 * y + q))) : pkk (kf K l x) 4 = pkk (kf K l y) 4 ↔ same c ((l : Int) + 1) x y := by
  rw [pkk_inj hx hy, same_s (by omega)]
  constructor
  · intro a q q0 q1
    obtain ⟨n, rfl⟩ := z_nat q0
    exact (h n (by omega)).mp (a n (by omega))
  · intro a q hq
    exact (h q hq).mpr (a q (by omega) (by omega))
theorem par_all {c : Int → Int} {l : Nat} {x v : Int} {p : Nat → Prop} (hl : l < 4) (h : ∀ q : Nat, q < 4 → (p q ↔ allv c l (4 * x + q) v)) : (∀ q : Nat, q < 4 → p q) ↔ allv c ((l : Int) + 1) x v := by
  rw [allv_s (by omega)]
  constructor
  · intro a q q0 q1
    obtain ⟨n, rfl⟩ := z_nat q0
    exact (h n (by omega)).mp (a n (by omega))
  · intro a q hq
    exact (h q hq).mpr (a q (by omega) (by omega))
theorem don_kid {L l k : Nat} {b x : Int} {q : Nat} (hL : L ≤ 4) (h : don L l b (k + 1) x) (hq : q < 4) : don L l b k (4 * x + q) := by
  obtain ⟨h0, h1, h2, h3⟩ := h
  have := p4_kid (l := k) (x := x) h1 hL ⟨h0, by rw [show ((k + 1 : Nat) : Int) = (k : Int) + 1 by omega] at h2; exact h2⟩ hq
  exact ⟨this.1, by omega, this.2, Or.inl (by omega)⟩
theorem Ti_pair {c : Int → Int} {L l : Nat} {b : Int} {K Y S C : Int → Int} (hL : L ≤ 4) (hc : ∀ k, 0 ≤ k → k < p4 (L : Int) → 0 ≤ c k ∧ c k < 256) (h : Ti c L l b K Y S C) : ∀ (k : Nat) (x y : Int), don L l b k x → don L l b k y → (K (nd k x) = K (nd k y) ↔ same c k x y) := by
  intro k
  induction k with
  | zero =>
    intro x y hx hy
    have h1 := (h 0 x hx).2.2.2.2.2.1 rfl
    have h2 := (h 0 y hy).2.2.2.2.2.1 rfl
    rw [h1, h2, show ((0 : Nat) : Int) = 0 from rfl, same_0]
    have e : ((L : Int) - ((0 : Nat) : Int)) = L := by omega
    exact kcell_e (hc x hx.1 (by have := hx.2.2.1; rwa [e] at this)) (hc y hy.1 (by have := hy.2.2.1; rwa [e] at this))
  | succ k ih =>
    intro x y hx hy
    obtain ⟨a1, a2, a3⟩ := (h (k + 1) x hx).2.2.2.2.2.2 k rfl
    obtain ⟨b1, b2, b3⟩ := (h (k + 1) y hy).2.2.2.2.2.2 k rfl
    rw [kv_eq a2 b2, a1, b1]
    exact par_key (by have := hx.2.1; omega) (fun q hq => ⟨(h k _ (don_kid hL hx hq)).1, (h k _ (don_kid hL hx hq)).2.1⟩) (fun q hq => ⟨(h k _ (don_kid hL hy hq)).1, (h k _ (don_kid hL hy hq)).2.1⟩) (fun q hq => ih _ _ (don_kid hL hx hq) (don_kid hL hy hq))
theorem Ti_0 {c : Int → Int} {L : Nat} {b : Int} {K Y S C : Int → Int} (hL : L ≤ 4) (hb : 0 ≤ b ∧ b < p4 (L : Int)) (hc : ∀ k, 0 ≤ k → k < p4 (L : Int) → 0 ≤ c k ∧ c k < 256) (h : Ti c L 0 b K Y S C) : Ti c L 0 (b + 1) (fup K b (kcell (c b))) Y (fup S b 1) C := by
  have n0 : ∀ x : Int, nd ((0 : Nat) : Int) x = x := fun x => by show (0 : Int) + x = x; omega
  intro k x hx
  obtain ⟨hx0, hxk, hx1, a | ⟨rfl, hx2⟩⟩ := hx
  · omega
  by_cases e : x = b
  · subst e
    have hv := hc x hb.1 hb.2
    unfold Td
    rw [n0, fup_s, fup_s]
    refine ⟨(kcell_in hv).1, (kcell_in hv).2, ?_, ?_, rfl, fun _ => rfl, fun k hk => by omega⟩
    · rw [kcell_0 hv]; exact allv_0.symm
    · rw [kcell_1 hv]; exact allv_0.symm
  · have t := h 0 x ⟨hx0, hxk, hx1, Or.inr ⟨rfl, by omega⟩⟩
    unfold Td at t ⊢
    rw [n0] at t ⊢
    rw [fup_n _ e, fup_n _ e]
    obtain ⟨t1, t2, t3, t4, t5, t6, t7⟩ := t
    exact ⟨t1, t2, t3, t4, t5, t6, fun k hk => by omega⟩
set_option maxHeartbeats 1000000 in
theorem Ti_up {c : Int → Int} {L l : Nat} {b z : Int} {K Y S C : Int → Int} (hL : L ≤ 4) (hl : l < L) (hb : 0 ≤ b ∧ b < p4 ((L : Int) - (l + 1))) (hc : ∀ k, 0 ≤ k → k < p4 (L : Int) → 0 ≤ c k ∧ c k < 256) (h : Ti c L (l + 1) b K Y S C)
    (hz : kkP (fun g => fup Y (nd ((l : Int) + 1) b) (pkk (kf K l b) 4) (nd ((l : Int) + 1) g)) (p4 ((L : Int) - (l + 1))) (pkk (kf K l b) 4) z) :
    Ti c L (l + 1) (b + 1) (fup K (nd ((l : Int) + 1) b) z) (fup Y (nd ((l : Int) + 1) b) (pkk (kf K l b) 4)) (fup S (nd ((l : Int) + 1) b) (sm (kf K l b) (fun q => S (nd (l : Int) (4 * b + (q : Int)))) 4)) (fupq C (nd (l : Int) (4 * b)) (gk (kf K l b)) 4) := by
  have el : ((l + 1 : Nat) : Int) = (l : Int) + 1 := by omega
  have hkid : ∀ q : Nat, q < 4 → don L (l + 1) b l (4 * b + q) := fun q hq => by
    have := p4_kid (x := b) (show l + 1 ≤ L from hl) hL hb hq
    exact ⟨this.1, by omega, this.2, Or.inl (by omega)⟩
  have hf : ∀ q : Nat, q < 4 → 0 ≤ kf K l b q ∧ kf K l b q < 256 := fun q hq => ⟨(h l _ (hkid q hq)).1, (h l _ (hkid q hq)).2.1⟩
  have hg := gk_code (c := c) (l := l) (b := b) (f := kf K l b) hb.1 (fun q hq => by have := hf q hq; omega) (fun q hq => (h l _ (hkid q hq)).2.2.1) (fun q hq => (h l _ (hkid q hq)).2.2.2.1) (fun q q' hq hq' => Ti_pair hL hc h l _ _ (hkid q hq) (hkid q' hq')) 4 (by omega)
  have hkv : kv (fun g => fup Y (nd ((l : Int) + 1) b) (pkk (kf K l b) 4) (nd ((l : Int) + 1) g)) b (pkk (kf K l b) 4) z := kkP_kv hz hb (fup_s _ _ _)
  intro k x hx
  obtain ⟨hx0, hxk, hx1, hx2⟩ := hx
  by_cases e : k = l + 1 ∧ x = b
  · obtain ⟨rfl, rfl⟩ := e
    unfold Td
    rw [el, fup_s, fup_s, fup_s]
    have hzi := kv_in hkv hb.1
    have hp : p4 ((L : Int) - (l + 1)) ≤ p4 3 := p4_le (by omega)
    have hp3 : p4 3 = 64 := by decide
    refine ⟨hzi.1, by omega, ?_, ?_, ?_, fun q => by omega, fun k hk => ?_⟩
    · rw [kv_0 hkv, pkk_0 hf]
      exact par_all (by omega) (fun q hq => (h l _ (hkid q hq)).2.2.1)
    · rw [kv_1 hkv, pkk_1 hf]
      exact par_all (by omega) (fun q hq => (h l _ (hkid q hq)).2.2.2.1)
    · exact sm_tsz hg.2 (fun q hq => (h l _ (hkid q hq)).2.2.2.2.1)
    · have ek : k = l := by omega
      subst ek
      refine ⟨?_, hkv, fun q hq => ?_⟩
      · have : kf (fup K (nd ((k : Int) + 1) x) z) k x = fun q : Nat => fup K (nd ((k : Int) + 1) x) z (nd (k : Int) (4 * x + (q : Int))) := rfl
        rw [this]
        have hq : ∀ q : Nat, q < 4 → kf K k x q = fup K (nd ((k : Int) + 1) x) z (nd (k : Int) (4 * x + (q : Int))) := fun q hq => by
          have hd := hkid q hq
          rw [fup_n]
          · rfl
          · rw [← el]; exact nd_ne hL (by omega) (by omega) ⟨hd.1, hd.2.2.1⟩ ⟨hx0, hx1⟩ (fun w => by omega)
        simp only [pkk]
        rw [hq 0 (by omega), hq 1 (by omega), hq 2 (by omega), hq 3 (by omega)]
      · rw [nd_add, fupq_at hq]
        exact hg.2 q hq
  · have hd : don L (l + 1) b k x := ⟨hx0, hxk, hx1, by
      rcases hx2 with a | ⟨a, a2⟩
      · exact Or.inl a
      · exact Or.inr ⟨a, by
          have : x ≠ b := fun q => e ⟨a, q⟩
          omega⟩⟩
    have hbn : 0 ≤ b ∧ b < p4 ((L : Int) - ((l + 1 : Nat) : Int)) := by rw [el]; exact hb
    have hne : nd k x ≠ nd ((l : Int) + 1) b := by rw [← el]; exact nd_ne hL hxk (by omega) ⟨hx0, hx1⟩ hbn e
    have t := h k x hd
    unfold Td at t ⊢
    rw [fup_n _ hne, fup_n _ hne, fup_n _ hne]
    obtain ⟨t1, t2, t3, t4, t5, t6, t7⟩ := t
    refine ⟨t1, t2, t3, t4, t5, t6, fun k' hk' => ?_⟩
    subst hk'
    obtain ⟨u1, u2, u3⟩ := t7 k' rfl
    have hkid2 : ∀ q : Nat, q < 4 → don L (l + 1) b k' (4 * x + q) := fun q hq => don_kid hL hd hq
    refine ⟨?_, kv_congr u2 (fun g g0 g1 => ?_), fun q hq => ?_⟩
    · rw [u1]
      have hq : ∀ q : Nat, q < 4 → kf K k' x q = fup K (nd ((l : Int) + 1) b) z (nd (k' : Int) (4 * x + (q : Int))) := fun q hq => by
        have hd2 := hkid2 q hq
        rw [fup_n]
        · rfl
        · rw [← el]; exact nd_ne hL (by omega) (by omega) ⟨hd2.1, hd2.2.2.1⟩ hbn (fun w => by
            rcases hd.2.2.2 with a | ⟨a, a2⟩
            · omega
            · omega)
      simp only [pkk]
      rw [hq 0 (by omega), hq 1 (by omega), hq 2 (by omega), hq 3 (by omega)]
      rfl
    · show fup Y (nd ((l : Int) + 1) b) _ (nd ((k' + 1 : Nat) : Int) g) = _
      rw [fup_n]
      rw [← el]
      exact nd_ne hL hxk (by omega) ⟨g0, by omega⟩ hbn (fun w => by
        rcases hd.2.2.2 with a | ⟨a, a2⟩
        · omega
        · omega)
    · rw [fupq_n, u3 q hq]
      intro q' hq' w
      rw [← nd_add] at w
      have hd2 := hkid2 q hq
      have hd3 := hkid q' hq'
      refine nd_ne hL hd2.2.1 hd3.2.1 ⟨hd2.1, hd2.2.2.1⟩ ⟨hd3.1, hd3.2.2.1⟩ (fun w2 => ?_) w
      refine e ⟨by omega, by omega⟩
theorem Ti_next {c : Int → Int} {L l : Nat} {b : Int} {K Y S C : Int → Int} (h : Ti c L l b K Y S C) (hb : p4 ((L : Int) - l) ≤ b) : Ti c L (l + 1) 0 K Y S C := by
  intro k x ⟨h0, h1, h2, h3⟩
  refine h k x ⟨h0, h1, h2, ?_⟩
  rcases h3 with a | ⟨a, a2⟩
  · by_cases e : k = l
    · subst e; exact Or.inr ⟨rfl, by omega⟩
    · exact Or.inl (by omega)
  · omega


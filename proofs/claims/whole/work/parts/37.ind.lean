/-! What a tree reads does not depend on the cells before. -/
theorem bad_c {w w' : Int → Int} {l b last : Int} (h : blkE w w' l b) (h2 : last ≠ -1 → blkE w w' l last) : bad w l b last ↔ bad w' l b last := by
  unfold bad
  rw [allv_c h, allv_c (v := 255) h]
  constructor
  · rintro (a | a | ⟨a, a2⟩)
    · exact Or.inl a
    · exact Or.inr (Or.inl a)
    · exact Or.inr (Or.inr ⟨a, (same_c (h2 a) h).mp a2⟩)
  · rintro (a | a | ⟨a, a2⟩)
    · exact Or.inl a
    · exact Or.inr (Or.inl a)
    · exact Or.inr (Or.inr ⟨a, (same_c (h2 a) h).mpr a2⟩)
theorem qif_c {p q : Prop} {a b c d : qR} (h : p ↔ q) (e1 : a = c) (e2 : b = d) : qif p a b = qif q c d := by rw [propext h, e1, e2]
theorem rc_ind (n : Int) (src : Int → Int) : ∀ (l : Nat), l ≤ 4 → ∀ (b p : Int) (w w' : Int → Int) (k k' : qKt) (S : Int → Prop), 0 ≤ b → (∀ x, S x → w x = w' x) → (∀ p1 w1 w1', (∀ x, (S x ∨ (p4 l * b ≤ x ∧ x < p4 l * b + p4 l)) → w1 x = w1' x) → k p1 w1 = k' p1 w1') → rc n src l b p w k = rc n src l b p w' k' := by
  intro l
  induction l with
  | zero =>
    intro _ b p w w' k k' S hb hS hk
    rw [rc, rc]
    by_cases h : p = n
    · rw [if_pos h, if_pos h]
    · rw [if_neg h, if_neg h]
      refine hk _ _ _ (fun x hx => ?_)
      unfold fup
      by_cases e : x = b
      · rw [if_pos e, if_pos e]
      · rw [if_neg e, if_neg e]
        rcases hx with hx | hx
        · exact hS x hx
        · rw [show ((0 : Nat) : Int) = 0 from rfl, p4_0] at hx; omega
  | succ l ih =>
    intro hl b p w w' k k' S hb hS hk
    have hpl := p4_in (l : Int)
    have e4 : ∀ q : Int, p4 l * (4 * b + q) = p4 l * (4 * b) + p4 l * q := fun q => Int.mul_add _ _ _
    have eb : p4 ((l + 1 : Nat) : Int) * b = p4 l * (4 * b) := by rw [show ((l + 1 : Nat) : Int) = (l : Int) + 1 by omega, p4_s (by omega), Int.mul_comm 4 (p4 l), Int.mul_assoc]
    have e44 : p4 ((l + 1 : Nat) : Int) = p4 l * 4 := by rw [show ((l + 1 : Nat) : Int) = (l : Int) + 1 by omega, p4_s (by omega), Int.mul_comm]
    rw [rc, rc]
    by_cases h : p = n
    · rw [if_pos h, if_pos h]
    · rw [if_neg h, if_neg h]
      by_cases hd : hdOk (src p)
      · rw [qif_t hd, qif_t hd]
        generalize src p = v at hd
        have key : ∀ j : Nat, ∀ i : Nat, i + j = 4 → ∀ (p : Int) (w w' : Int → Int), (∀ x, (S x ∨ (p4 l * (4 * b) ≤ x ∧ x < p4 l * (4 * b) + p4 l * i)) → w x = w' x) → rl (rc n src l) l b v (4 - i) p w k = rl (rc n src l) l b v (4 - i) p w' k' := by
          intro j
          induction j with
          | zero =>
            intro i hi p w w' hw
            rw [show i = 4 by omega, rl_4, rl_4]
            refine hk _ _ _ (fun x hx => hw x ?_)
            rcases hx with hx | hx
            · exact Or.inl hx
            · rw [eb, e44] at hx; rw [show i = 4 by omega]; exact Or.inr hx
          | succ j ihj =>
            intro i hi p w w' hw
            have hi4 : i < 4 := by omega
            have ei : p4 l * ((i + 1 : Nat) : Int) = p4 l * i + p4 l := by rw [show ((i + 1 : Nat) : Int) = (i : Int) + 1 by omega, Int.mul_add, Int.mul_one]
            have emul : p4 l * (4 * b + (i : Int)) = p4 l * (4 * b) + p4 l * i := e4 i
            have kid : ∀ (w w' : Int → Int), (∀ x, (S x ∨ (p4 l * (4 * b) ≤ x ∧ x < p4 l * (4 * b) + p4 l * i)) → w x = w' x) → ∀ t : Int, 0 ≤ t → t < i → blkE w w' l (4 * b + t) := by
              intro w w' hw t t0 t1 q q0 q1
              refine hw _ (Or.inr ?_)
              rw [e4]
              have a1 : 0 ≤ p4 l * t := Int.mul_nonneg (by omega) t0
              have a2 : p4 l * (t + 1) ≤ p4 l * i := Int.mul_le_mul_of_nonneg_left (by omega) (by omega)
              rw [Int.mul_add, Int.mul_one] at a2
              omega
            have hlt := lastT_in v i
            rw [rl_i _ _ _ _ hi4, rl_i _ _ _ _ hi4]
            by_cases c0 : hcode v i < 2
            · rw [if_pos c0, if_pos c0]
              refine ihj (i + 1) (by omega) p _ _ (fun x hx => ?_)
              unfold fset
              by_cases g : p4 l * (4 * b + i) ≤ x ∧ x < p4 l * (4 * b + i) + p4 l
              · rw [if_pos g, if_pos g]
              · rw [if_neg g, if_neg g]
                refine hw x ?_
                rcases hx with hx | hx
                · exact Or.inl hx
                · exact Or.inr (by omega)
            · rw [if_neg c0, if_neg c0]
              by_cases c3 : hcode v i = 3
              · rw [if_pos c3, if_pos c3]
                have hl3 := hd i hi4 c3
                refine ihj (i + 1) (by omega) p _ _ (fun x hx => ?_)
                unfold fcpy
                by_cases g : p4 l * (4 * b + i) ≤ x ∧ x < p4 l * (4 * b + i) + p4 l
                · rw [if_pos g, if_pos g]
                  exact kid w w' hw (lastT v i) (by omega) (by omega) _ (by omega) (by omega)
                · rw [if_neg g, if_neg g]
                  refine hw x ?_
                  rcases hx with hx | hx
                  · exact Or.inl hx
                  · exact Or.inr (by omega)
              · rw [if_neg c3, if_neg c3]
                refine ih (by omega) (4 * b + i) p w w' _ _ (fun x => S x ∨ (p4 l * (4 * b) ≤ x ∧ x < p4 l * (4 * b) + p4 l * i)) (by omega) hw (fun p1 w1 w1' hw1 => ?_)
                have hw2 : ∀ x, (S x ∨ (p4 l * (4 * b) ≤ x ∧ x < p4 l * (4 * b) + p4 l * i)) → w1 x = w1' x := fun x hx => hw1 x (Or.inl hx)
                refine qif_c (bad_c (fun q q0 q1 => hw1 _ (Or.inr (by omega))) (fun hl => ?_)) rfl (ihj (i + 1) (by omega) p1 w1 w1' (fun x hx => hw1 x ?_))
                · have hlb : lastB b v i = 4 * b + lastT v i := by
                    unfold lastB at hl ⊢
                    by_cases g : lastT v i = -1
                    · rw [if_pos g] at hl; exact absurd rfl hl
                    · rw [if_neg g]
                  have hn1 : lastT v i ≠ -1 := by
                    intro g
                    unfold lastB at hl
                    rw [if_pos g] at hl
                    exact hl rfl
                  rw [hlb]
                  exact kid w1 w1' hw2 (lastT v i) (by omega) (by omega)
                · rcases hx with hx | hx
                  · exact Or.inl (Or.inl hx)
                  · by_cases g : x < p4 l * (4 * b) + p4 l * i
                    · exact Or.inl (Or.inr ⟨hx.1, g⟩)
                    · exact Or.inr (by omega)
        exact key 4 0 (by omega) (p + 1) w w' (fun x hx => by
          rcases hx with hx | hx
          · exact hS x hx
          · rw [show ((0 : Nat) : Int) = 0 from rfl, Int.mul_zero] at hx; omega)
      · rw [qif_f hd, qif_f hd]
theorem oj_w (src : Int → Int) {L : Nat} (hL : L ≤ 4) (n : Int) (w : Int → Int) : rc n src L 0 0 w (rfin n L) = oj src L n := by
  refine rc_ind n src L hL 0 0 w _ _ _ (fun _ => False) (by omega) (fun x h => h.elim) (fun p1 w1 w1' h => ?_)
  unfold rfin
  by_cases e : p1 < n
  · rw [if_pos e, if_pos e]
  · rw [if_neg e, if_neg e]
    congr 1
    funext k
    by_cases g : 0 ≤ k ∧ k < p4 L
    · rw [if_pos g, if_pos g]
      exact h k (Or.inr (by rw [Int.mul_zero]; omega))
    · rw [if_neg g, if_neg g]
theorem due_n {n : Int} {src : Int → Int} {L o : Nat} {B H Q w : Int → Int} : due n src L o B H Q n w = rwr n := by
  unfold due
  cases o with
  | zero => rw [rc, if_pos rfl]
  | succ o => rw [rc, if_pos rfl]

